/-! the reference's object: the pad, reading what is on it -/
section QF
variable {M : qHp} {c : Nat → Int32} {R : Nat → Sg} {A : Nat → Nat → Int32}
def byB (x : Int64) (k : Nat) : Int32 := ((x >>> ((8 * nI k).toInt64 &&& 63)) &&& 255).toInt32
theorem s_134 {N : qHp} {x : Int64} {k : Nat} : qRun 134 [.long x, .int (nI k)] N = some (some (.int (byB x k)), N) := by
  refine qRun_of ?_ rfl
  rw [en_134]
  simp only [x_134_0, x_134_1, x_134_3, x_134_4, x_134_5, x_134_6, x_134_9, x_134_10, x_134_11, Option.bind_some, Option.bind_none, Option.toList_some, Option.toList_none, List.cons_append, List.nil_append, pNl_i, pNl_r, pNl_u, pNl_n, bI_0, bI_1, nn_or, or_nn, not_false_eq_true, not_true_eq_false, i1000, i1e0, true_or, or_true, Decidable.not_not, if_true, if_false, Bool.false_eq_true, Int32.zero_add, true_and, and_true]
  rfl
/-- n characters stand in a number -/
def tdOK (f : Nat → Int32) (n : Nat) : Prop := n ≤ 8 ∧ 0 < n ∧ (∀ k, k < n → 33 ≤ f k ∧ f k ≤ 126) ∧ ∀ k, n ≤ k → k < 8 → f k = 0
def tdR (x : Int64) (n i : Nat) : Prop := (∀ k, i ≤ k → k < 8 → byB x k = 0) ∧ n ≠ 0
theorem td_two {N : qHp} {x : Int64} {n : Nat} (hn : n ≤ 8) : ∀ (q i : Nat) (v : Int32), i + q = 8 → (tdR x n i → v = nI n) → (¬ tdR x n i → v = -2) → qEx 135 (42, [some (.long x), none, some (.int (nI n)), some (.int (nI i))], [], N) = some (some (.int v), N) := by
  intro q
  induction q with
  | zero =>
    intro i v hi k1 k2
    have hin : i = 8 := by omega
    subst hin
    have h8 : ((8 : Int32) ≤ nI 8) = True := eq_true (by decide)
    rw [x_135_42]
    by_cases h0 : n = 0
    · have e0 : (nI n = 0) = True := eq_true (by rw [h0]; rfl)
      rw [k2 (fun q => q.2 h0)]
      simp only [x_135_0, x_135_1, x_135_2, x_135_3, x_135_5, x_135_8, x_135_9, x_135_10, x_135_13, x_135_16, x_135_17, x_135_18, x_135_21, x_135_23, x_135_25, x_135_28, x_135_31, x_135_33, x_135_34, x_135_37, x_135_40, x_135_41, x_135_43, x_135_45, x_135_48, x_135_49, x_135_50, x_135_53, x_135_56, x_135_58, x_135_59, x_135_62, x_135_65, x_135_66, x_135_69, x_135_71, x_135_74, x_135_75, Option.bind_some, Option.bind_none, Option.toList_some, Option.toList_none, List.cons_append, List.nil_append, pNl_i, pNl_r, pNl_u, pNl_n, bI_0, bI_1, nn_or, or_nn, not_false_eq_true, not_true_eq_false, i1000, i1e0, true_or, or_true, Decidable.not_not, if_true, if_false, Bool.false_eq_true, Int32.zero_add, true_and, and_true, h8, e0]
    · have e0 : (nI n = 0) = False := by rw [show (0 : Int32) = nI 0 from rfl, nI_eq_iff (by omega) (by omega)]; exact eq_false h0
      rw [k1 ⟨fun k a b => by omega, h0⟩]
      simp only [x_135_0, x_135_1, x_135_2, x_135_3, x_135_5, x_135_8, x_135_9, x_135_10, x_135_13, x_135_16, x_135_17, x_135_18, x_135_21, x_135_23, x_135_25, x_135_28, x_135_31, x_135_33, x_135_34, x_135_37, x_135_40, x_135_41, x_135_43, x_135_45, x_135_48, x_135_49, x_135_50, x_135_53, x_135_56, x_135_58, x_135_59, x_135_62, x_135_65, x_135_66, x_135_69, x_135_71, x_135_74, x_135_75, Option.bind_some, Option.bind_none, Option.toList_some, Option.toList_none, List.cons_append, List.nil_append, pNl_i, pNl_r, pNl_u, pNl_n, bI_0, bI_1, nn_or, or_nn, not_false_eq_true, not_true_eq_false, i1000, i1e0, true_or, or_true, Decidable.not_not, if_true, if_false, Bool.false_eq_true, Int32.zero_add, true_and, and_true, h8, e0]
  | succ q ih =>
    intro i v hi k1 k2
    have h8 : ((8 : Int32) ≤ nI i) = False := by rw [show (8 : Int32) = nI 8 from rfl, nI_le_iff (by omega) (by omega)]; simp; omega
    rw [x_135_42]
    by_cases c1 : byB x i = 0
    · simp only [x_135_0, x_135_1, x_135_2, x_135_3, x_135_5, x_135_8, x_135_9, x_135_10, x_135_13, x_135_16, x_135_17, x_135_18, x_135_21, x_135_23, x_135_25, x_135_28, x_135_31, x_135_33, x_135_34, x_135_37, x_135_40, x_135_41, x_135_43, x_135_45, x_135_48, x_135_49, x_135_50, x_135_53, x_135_56, x_135_58, x_135_59, x_135_62, x_135_65, x_135_66, x_135_69, x_135_71, x_135_74, x_135_75, Option.bind_some, Option.bind_none, Option.toList_some, Option.toList_none, List.cons_append, List.nil_append, pNl_i, pNl_r, pNl_u, pNl_n, bI_0, bI_1, nn_or, or_nn, not_false_eq_true, not_true_eq_false, i1000, i1e0, true_or, or_true, Decidable.not_not, if_true, if_false, Bool.false_eq_true, Int32.zero_add, true_and, and_true, h8, s_134, c1, nI_1]
      refine ih (i + 1) v (by omega) (fun a => k1 ⟨fun k r1 r2 => ?_, a.2⟩) (fun a => k2 fun b => a ⟨fun k r1 r2 => b.1 k (by omega) r2, b.2⟩)
      rcases Nat.lt_or_ge i k with r | r
      · exact a.1 k r r2
      · have : k = i := by omega
        rw [this]; exact c1
    · rw [k2 (fun a => c1 (a.1 i (Nat.le_refl _) (by omega)))]
      simp only [x_135_0, x_135_1, x_135_2, x_135_3, x_135_5, x_135_8, x_135_9, x_135_10, x_135_13, x_135_16, x_135_17, x_135_18, x_135_21, x_135_23, x_135_25, x_135_28, x_135_31, x_135_33, x_135_34, x_135_37, x_135_40, x_135_41, x_135_43, x_135_45, x_135_48, x_135_49, x_135_50, x_135_53, x_135_56, x_135_58, x_135_59, x_135_62, x_135_65, x_135_66, x_135_69, x_135_71, x_135_74, x_135_75, Option.bind_some, Option.bind_none, Option.toList_some, Option.toList_none, List.cons_append, List.nil_append, pNl_i, pNl_r, pNl_u, pNl_n, bI_0, bI_1, nn_or, or_nn, not_false_eq_true, not_true_eq_false, i1000, i1e0, true_or, or_true, Decidable.not_not, if_true, if_false, Bool.false_eq_true, Int32.zero_add, true_and, and_true, h8, s_134, c1]
theorem s_135 {N : qHp} {x : Int64} {n : Nat} (h : tdOK (byB x) n) : qRun 135 [.long x] N = some (some (.int (nI n)), N) := by
  obtain ⟨h1, h2, h3, h4⟩ := h
  have loop : ∀ (q i : Nat), i + q = n → qEx 135 (2, [some (.long x), none, some (.int (nI i)), none], [], N) = some (some (.int (nI n)), N) := by
    intro q
    induction q with
    | zero =>
      intro i hi
      have hin : i = n := by omega
      subst hin
      have e := @td_two N x i h1 (8 - i) i (nI i) (by omega) (fun _ => rfl) (fun a => absurd ⟨h4, by omega⟩ a)
      rw [x_135_2]
      by_cases c8 : i = 8
      · subst c8
        have h8 : ((8 : Int32) ≤ nI 8) = True := eq_true (by decide)
        simp only [x_135_0, x_135_1, x_135_3, x_135_5, x_135_8, x_135_9, x_135_10, x_135_13, x_135_16, x_135_17, x_135_18, x_135_21, x_135_23, x_135_25, x_135_28, x_135_31, x_135_33, x_135_34, x_135_37, x_135_40, x_135_41, x_135_43, x_135_45, x_135_48, x_135_49, x_135_50, x_135_53, x_135_56, x_135_58, x_135_59, x_135_62, x_135_65, x_135_66, x_135_69, x_135_71, x_135_74, x_135_75, Option.bind_some, Option.bind_none, Option.toList_some, Option.toList_none, List.cons_append, List.nil_append, pNl_i, pNl_r, pNl_u, pNl_n, bI_0, bI_1, nn_or, or_nn, not_false_eq_true, not_true_eq_false, i1000, i1e0, true_or, or_true, Decidable.not_not, if_true, if_false, Bool.false_eq_true, Int32.zero_add, true_and, and_true, h8]
        exact e
      · have h8 : ((8 : Int32) ≤ nI i) = False := by rw [show (8 : Int32) = nI 8 from rfl, nI_le_iff (by omega) (by omega)]; simp; omega
        have h9 := h4 i (Nat.le_refl _) (by omega)
        simp only [x_135_0, x_135_1, x_135_3, x_135_5, x_135_8, x_135_9, x_135_10, x_135_13, x_135_16, x_135_17, x_135_18, x_135_21, x_135_23, x_135_25, x_135_28, x_135_31, x_135_33, x_135_34, x_135_37, x_135_40, x_135_41, x_135_43, x_135_45, x_135_48, x_135_49, x_135_50, x_135_53, x_135_56, x_135_58, x_135_59, x_135_62, x_135_65, x_135_66, x_135_69, x_135_71, x_135_74, x_135_75, Option.bind_some, Option.bind_none, Option.toList_some, Option.toList_none, List.cons_append, List.nil_append, pNl_i, pNl_r, pNl_u, pNl_n, bI_0, bI_1, nn_or, or_nn, not_false_eq_true, not_true_eq_false, i1000, i1e0, true_or, or_true, Decidable.not_not, if_true, if_false, Bool.false_eq_true, Int32.zero_add, true_and, and_true, h8, s_134, h9]
        exact e
    | succ q ih =>
      intro i hi
      have h8 : ((8 : Int32) ≤ nI i) = False := by rw [show (8 : Int32) = nI 8 from rfl, nI_le_iff (by omega) (by omega)]; simp; omega
      have h9 := h3 i (by omega)
      have h10 : (byB x i = 0) = False := eq_false fun e => by rw [e] at h9; exact absurd h9.1 (by decide)
      rw [← ih (i + 1) (by omega), x_135_2]
      simp only [x_135_0, x_135_1, x_135_3, x_135_5, x_135_8, x_135_9, x_135_10, x_135_13, x_135_16, x_135_17, x_135_18, x_135_21, x_135_23, x_135_25, x_135_28, x_135_31, x_135_33, x_135_34, x_135_37, x_135_40, x_135_41, x_135_43, x_135_45, x_135_48, x_135_49, x_135_50, x_135_53, x_135_56, x_135_58, x_135_59, x_135_62, x_135_65, x_135_66, x_135_69, x_135_71, x_135_74, x_135_75, Option.bind_some, Option.bind_none, Option.toList_some, Option.toList_none, List.cons_append, List.nil_append, pNl_i, pNl_r, pNl_u, pNl_n, bI_0, bI_1, nn_or, or_nn, not_false_eq_true, not_true_eq_false, i1000, i1e0, true_or, or_true, Decidable.not_not, if_true, if_false, Bool.false_eq_true, Int32.zero_add, true_and, and_true, h8, s_134, h10, s_87, h9, nI_1]
  refine qRun_of ?_ rfl
  rw [en_135]
  simp only [x_135_0, x_135_1, x_135_3, x_135_5, x_135_8, x_135_9, x_135_10, x_135_13, x_135_16, x_135_17, x_135_18, x_135_21, x_135_23, x_135_25, x_135_28, x_135_31, x_135_33, x_135_34, x_135_37, x_135_40, x_135_41, x_135_42, x_135_43, x_135_45, x_135_48, x_135_49, x_135_50, x_135_53, x_135_56, x_135_58, x_135_59, x_135_62, x_135_65, x_135_66, x_135_69, x_135_71, x_135_74, x_135_75, Option.bind_some, Option.bind_none, Option.toList_some, Option.toList_none, List.cons_append, List.nil_append, pNl_i, pNl_r, pNl_u, pNl_n, bI_0, bI_1, nn_or, or_nn, not_false_eq_true, not_true_eq_false, i1000, i1e0, true_or, or_true, Decidable.not_not, if_true, if_false, Bool.false_eq_true, Int32.zero_add, true_and, and_true]
  exact loop n 0 (by omega)
theorem s_135_0 {N : qHp} {x : Int64} (h : ∀ n, ¬ tdOK (byB x) n) : qRun 135 [.long x] N = some (some (.int (-2)), N) := by
  have loop : ∀ (q i : Nat), i + q = 8 → (∀ k, k < i → 33 ≤ byB x k ∧ byB x k ≤ 126) → qEx 135 (2, [some (.long x), none, some (.int (nI i)), none], [], N) = some (some (.int (-2)), N) := by
    intro q
    induction q with
    | zero =>
      intro i hi hk
      have hin : i = 8 := by omega
      subst hin
      exact absurd ⟨Nat.le_refl _, by omega, hk, fun k a b => by omega⟩ (h 8)
    | succ q ih =>
      intro i hi hk
      have h8 : ((8 : Int32) ≤ nI i) = False := by rw [show (8 : Int32) = nI 8 from rfl, nI_le_iff (by omega) (by omega)]; simp; omega
      rw [x_135_2]
      by_cases c0 : byB x i = 0
      · have e := @td_two N x i (by omega) (8 - i) i (-2) (by omega) (fun a => absurd ⟨by omega, by have := a.2; omega, hk, a.1⟩ (h i)) (fun _ => rfl)
        simp only [x_135_0, x_135_1, x_135_3, x_135_5, x_135_8, x_135_9, x_135_10, x_135_13, x_135_16, x_135_17, x_135_18, x_135_21, x_135_23, x_135_25, x_135_28, x_135_31, x_135_33, x_135_34, x_135_37, x_135_40, x_135_41, x_135_43, x_135_45, x_135_48, x_135_49, x_135_50, x_135_53, x_135_56, x_135_58, x_135_59, x_135_62, x_135_65, x_135_66, x_135_69, x_135_71, x_135_74, x_135_75, Option.bind_some, Option.bind_none, Option.toList_some, Option.toList_none, List.cons_append, List.nil_append, pNl_i, pNl_r, pNl_u, pNl_n, bI_0, bI_1, nn_or, or_nn, not_false_eq_true, not_true_eq_false, i1000, i1e0, true_or, or_true, Decidable.not_not, if_true, if_false, Bool.false_eq_true, Int32.zero_add, true_and, and_true, h8, s_134, c0]
        exact e
      · by_cases c1 : 33 ≤ byB x i ∧ byB x i ≤ 126
        · simp only [x_135_0, x_135_1, x_135_3, x_135_5, x_135_8, x_135_9, x_135_10, x_135_13, x_135_16, x_135_17, x_135_18, x_135_21, x_135_23, x_135_25, x_135_28, x_135_31, x_135_33, x_135_34, x_135_37, x_135_40, x_135_41, x_135_43, x_135_45, x_135_48, x_135_49, x_135_50, x_135_53, x_135_56, x_135_58, x_135_59, x_135_62, x_135_65, x_135_66, x_135_69, x_135_71, x_135_74, x_135_75, Option.bind_some, Option.bind_none, Option.toList_some, Option.toList_none, List.cons_append, List.nil_append, pNl_i, pNl_r, pNl_u, pNl_n, bI_0, bI_1, nn_or, or_nn, not_false_eq_true, not_true_eq_false, i1000, i1e0, true_or, or_true, Decidable.not_not, if_true, if_false, Bool.false_eq_true, Int32.zero_add, true_and, and_true, h8, s_134, c0, s_87, c1, nI_1]
          refine ih (i + 1) (by omega) fun k hk2 => ?_
          rcases Nat.lt_or_ge k i with r | r
          · exact hk k r
          · have : k = i := by omega
            rw [this]; exact c1
        · simp only [x_135_0, x_135_1, x_135_3, x_135_5, x_135_8, x_135_9, x_135_10, x_135_13, x_135_16, x_135_17, x_135_18, x_135_21, x_135_23, x_135_25, x_135_28, x_135_31, x_135_33, x_135_34, x_135_37, x_135_40, x_135_41, x_135_43, x_135_45, x_135_48, x_135_49, x_135_50, x_135_53, x_135_56, x_135_58, x_135_59, x_135_62, x_135_65, x_135_66, x_135_69, x_135_71, x_135_74, x_135_75, Option.bind_some, Option.bind_none, Option.toList_some, Option.toList_none, List.cons_append, List.nil_append, pNl_i, pNl_r, pNl_u, pNl_n, bI_0, bI_1, nn_or, or_nn, not_false_eq_true, not_true_eq_false, i1000, i1e0, true_or, or_true, Decidable.not_not, if_true, if_false, Bool.false_eq_true, Int32.zero_add, true_and, and_true, h8, s_134, c0, s_87, c1]
  refine qRun_of ?_ rfl
  rw [en_135]
  simp only [x_135_0, x_135_1, x_135_3, x_135_5, x_135_8, x_135_9, x_135_10, x_135_13, x_135_16, x_135_17, x_135_18, x_135_21, x_135_23, x_135_25, x_135_28, x_135_31, x_135_33, x_135_34, x_135_37, x_135_40, x_135_41, x_135_42, x_135_43, x_135_45, x_135_48, x_135_49, x_135_50, x_135_53, x_135_56, x_135_58, x_135_59, x_135_62, x_135_65, x_135_66, x_135_69, x_135_71, x_135_74, x_135_75, Option.bind_some, Option.bind_none, Option.toList_some, Option.toList_none, List.cons_append, List.nil_append, pNl_i, pNl_r, pNl_u, pNl_n, bI_0, bI_1, nn_or, or_nn, not_false_eq_true, not_true_eq_false, i1000, i1e0, true_or, or_true, Decidable.not_not, if_true, if_false, Bool.false_eq_true, Int32.zero_add, true_and, and_true]
  exact loop 8 0 (by omega) (fun k hk => by omega)
def ptA (A : Nat → Nat → Int32) (P n i : Nat) (f : Nat → Int32) : Nat → Nat → Int32 := fun g k => if g = 1 ∧ P ≤ k ∧ k < P + i then f (n - 1 - (k - P)) else A g k
theorem s_136_0 {x : Int64} (h : ∀ n, ¬ tdOK (byB x) n) : qRun 136 [.ref 627, .long x] (wm M c R A) = some (some (.int (-2)), wm M c R A) := by
  refine qRun_of ?_ rfl
  rw [en_136]
  have e : ((0 : Int32) ≤ -2) = False := eq_false (by decide)
  simp only [x_136_0, x_136_1, x_136_4, x_136_5, x_136_6, x_136_9, x_136_10, x_136_11, x_136_12, x_136_15, x_136_16, x_136_17, x_136_19, x_136_22, x_136_24, x_136_25, x_136_26, x_136_27, x_136_28, x_136_30, x_136_32, x_136_35, x_136_36, x_136_39, x_136_40, x_136_43, x_136_44, x_136_46, x_136_49, x_136_50, x_136_51, x_136_52, x_136_55, x_136_56, x_136_57, x_136_60, x_136_63, x_136_66, x_136_67, x_136_70, Option.bind_some, Option.bind_none, Option.toList_some, Option.toList_none, List.cons_append, List.nil_append, pNl_i, pNl_r, pNl_u, pNl_n, bI_0, bI_1, nn_or, or_nn, not_false_eq_true, not_true_eq_false, i1000, i1e0, true_or, or_true, Decidable.not_not, if_true, if_false, Bool.false_eq_true, Int32.zero_add, true_and, and_true, wm_T, wg_0, wg_1, wg_2, wg_3, wg_4, wg_5, wg_6, wg_7, wg_8, wg_9, wg_10, wp_3, wp_7, wp_8, wp_10, s_135_0 h, e]
theorem s_136_1 {x : Int64} {n P : Nat} (h : tdOK (byB x) n) (hP : c 1 = nI P) (h80 : P ≤ 80) (h2 : 80 < P + n) : qRun 136 [.ref 627, .long x] (wm M c R A) = some (some (.int (-4)), wm M c R A) := by
  have h1 := h.1
  refine qRun_of ?_ rfl
  rw [en_136]
  have e : ((0 : Int32) ≤ nI n) = True := eq_true (Int32.not_lt.mp (nI_pos (by omega)))
  have e2 : (nI (P + n) ≤ (80 : Int32)) = False := by rw [show (80 : Int32) = nI 80 from rfl, nI_le_iff (by omega) (by omega)]; simp; omega
  simp only [x_136_0, x_136_1, x_136_4, x_136_5, x_136_6, x_136_9, x_136_10, x_136_11, x_136_12, x_136_15, x_136_16, x_136_17, x_136_19, x_136_22, x_136_24, x_136_25, x_136_26, x_136_27, x_136_28, x_136_30, x_136_32, x_136_35, x_136_36, x_136_39, x_136_40, x_136_43, x_136_44, x_136_46, x_136_49, x_136_50, x_136_51, x_136_52, x_136_55, x_136_56, x_136_57, x_136_60, x_136_63, x_136_66, x_136_67, x_136_70, Option.bind_some, Option.bind_none, Option.toList_some, Option.toList_none, List.cons_append, List.nil_append, pNl_i, pNl_r, pNl_u, pNl_n, bI_0, bI_1, nn_or, or_nn, not_false_eq_true, not_true_eq_false, i1000, i1e0, true_or, or_true, Decidable.not_not, if_true, if_false, Bool.false_eq_true, Int32.zero_add, true_and, and_true, wm_T, wg_0, wg_1, wg_2, wg_3, wg_4, wg_5, wg_6, wg_7, wg_8, wg_9, wg_10, wp_3, wp_7, wp_8, wp_10, s_135 h, e, hP, nI_add, e2]
theorem s_136 {x : Int64} {n P : Nat} (h : tdOK (byB x) n) (hP : c 1 = nI P) (h2 : P + n ≤ 80) : qRun 136 [.ref 627, .long x] (wm M c R A) = some (some (.int (nI (P + n))), wm M (up c 1 (nI (P + n))) R (ptA A P n n (byB x))) := by
  have h1 := h.1
  have e : ((0 : Int32) ≤ nI n) = True := eq_true (Int32.not_lt.mp (nI_pos (by omega)))
  have e2 : (nI (P + n) ≤ (80 : Int32)) = True := eq_true (by rw [show (80 : Int32) = nI 80 from rfl, nI_le_iff (by omega) (by omega)]; omega)
  have loop : ∀ (q i : Nat), i + q = n → qEx 136 (30, [some (.ref 627), some (.long x), none, some (.int (nI n)), some (.int (nI q - 1))], [], wm M (up c 1 (nI (P + i))) R (ptA A P n i (byB x))) = some (some (.int (nI (P + n))), wm M (up c 1 (nI (P + n))) R (ptA A P n n (byB x))) := by
    intro q
    induction q with
    | zero =>
      intro i hi
      have hin : i = n := by omega
      subst hin
      have e3 : (nI 0 - 1 < 0) = True := eq_true (by decide)
      have e4 : up c 1 (nI (P + i)) 1 = nI (P + i) := if_pos rfl
      rw [x_136_30]
      simp only [x_136_0, x_136_1, x_136_4, x_136_5, x_136_6, x_136_9, x_136_10, x_136_11, x_136_12, x_136_15, x_136_16, x_136_17, x_136_19, x_136_22, x_136_24, x_136_25, x_136_26, x_136_27, x_136_28, x_136_32, x_136_35, x_136_36, x_136_39, x_136_40, x_136_43, x_136_44, x_136_46, x_136_49, x_136_50, x_136_51, x_136_52, x_136_55, x_136_56, x_136_57, x_136_60, x_136_63, x_136_66, x_136_67, x_136_70, Option.bind_some, Option.bind_none, Option.toList_some, Option.toList_none, List.cons_append, List.nil_append, pNl_i, pNl_r, pNl_u, pNl_n, bI_0, bI_1, nn_or, or_nn, not_false_eq_true, not_true_eq_false, i1000, i1e0, true_or, or_true, Decidable.not_not, if_true, if_false, Bool.false_eq_true, Int32.zero_add, true_and, and_true, wm_T, wg_0, wg_1, wg_2, wg_3, wg_4, wg_5, wg_6, wg_7, wg_8, wg_9, wg_10, wp_3, wp_7, wp_8, wp_10, e3, e4]
    | succ q ih =>
      intro i hi
      have e5 : (nI (q + 1) - 1 : Int32) = nI q := by rw [← nI_1]; exact Int32.add_sub_cancel _ _
      have e3 : (nI q < 0) = False := eq_false (nI_pos (by omega))
      have e4 : up c 1 (nI (P + i)) 1 = nI (P + i) := if_pos rfl
      have e6 := @wb_pad M (up c 1 (nI (P + i))) R (ptA A P n i (byB x)) (P + i) (byB x q) (by omega)
      have e7 : ua (ptA A P n i (byB x)) 1 (P + i) (byB x q) = ptA A P n (i + 1) (byB x) := by
        funext g k
        unfold ua up ptA
        by_cases c1 : g = 1
        · subst c1
          rw [if_pos rfl]
          by_cases c2 : k = P + i
          · rw [if_pos c2, if_pos ⟨rfl, by omega, by omega⟩]
            congr 1; omega
          · rw [if_neg c2]
            by_cases c3 : P ≤ k ∧ k < P + i
            · rw [if_pos ⟨rfl, c3.1, c3.2⟩, if_pos ⟨rfl, c3.1, by omega⟩]
            · rw [if_neg (fun a => c3 a.2), if_neg (fun a => c3 ⟨a.2.1, by omega⟩)]
        · rw [if_neg c1, if_neg (fun a => c1 a.1), if_neg (fun a => c1 a.1)]
      rw [e7] at e6
      have e8 : up (up c 1 (nI (P + i))) 1 (nI (P + i + 1)) = up c 1 (nI (P + (i + 1))) := by
        funext j; unfold up; split <;> rfl
      have e9 : (nI q + -1 : Int32) = nI q - 1 := (Int32.sub_eq_add_neg _ _).symm
      rw [← ih (i + 1) (by omega), x_136_30]
      simp only [x_136_0, x_136_1, x_136_4, x_136_5, x_136_6, x_136_9, x_136_10, x_136_11, x_136_12, x_136_15, x_136_16, x_136_17, x_136_19, x_136_22, x_136_24, x_136_25, x_136_26, x_136_27, x_136_28, x_136_32, x_136_35, x_136_36, x_136_39, x_136_40, x_136_43, x_136_44, x_136_46, x_136_49, x_136_50, x_136_51, x_136_52, x_136_55, x_136_56, x_136_57, x_136_60, x_136_63, x_136_66, x_136_67, x_136_70, Option.bind_some, Option.bind_none, Option.toList_some, Option.toList_none, List.cons_append, List.nil_append, pNl_i, pNl_r, pNl_u, pNl_n, bI_0, bI_1, nn_or, or_nn, not_false_eq_true, not_true_eq_false, i1000, i1e0, true_or, or_true, Decidable.not_not, if_true, if_false, Bool.false_eq_true, Int32.zero_add, true_and, and_true, wm_T, wg_0, wg_1, wg_2, wg_3, wg_4, wg_5, wg_6, wg_7, wg_8, wg_9, wg_10, wp_3, wp_7, wp_8, wp_10, e5, e3, e4, s_134, e6, nI_1, e8, e9]
  have hA : ptA A P n 0 (byB x) = A := by
    funext g k; unfold ptA; rw [if_neg (by omega)]
  have hc : up c 1 (nI P) = c := by
    funext j; unfold up; split
    · rename_i r; rw [r, hP]
    · rfl
  have hl := loop n 0 (by omega)
  rw [hA, Nat.add_zero, hc] at hl
  refine qRun_of ?_ rfl
  rw [en_136]
  simp only [x_136_0, x_136_1, x_136_4, x_136_5, x_136_6, x_136_9, x_136_10, x_136_11, x_136_12, x_136_15, x_136_16, x_136_17, x_136_19, x_136_22, x_136_24, x_136_25, x_136_26, x_136_27, x_136_28, x_136_32, x_136_35, x_136_36, x_136_39, x_136_40, x_136_43, x_136_44, x_136_46, x_136_49, x_136_50, x_136_51, x_136_52, x_136_55, x_136_56, x_136_57, x_136_60, x_136_63, x_136_66, x_136_67, x_136_70, Option.bind_some, Option.bind_none, Option.toList_some, Option.toList_none, List.cons_append, List.nil_append, pNl_i, pNl_r, pNl_u, pNl_n, bI_0, bI_1, nn_or, or_nn, not_false_eq_true, not_true_eq_false, i1000, i1e0, true_or, or_true, Decidable.not_not, if_true, if_false, Bool.false_eq_true, Int32.zero_add, true_and, and_true, wm_T, wg_0, wg_1, wg_2, wg_3, wg_4, wg_5, wg_6, wg_7, wg_8, wg_9, wg_10, wp_3, wp_7, wp_8, wp_10, s_135 h, e, hP, nI_add, e2]
  exact hl
theorem s_137 : qRun 137 [.ref 627] (wm M c R A) = some (some (.int (c 1)), wm M (up c 1 0) R A) := by
  refine qRun_of ?_ rfl
  rw [en_137]
  simp only [x_137_0, x_137_1, x_137_4, x_137_5, x_137_6, x_137_7, x_137_10, x_137_11, Option.bind_some, Option.bind_none, Option.toList_some, Option.toList_none, List.cons_append, List.nil_append, pNl_i, pNl_r, pNl_u, pNl_n, bI_0, bI_1, nn_or, or_nn, not_false_eq_true, not_true_eq_false, i1000, i1e0, true_or, or_true, Decidable.not_not, if_true, if_false, Bool.false_eq_true, Int32.zero_add, true_and, and_true, wm_T, wg_0, wg_1, wg_2, wg_3, wg_4, wg_5, wg_6, wg_7, wg_8, wg_9, wg_10, wp_3, wp_7, wp_8, wp_10]
end QF
