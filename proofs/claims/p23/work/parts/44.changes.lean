/-! the class: changes of a centre, sums -/
/-- the values that never change -/
def stOK (M : qHp) : Prop := M.2 1 = some (14, ([3, 20, 2, 5, 480, 0, 50, 30, 10] : List Int32).map .int) ∧ M.2 2 = some (14, ([0, 0, 0, 1, 0, 0, 1, 1, 1] : List Int32).map .int) ∧ M.2 3 = some (14, ([30, 500, 20, 50, 1440, 1, 100, 100, 100] : List Int32).map .int)
def loV : Nat → Int32
  | 3 => 1
  | 6 => 1
  | 7 => 1
  | 8 => 1
  | _ => 0
def hiV : Nat → Int32
  | 0 => 30
  | 1 => 500
  | 2 => 20
  | 3 => 50
  | 4 => 1440
  | 5 => 1
  | _ => 100
theorem lo_at {i : Nat} (hi : i < 9) : (([0, 0, 0, 1, 0, 0, 1, 1, 1] : List Int32).map Value.int)[i]? = some (.int (loV i)) := by
  match i, hi with
  | 0, _ | 1, _ | 2, _ | 3, _ | 4, _ | 5, _ | 6, _ | 7, _ | 8, _ => rfl
theorem hi_at {i : Nat} (hi : i < 9) : (([30, 500, 20, 50, 1440, 1, 100, 100, 100] : List Int32).map Value.int)[i]? = some (.int (hiV i)) := by
  match i, hi with
  | 0, _ | 1, _ | 2, _ | 3, _ | 4, _ | 5, _ | 6, _ | 7, _ | 8, _ => rfl
theorem isF_at {i : Nat} {v : Int32} (hi : i < 9) : (isF (nI i) v = true) = (loV i ≤ v ∧ v ≤ hiV i) := by
  unfold isF
  match i, hi with
  | 0, _ | 1, _ | 2, _ | 3, _ | 4, _ | 5, _ | 6, _ | 7, _ | 8, _ => simp (config := {decide := true}) [nl_0, nl_1, nl_2, nl_3, nl_4, nl_5, nl_6, nl_7, nl_8, loV, hiV]
section CF
variable {M : qHp} {o : Nat} {s : Sg}
theorem lo_cB {i : Nat} (hs : stOK M) (ho : 4 ≤ o) (hi : i < 9) : hLI (cB M o s) 2 (nI i) = some (.int (loV i)) := by
  refine hLI_of (t := 14) ?_ (Or.inr rfl) (nI_pos (by omega)) (by rw [nI_clamp (by omega)]; exact lo_at hi)
  rw [cb_out (by omega)]; exact hs.2.1
theorem hi_cB {i : Nat} (hs : stOK M) (ho : 4 ≤ o) (hi : i < 9) : hLI (cB M o s) 3 (nI i) = some (.int (hiV i)) := by
  refine hLI_of (t := 14) ?_ (Or.inr rfl) (nI_pos (by omega)) (by rw [nI_clamp (by omega)]; exact hi_at hi)
  rw [cb_out (by omega)]; exact hs.2.2
theorem lt9 {x : Int32} : (x < 9) = (x ≤ 8) := lt_le (n := 8) (by omega)
theorem lt8 {x : Int32} : (x < 8) = (x ≤ 7) := lt_le (n := 7) (by omega)
theorem le8 {x : Int32} : (9 ≤ x) = ¬ x ≤ 8 := nI_sle (n := 8) (by omega)
theorem le7 {x : Int32} : (8 ≤ x) = ¬ x ≤ 7 := nI_sle (n := 7) (by omega)
theorem le2 {x : Int32} : (3 ≤ x) = ¬ x ≤ 2 := nI_sle (n := 2) (by omega)
theorem s_12_0 {i v : Int32} (hs : stOK M) (ho : 4 ≤ o) (h : ¬ ((0 ≤ i ∧ i ≤ 8) ∧ isF i v = true)) : qRun 12 [.ref o, .int i, .int v] (cB M o s) = some (some (.int (-2)), cB M o s) := by
  refine qRun_of ?_ rfl
  rw [en_12]
  by_cases c1 : i < 0
  · simp only [x_12_0, x_12_1, x_12_4, x_12_5, x_12_7, x_12_10, x_12_12, x_12_13, x_12_14, x_12_17, x_12_18, x_12_19, x_12_22, x_12_23, x_12_26, x_12_27, x_12_28, x_12_31, x_12_33, x_12_34, x_12_35, x_12_38, x_12_39, x_12_40, x_12_41, x_12_42, x_12_45, x_12_46, x_12_47, x_12_48, x_12_49, Option.bind_some, Option.bind_none, Option.toList_some, Option.toList_none, List.cons_append, List.nil_append, pNl_i, pNl_r, pNl_u, pNl_n, bI_0, bI_1, nn_or, or_nn, not_false_eq_true, not_true_eq_false, i1000, i1e0, true_or, or_true, Decidable.not_not, if_true, if_false, Bool.false_eq_true, Int32.zero_add, true_and, and_true, c1]
  · by_cases c2 : i ≤ 8
    · obtain ⟨j, hj, rfl⟩ := nI_bt (n := 8) (by omega) (Int32.not_lt.mp c1) c2
      have h9 : (nI j < 9) = True := by rw [lt9]; exact eq_true c2
      have c1' : (nI j < 0) = False := eq_false c1
      have h2 : ¬ (loV j ≤ v ∧ v ≤ hiV j) := by rw [← isF_at (by omega)]; exact fun q => h ⟨⟨Int32.not_lt.mp c1, c2⟩, q⟩
      by_cases c3 : v < loV j
      · simp only [x_12_0, x_12_1, x_12_4, x_12_5, x_12_7, x_12_10, x_12_12, x_12_13, x_12_14, x_12_17, x_12_18, x_12_19, x_12_22, x_12_23, x_12_26, x_12_27, x_12_28, x_12_31, x_12_33, x_12_34, x_12_35, x_12_38, x_12_39, x_12_40, x_12_41, x_12_42, x_12_45, x_12_46, x_12_47, x_12_48, x_12_49, Option.bind_some, Option.bind_none, Option.toList_some, Option.toList_none, List.cons_append, List.nil_append, pNl_i, pNl_r, pNl_u, pNl_n, bI_0, bI_1, nn_or, or_nn, not_false_eq_true, not_true_eq_false, i1000, i1e0, true_or, or_true, Decidable.not_not, if_true, if_false, Bool.false_eq_true, Int32.zero_add, true_and, and_true, c1', h9, lo_cB hs ho (show j < 9 by omega), hi_cB hs ho (show j < 9 by omega), c3]
      · have c4 : (v ≤ hiV j) = False := eq_false fun q => h2 ⟨Int32.not_lt.mp c3, q⟩
        simp only [x_12_0, x_12_1, x_12_4, x_12_5, x_12_7, x_12_10, x_12_12, x_12_13, x_12_14, x_12_17, x_12_18, x_12_19, x_12_22, x_12_23, x_12_26, x_12_27, x_12_28, x_12_31, x_12_33, x_12_34, x_12_35, x_12_38, x_12_39, x_12_40, x_12_41, x_12_42, x_12_45, x_12_46, x_12_47, x_12_48, x_12_49, Option.bind_some, Option.bind_none, Option.toList_some, Option.toList_none, List.cons_append, List.nil_append, pNl_i, pNl_r, pNl_u, pNl_n, bI_0, bI_1, nn_or, or_nn, not_false_eq_true, not_true_eq_false, i1000, i1e0, true_or, or_true, Decidable.not_not, if_true, if_false, Bool.false_eq_true, Int32.zero_add, true_and, and_true, c1', h9, lo_cB hs ho (show j < 9 by omega), hi_cB hs ho (show j < 9 by omega), c3, c4]
    · have h9 : (i < 9) = False := by rw [lt9]; exact eq_false c2
      simp only [x_12_0, x_12_1, x_12_4, x_12_5, x_12_7, x_12_10, x_12_12, x_12_13, x_12_14, x_12_17, x_12_18, x_12_19, x_12_22, x_12_23, x_12_26, x_12_27, x_12_28, x_12_31, x_12_33, x_12_34, x_12_35, x_12_38, x_12_39, x_12_40, x_12_41, x_12_42, x_12_45, x_12_46, x_12_47, x_12_48, x_12_49, Option.bind_some, Option.bind_none, Option.toList_some, Option.toList_none, List.cons_append, List.nil_append, pNl_i, pNl_r, pNl_u, pNl_n, bI_0, bI_1, nn_or, or_nn, not_false_eq_true, not_true_eq_false, i1000, i1e0, true_or, or_true, Decidable.not_not, if_true, if_false, Bool.false_eq_true, Int32.zero_add, true_and, and_true, c1, h9]
theorem s_12 {j : Nat} {v : Int32} (hs : stOK M) (ho : 4 ≤ o) (hj : j < 9) (h : isF (nI j) v = true) : qRun 12 [.ref o, .int (nI j), .int v] (cB M o s) = some (some (.int (s 1 j)), cB M o (u2 s 1 j v)) := by
  refine qRun_of ?_ rfl
  rw [en_12]
  have c1 : (nI j < 0) = False := eq_false (nI_pos (by omega))
  have h9 : (nI j < 9) = True := eq_true (by rw [show (9 : Int32) = nI 9 from rfl, nI_lt_iff (by omega) (by omega)]; omega)
  rw [isF_at hj] at h
  have c3 : (v < loV j) = False := eq_false (Int32.not_lt.mpr h.1)
  have c4 : (v ≤ hiV j) = True := eq_true h.2
  simp only [x_12_0, x_12_1, x_12_4, x_12_5, x_12_7, x_12_10, x_12_12, x_12_13, x_12_14, x_12_17, x_12_18, x_12_19, x_12_22, x_12_23, x_12_26, x_12_27, x_12_28, x_12_31, x_12_33, x_12_34, x_12_35, x_12_38, x_12_39, x_12_40, x_12_41, x_12_42, x_12_45, x_12_46, x_12_47, x_12_48, x_12_49, Option.bind_some, Option.bind_none, Option.toList_some, Option.toList_none, List.cons_append, List.nil_append, pNl_i, pNl_r, pNl_u, pNl_n, bI_0, bI_1, nn_or, or_nn, not_false_eq_true, not_true_eq_false, i1000, i1e0, true_or, or_true, Decidable.not_not, if_true, if_false, Bool.false_eq_true, Int32.zero_add, true_and, and_true, c1, h9, lo_cB hs ho hj, hi_cB hs ho hj, c3, c4, cg_0, tl hj rfl, ts hj]
theorem s_13_0 {r x : Int32} (h : ¬ (0 ≤ r ∧ r ≤ 7)) : qRun 13 [.ref o, .int r, .int x] (cB M o s) = some (some (.int (-1)), cB M o s) := by
  refine qRun_of ?_ rfl
  rw [en_13]
  by_cases c1 : r < 0
  · simp only [x_13_0, x_13_1, x_13_4, x_13_5, x_13_7, x_13_10, x_13_11, x_13_12, x_13_13, x_13_14, x_13_17, x_13_20, x_13_22, x_13_23, x_13_24, x_13_27, x_13_28, x_13_29, x_13_30, x_13_31, x_13_34, x_13_35, x_13_36, x_13_37, x_13_38, x_13_39, x_13_42, x_13_45, x_13_46, Option.bind_some, Option.bind_none, Option.toList_some, Option.toList_none, List.cons_append, List.nil_append, pNl_i, pNl_r, pNl_u, pNl_n, bI_0, bI_1, nn_or, or_nn, not_false_eq_true, not_true_eq_false, i1000, i1e0, true_or, or_true, Decidable.not_not, if_true, if_false, Bool.false_eq_true, Int32.zero_add, true_and, and_true, c1]
  · have c2 : (r ≤ 7) = False := eq_false fun q => h ⟨Int32.not_lt.mp c1, q⟩
    simp only [x_13_0, x_13_1, x_13_4, x_13_5, x_13_7, x_13_10, x_13_11, x_13_12, x_13_13, x_13_14, x_13_17, x_13_20, x_13_22, x_13_23, x_13_24, x_13_27, x_13_28, x_13_29, x_13_30, x_13_31, x_13_34, x_13_35, x_13_36, x_13_37, x_13_38, x_13_39, x_13_42, x_13_45, x_13_46, Option.bind_some, Option.bind_none, Option.toList_some, Option.toList_none, List.cons_append, List.nil_append, pNl_i, pNl_r, pNl_u, pNl_n, bI_0, bI_1, nn_or, or_nn, not_false_eq_true, not_true_eq_false, i1000, i1e0, true_or, or_true, Decidable.not_not, if_true, if_false, Bool.false_eq_true, Int32.zero_add, true_and, and_true, c1, lt8, c2]
theorem s_13_1 {r x : Int32} (h : 0 ≤ r ∧ r ≤ 7) (h2 : ¬ mtOK s x) : qRun 13 [.ref o, .int r, .int x] (cB M o s) = some (some (.int (-2)), cB M o s) := by
  refine qRun_of ?_ rfl
  rw [en_13]
  unfold mtOK at h2
  have c1 : (r < 0) = False := eq_false (Int32.not_lt.mpr h.1)
  simp only [x_13_0, x_13_1, x_13_4, x_13_5, x_13_7, x_13_10, x_13_11, x_13_12, x_13_13, x_13_14, x_13_17, x_13_20, x_13_22, x_13_23, x_13_24, x_13_27, x_13_28, x_13_29, x_13_30, x_13_31, x_13_34, x_13_35, x_13_36, x_13_37, x_13_38, x_13_39, x_13_42, x_13_45, x_13_46, Option.bind_some, Option.bind_none, Option.toList_some, Option.toList_none, List.cons_append, List.nil_append, pNl_i, pNl_r, pNl_u, pNl_n, bI_0, bI_1, nn_or, or_nn, not_false_eq_true, not_true_eq_false, i1000, i1e0, true_or, or_true, Decidable.not_not, if_true, if_false, Bool.false_eq_true, Int32.zero_add, true_and, and_true, cT, c1, lt8, h.2, s_16, h2]
theorem s_13 {r : Nat} {x : Int32} (h : r < 8) (h2 : mtOK s x) : qRun 13 [.ref o, .int (nI r), .int x] (cB M o s) = some (some (.int (s 2 r)), cB M o (u2 (u2 s 2 r x) 0 6 (s 0 0))) := by
  refine qRun_of ?_ rfl
  rw [en_13]
  unfold mtOK at h2
  have c1 : (nI r < 0) = False := eq_false (nI_pos (by omega))
  have h9 : (nI r < 8) = True := eq_true (by rw [show (8 : Int32) = nI 8 from rfl, nI_lt_iff (by omega) (by omega)]; omega)
  have e0 : u2 s 2 r x 0 0 = s 0 0 := by rw [u2_at, if_neg (by omega)]
  simp only [x_13_0, x_13_1, x_13_4, x_13_5, x_13_7, x_13_10, x_13_11, x_13_12, x_13_13, x_13_14, x_13_17, x_13_20, x_13_22, x_13_23, x_13_24, x_13_27, x_13_28, x_13_29, x_13_30, x_13_31, x_13_34, x_13_35, x_13_36, x_13_37, x_13_38, x_13_39, x_13_42, x_13_45, x_13_46, Option.bind_some, Option.bind_none, Option.toList_some, Option.toList_none, List.cons_append, List.nil_append, pNl_i, pNl_r, pNl_u, pNl_n, bI_0, bI_1, nn_or, or_nn, not_false_eq_true, not_true_eq_false, i1000, i1e0, true_or, or_true, Decidable.not_not, if_true, if_false, Bool.false_eq_true, Int32.zero_add, true_and, and_true, cT, c1, h9, s_16, h2, cg_1, ul h, uS h, cg_6, cp_10, e0]
theorem gt999 {x : Int32} : (999 < x) = ¬ x ≤ 999 := propext Int32.not_le.symm
theorem lt1 {x : Int32} : (x < 1) = ¬ 1 ≤ x := propext Int32.not_le.symm
theorem s_14_0 {n : Nat} {m p r x : Int32} (hn : s 0 1 = nI n) (h40 : n ≤ 40) (h : maM s m p r x ≠ 0) : qRun 14 [.ref o, .int m, .int p, .int r, .int x] (cB M o s) = some (some (.int (maM s m p r x)), cB M o s) := by
  refine qRun_of ?_ rfl
  rw [en_14]
  unfold maM at h ⊢
  have g40 : (nI n < (40 : Int32)) = ¬ (nI n = 40) := by
    rw [show (40 : Int32) = nI 40 from rfl, nI_lt_iff (by omega) (by omega), nI_eq_iff (by omega) (by omega)]; exact propext ⟨fun _ => by omega, fun _ => by omega⟩
  have nlt : ∀ y : Int32, (y < 0) = ¬ 0 ≤ y := fun y => propext Int32.not_le.symm
  by_cases m0 : 0 ≤ m
  · by_cases m2 : m ≤ 2
    · by_cases r0 : 0 ≤ r
      · by_cases r7 : r ≤ 7
        · by_cases p1 : 1 ≤ p
          · by_cases p9 : p ≤ 999
            · by_cases x0 : s 0 0 ≤ x ∧ x ≤ 1439
              · by_cases n4 : nI n = 40
                · have h44 : ((40 : Int32) < 40) = False := eq_false (by decide)
                  simp only [x_14_0, x_14_1, x_14_4, x_14_5, x_14_6, x_14_9, x_14_10, x_14_13, x_14_14, x_14_16, x_14_19, x_14_20, x_14_21, x_14_22, x_14_23, x_14_26, x_14_27, x_14_30, x_14_33, x_14_34, x_14_36, x_14_39, x_14_42, x_14_44, x_14_45, x_14_46, x_14_49, x_14_51, x_14_54, x_14_56, x_14_57, x_14_58, x_14_61, x_14_62, x_14_65, x_14_66, x_14_67, x_14_68, x_14_69, x_14_71, x_14_74, x_14_75, x_14_76, x_14_79, x_14_82, x_14_83, x_14_84, x_14_87, x_14_88, x_14_89, x_14_90, x_14_93, Option.bind_some, Option.bind_none, Option.toList_some, Option.toList_none, List.cons_append, List.nil_append, pNl_i, pNl_r, pNl_u, pNl_n, bI_0, bI_1, nn_or, or_nn, not_false_eq_true, not_true_eq_false, i1000, i1e0, true_or, or_true, Decidable.not_not, if_true, if_false, Bool.false_eq_true, Int32.zero_add, true_and, and_true, nlt, le2, lt8, lt1, gt999, cT, cg_5, s_16, hn, g40, m0, m2, r0, r7, p1, p9, x0, n4, and_self, h44]
                · exfalso
                  apply h
                  rw [if_neg (by simp [m0, m2, r0, r7]), if_neg (by simp [p1, p9, x0]), hn, if_neg n4]
              · simp only [x_14_0, x_14_1, x_14_4, x_14_5, x_14_6, x_14_9, x_14_10, x_14_13, x_14_14, x_14_16, x_14_19, x_14_20, x_14_21, x_14_22, x_14_23, x_14_26, x_14_27, x_14_30, x_14_33, x_14_34, x_14_36, x_14_39, x_14_42, x_14_44, x_14_45, x_14_46, x_14_49, x_14_51, x_14_54, x_14_56, x_14_57, x_14_58, x_14_61, x_14_62, x_14_65, x_14_66, x_14_67, x_14_68, x_14_69, x_14_71, x_14_74, x_14_75, x_14_76, x_14_79, x_14_82, x_14_83, x_14_84, x_14_87, x_14_88, x_14_89, x_14_90, x_14_93, Option.bind_some, Option.bind_none, Option.toList_some, Option.toList_none, List.cons_append, List.nil_append, pNl_i, pNl_r, pNl_u, pNl_n, bI_0, bI_1, nn_or, or_nn, not_false_eq_true, not_true_eq_false, i1000, i1e0, true_or, or_true, Decidable.not_not, if_true, if_false, Bool.false_eq_true, Int32.zero_add, true_and, and_true, nlt, le2, lt8, lt1, gt999, cT, cg_5, s_16, hn, g40, m0, m2, r0, r7, p1, p9, x0, and_self, and_false]
            · simp only [x_14_0, x_14_1, x_14_4, x_14_5, x_14_6, x_14_9, x_14_10, x_14_13, x_14_14, x_14_16, x_14_19, x_14_20, x_14_21, x_14_22, x_14_23, x_14_26, x_14_27, x_14_30, x_14_33, x_14_34, x_14_36, x_14_39, x_14_42, x_14_44, x_14_45, x_14_46, x_14_49, x_14_51, x_14_54, x_14_56, x_14_57, x_14_58, x_14_61, x_14_62, x_14_65, x_14_66, x_14_67, x_14_68, x_14_69, x_14_71, x_14_74, x_14_75, x_14_76, x_14_79, x_14_82, x_14_83, x_14_84, x_14_87, x_14_88, x_14_89, x_14_90, x_14_93, Option.bind_some, Option.bind_none, Option.toList_some, Option.toList_none, List.cons_append, List.nil_append, pNl_i, pNl_r, pNl_u, pNl_n, bI_0, bI_1, nn_or, or_nn, not_false_eq_true, not_true_eq_false, i1000, i1e0, true_or, or_true, Decidable.not_not, if_true, if_false, Bool.false_eq_true, Int32.zero_add, true_and, and_true, nlt, le2, lt8, lt1, gt999, cT, cg_5, s_16, hn, g40, m0, m2, r0, r7, p1, p9, and_self, and_false, false_and]
          · simp only [x_14_0, x_14_1, x_14_4, x_14_5, x_14_6, x_14_9, x_14_10, x_14_13, x_14_14, x_14_16, x_14_19, x_14_20, x_14_21, x_14_22, x_14_23, x_14_26, x_14_27, x_14_30, x_14_33, x_14_34, x_14_36, x_14_39, x_14_42, x_14_44, x_14_45, x_14_46, x_14_49, x_14_51, x_14_54, x_14_56, x_14_57, x_14_58, x_14_61, x_14_62, x_14_65, x_14_66, x_14_67, x_14_68, x_14_69, x_14_71, x_14_74, x_14_75, x_14_76, x_14_79, x_14_82, x_14_83, x_14_84, x_14_87, x_14_88, x_14_89, x_14_90, x_14_93, Option.bind_some, Option.bind_none, Option.toList_some, Option.toList_none, List.cons_append, List.nil_append, pNl_i, pNl_r, pNl_u, pNl_n, bI_0, bI_1, nn_or, or_nn, not_false_eq_true, not_true_eq_false, i1000, i1e0, true_or, or_true, Decidable.not_not, if_true, if_false, Bool.false_eq_true, Int32.zero_add, true_and, and_true, nlt, le2, lt8, lt1, gt999, cT, cg_5, s_16, hn, g40, m0, m2, r0, r7, p1, and_self, and_false, false_and]
        · simp only [x_14_0, x_14_1, x_14_4, x_14_5, x_14_6, x_14_9, x_14_10, x_14_13, x_14_14, x_14_16, x_14_19, x_14_20, x_14_21, x_14_22, x_14_23, x_14_26, x_14_27, x_14_30, x_14_33, x_14_34, x_14_36, x_14_39, x_14_42, x_14_44, x_14_45, x_14_46, x_14_49, x_14_51, x_14_54, x_14_56, x_14_57, x_14_58, x_14_61, x_14_62, x_14_65, x_14_66, x_14_67, x_14_68, x_14_69, x_14_71, x_14_74, x_14_75, x_14_76, x_14_79, x_14_82, x_14_83, x_14_84, x_14_87, x_14_88, x_14_89, x_14_90, x_14_93, Option.bind_some, Option.bind_none, Option.toList_some, Option.toList_none, List.cons_append, List.nil_append, pNl_i, pNl_r, pNl_u, pNl_n, bI_0, bI_1, nn_or, or_nn, not_false_eq_true, not_true_eq_false, i1000, i1e0, true_or, or_true, Decidable.not_not, if_true, if_false, Bool.false_eq_true, Int32.zero_add, true_and, and_true, nlt, le2, lt8, lt1, gt999, cT, cg_5, s_16, hn, g40, m0, m2, r0, r7, and_self, and_false, false_and]
      · simp only [x_14_0, x_14_1, x_14_4, x_14_5, x_14_6, x_14_9, x_14_10, x_14_13, x_14_14, x_14_16, x_14_19, x_14_20, x_14_21, x_14_22, x_14_23, x_14_26, x_14_27, x_14_30, x_14_33, x_14_34, x_14_36, x_14_39, x_14_42, x_14_44, x_14_45, x_14_46, x_14_49, x_14_51, x_14_54, x_14_56, x_14_57, x_14_58, x_14_61, x_14_62, x_14_65, x_14_66, x_14_67, x_14_68, x_14_69, x_14_71, x_14_74, x_14_75, x_14_76, x_14_79, x_14_82, x_14_83, x_14_84, x_14_87, x_14_88, x_14_89, x_14_90, x_14_93, Option.bind_some, Option.bind_none, Option.toList_some, Option.toList_none, List.cons_append, List.nil_append, pNl_i, pNl_r, pNl_u, pNl_n, bI_0, bI_1, nn_or, or_nn, not_false_eq_true, not_true_eq_false, i1000, i1e0, true_or, or_true, Decidable.not_not, if_true, if_false, Bool.false_eq_true, Int32.zero_add, true_and, and_true, nlt, le2, lt8, lt1, gt999, cT, cg_5, s_16, hn, g40, m0, m2, r0, and_self, and_false, false_and]
    · simp only [x_14_0, x_14_1, x_14_4, x_14_5, x_14_6, x_14_9, x_14_10, x_14_13, x_14_14, x_14_16, x_14_19, x_14_20, x_14_21, x_14_22, x_14_23, x_14_26, x_14_27, x_14_30, x_14_33, x_14_34, x_14_36, x_14_39, x_14_42, x_14_44, x_14_45, x_14_46, x_14_49, x_14_51, x_14_54, x_14_56, x_14_57, x_14_58, x_14_61, x_14_62, x_14_65, x_14_66, x_14_67, x_14_68, x_14_69, x_14_71, x_14_74, x_14_75, x_14_76, x_14_79, x_14_82, x_14_83, x_14_84, x_14_87, x_14_88, x_14_89, x_14_90, x_14_93, Option.bind_some, Option.bind_none, Option.toList_some, Option.toList_none, List.cons_append, List.nil_append, pNl_i, pNl_r, pNl_u, pNl_n, bI_0, bI_1, nn_or, or_nn, not_false_eq_true, not_true_eq_false, i1000, i1e0, true_or, or_true, Decidable.not_not, if_true, if_false, Bool.false_eq_true, Int32.zero_add, true_and, and_true, nlt, le2, lt8, lt1, gt999, cT, cg_5, s_16, hn, g40, m0, m2, and_self, and_false, false_and]
  · simp only [x_14_0, x_14_1, x_14_4, x_14_5, x_14_6, x_14_9, x_14_10, x_14_13, x_14_14, x_14_16, x_14_19, x_14_20, x_14_21, x_14_22, x_14_23, x_14_26, x_14_27, x_14_30, x_14_33, x_14_34, x_14_36, x_14_39, x_14_42, x_14_44, x_14_45, x_14_46, x_14_49, x_14_51, x_14_54, x_14_56, x_14_57, x_14_58, x_14_61, x_14_62, x_14_65, x_14_66, x_14_67, x_14_68, x_14_69, x_14_71, x_14_74, x_14_75, x_14_76, x_14_79, x_14_82, x_14_83, x_14_84, x_14_87, x_14_88, x_14_89, x_14_90, x_14_93, Option.bind_some, Option.bind_none, Option.toList_some, Option.toList_none, List.cons_append, List.nil_append, pNl_i, pNl_r, pNl_u, pNl_n, bI_0, bI_1, nn_or, or_nn, not_false_eq_true, not_true_eq_false, i1000, i1e0, true_or, or_true, Decidable.not_not, if_true, if_false, Bool.false_eq_true, Int32.zero_add, true_and, and_true, nlt, le2, lt8, lt1, gt999, cT, cg_5, s_16, hn, g40, m0, and_self, and_false, false_and]
theorem s_14 {n : Nat} {m p r x : Int32} (hn : s 0 1 = nI n) (h40 : n < 40) (h : maM s m p r x = 0) : qRun 14 [.ref o, .int m, .int p, .int r, .int x] (cB M o s) = some (some (.int (nI n)), cB M o (u2 (u2 (bgF s n m p r x) 0 6 (s 0 0)) 0 1 (nI (n + 1)))) := by
  refine qRun_of ?_ rfl
  rw [en_14]
  unfold maM at h
  have g40 : (nI n < (40 : Int32)) = True := eq_true (by rw [show (40 : Int32) = nI 40 from rfl, nI_lt_iff (by omega) (by omega)]; omega)
  have nlt : ∀ y : Int32, (y < 0) = ¬ 0 ≤ y := fun y => propext Int32.not_le.symm
  by_cases h1 : (0 ≤ m ∧ m ≤ 2) ∧ 0 ≤ r ∧ r ≤ 7
  · rw [if_neg (fun q => q h1)] at h
    by_cases h2 : (1 ≤ p ∧ p ≤ 999) ∧ s 0 0 ≤ x ∧ x ≤ 1439
    · obtain ⟨⟨m0, m2⟩, r0, r7⟩ := h1
      obtain ⟨⟨p1, p9⟩, x0⟩ := h2
      have e0 : bgF s n m p r x 0 0 = s 0 0 := by unfold bgF; rw [if_neg (by omega)]
      have e1 : u2 (bgF s n m p r x) 0 6 (s 0 0) 0 1 = nI n := by rw [u2_at, if_neg (by omega)]; unfold bgF; rw [if_neg (by omega)]; exact hn
      simp only [x_14_0, x_14_1, x_14_4, x_14_5, x_14_6, x_14_9, x_14_10, x_14_13, x_14_14, x_14_16, x_14_19, x_14_20, x_14_21, x_14_22, x_14_23, x_14_26, x_14_27, x_14_30, x_14_33, x_14_34, x_14_36, x_14_39, x_14_42, x_14_44, x_14_45, x_14_46, x_14_49, x_14_51, x_14_54, x_14_56, x_14_57, x_14_58, x_14_61, x_14_62, x_14_65, x_14_66, x_14_67, x_14_68, x_14_69, x_14_71, x_14_74, x_14_75, x_14_76, x_14_79, x_14_82, x_14_83, x_14_84, x_14_87, x_14_88, x_14_89, x_14_90, x_14_93, Option.bind_some, Option.bind_none, Option.toList_some, Option.toList_none, List.cons_append, List.nil_append, pNl_i, pNl_r, pNl_u, pNl_n, bI_0, bI_1, nn_or, or_nn, not_false_eq_true, not_true_eq_false, i1000, i1e0, true_or, or_true, Decidable.not_not, if_true, if_false, Bool.false_eq_true, Int32.zero_add, true_and, and_true, nlt, le2, lt8, lt1, gt999, cT, cg_5, cg_2, s_16, hn, g40, m0, m2, r0, r7, p1, p9, x0, and_self, bA h40, bT h40, s_1 h40, cg_6, cp_10, e0, e1, nI_1, cp_5]
    · rw [if_pos h2] at h
      exact absurd h (by decide)
  · rw [if_pos h1] at h
    exact absurd h (by decide)
theorem s_20 {w n : Nat} {wv rt : Int32} (hw : w < 11) (hwv : wv = nI w) (hn : s 0 1 = nI n) (h40 : n ≤ 40) : qRun 20 [.ref o, .int rt, .int wv] (cB M o s) = some (some (.int (smF s w rt n)), cB M o s) := by
  subst hwv
  have loop : ∀ (k i : Nat) (l5 : Option Value), i + k = n → qEx 20 (5, [some (.ref o), some (.int rt), some (.int (nI w)), some (.int (smF s w rt i)), some (.int (nI i)), l5], [], cB M o s) = some (some (.int (smF s w rt n)), cB M o s) := by
    intro k
    induction k with
    | zero =>
      intro i l5 hi
      have hin : i = n := by omega
      subst hin
      rw [x_20_5]
      simp only [x_20_0, x_20_1, x_20_2, x_20_3, x_20_7, x_20_8, x_20_11, x_20_14, x_20_15, x_20_18, x_20_20, x_20_21, x_20_23, x_20_24, x_20_26, x_20_29, x_20_31, x_20_34, x_20_35, x_20_38, x_20_39, x_20_41, x_20_42, x_20_45, x_20_46, x_20_47, x_20_50, x_20_53, x_20_54, Option.bind_some, Option.bind_none, Option.toList_some, Option.toList_none, List.cons_append, List.nil_append, pNl_i, pNl_r, pNl_u, pNl_n, bI_0, bI_1, nn_or, or_nn, not_false_eq_true, not_true_eq_false, i1000, i1e0, true_or, or_true, Decidable.not_not, if_true, if_false, Bool.false_eq_true, Int32.zero_add, true_and, and_true, cg_5, hn, Int32.le_refl]
    | succ k ih =>
      intro i l5 hi
      have hlt : (nI n ≤ nI i) = False := by rw [nI_le_iff (by omega) (by omega)]; simp; omega
      have hb : i < 40 := by omega
      rw [← ih (i + 1) (some (.ref (o + 7 + i))) (by omega), x_20_5]
      rw [show smF s w rt (i + 1) = smF s w rt i + (if rt = -6 ∨ s (11 + i) 2 = rt then s (11 + i) w else 0) from rfl]
      by_cases c1 : rt = -6
      · simp only [x_20_0, x_20_1, x_20_2, x_20_3, x_20_7, x_20_8, x_20_11, x_20_14, x_20_15, x_20_18, x_20_20, x_20_21, x_20_23, x_20_24, x_20_26, x_20_29, x_20_31, x_20_34, x_20_35, x_20_38, x_20_39, x_20_41, x_20_42, x_20_45, x_20_46, x_20_47, x_20_50, x_20_53, x_20_54, Option.bind_some, Option.bind_none, Option.toList_some, Option.toList_none, List.cons_append, List.nil_append, pNl_i, pNl_r, pNl_u, pNl_n, bI_0, bI_1, nn_or, or_nn, not_false_eq_true, not_true_eq_false, i1000, i1e0, true_or, or_true, Decidable.not_not, if_true, if_false, Bool.false_eq_true, Int32.zero_add, true_and, and_true, cg_5, cg_2, hn, hlt, bA hb, bT hb, bg hb, Nat.reduceLT, c1, s_3 hb hw, nI_1]
      · by_cases c2 : s (11 + i) 2 = rt
        · simp only [x_20_0, x_20_1, x_20_2, x_20_3, x_20_7, x_20_8, x_20_11, x_20_14, x_20_15, x_20_18, x_20_20, x_20_21, x_20_23, x_20_24, x_20_26, x_20_29, x_20_31, x_20_34, x_20_35, x_20_38, x_20_39, x_20_41, x_20_42, x_20_45, x_20_46, x_20_47, x_20_50, x_20_53, x_20_54, Option.bind_some, Option.bind_none, Option.toList_some, Option.toList_none, List.cons_append, List.nil_append, pNl_i, pNl_r, pNl_u, pNl_n, bI_0, bI_1, nn_or, or_nn, not_false_eq_true, not_true_eq_false, i1000, i1e0, true_or, or_true, Decidable.not_not, if_true, if_false, Bool.false_eq_true, Int32.zero_add, true_and, and_true, cg_5, cg_2, hn, hlt, bA hb, bT hb, bg hb, Nat.reduceLT, c1, c2, s_3 hb hw, nI_1, or_true]
        · simp only [x_20_0, x_20_1, x_20_2, x_20_3, x_20_7, x_20_8, x_20_11, x_20_14, x_20_15, x_20_18, x_20_20, x_20_21, x_20_23, x_20_24, x_20_26, x_20_29, x_20_31, x_20_34, x_20_35, x_20_38, x_20_39, x_20_41, x_20_42, x_20_45, x_20_46, x_20_47, x_20_50, x_20_53, x_20_54, Option.bind_some, Option.bind_none, Option.toList_some, Option.toList_none, List.cons_append, List.nil_append, pNl_i, pNl_r, pNl_u, pNl_n, bI_0, bI_1, nn_or, or_nn, not_false_eq_true, not_true_eq_false, i1000, i1e0, true_or, or_true, Decidable.not_not, if_true, if_false, Bool.false_eq_true, Int32.zero_add, true_and, and_true, cg_5, cg_2, hn, hlt, bA hb, bT hb, bg hb, Nat.reduceLT, c1, c2, s_3 hb hw, nI_1, or_false, Int32.add_zero]
  refine qRun_of ?_ rfl
  rw [en_20]
  simp only [x_20_0, x_20_1, x_20_2, x_20_3, x_20_7, x_20_8, x_20_11, x_20_14, x_20_15, x_20_18, x_20_20, x_20_21, x_20_23, x_20_24, x_20_26, x_20_29, x_20_31, x_20_34, x_20_35, x_20_38, x_20_39, x_20_41, x_20_42, x_20_45, x_20_46, x_20_47, x_20_50, x_20_53, x_20_54, Option.bind_some, Option.bind_none, Option.toList_some, Option.toList_none, List.cons_append, List.nil_append, pNl_i, pNl_r, pNl_u, pNl_n, bI_0, bI_1, nn_or, or_nn, not_false_eq_true, not_true_eq_false, i1000, i1e0, true_or, or_true, Decidable.not_not, if_true, if_false, Bool.false_eq_true, Int32.zero_add, true_and, and_true]
  exact loop n 0 none (by omega)
end CF
