/-! the class: what it is asked; undo, save, restore -/
theorem x_69_8N {l0 l1 l2 l3 : Option Value} {st : List Value} {M : qHp} (hn : qNl (some l2) = true) : qEx 69 (8, [l0, l1, l2, l3], .null :: st, M) = qEx 69 (9, [l0, l1, l2, some .null], st, M) := kk_same f_69_8 (by show (qS1 _ _ _).bind _ = _; unfold qS1; rw [if_pos ⟨Nat.le_of_ble_eq_true rfl, Or.inr hn⟩]; rfl)
theorem x_69_9N {l0 l1 l2 : Option Value} {st : List Value} {M : qHp} : qEx 69 (9, [l0, l1, l2, some .null], st, M) = qEx 69 (10, [l0, l1, l2, some .null], .null :: st, M) := kk_same f_69_9 (rfl)
theorem x_70_8N {l0 l1 l2 l3 : Option Value} {st : List Value} {M : qHp} (hn : qNl (some l2) = true) : qEx 70 (8, [l0, l1, l2, l3], .null :: st, M) = qEx 70 (9, [l0, l1, l2, some .null], st, M) := kk_same f_70_8 (by show (qS1 _ _ _).bind _ = _; unfold qS1; rw [if_pos ⟨Nat.le_of_ble_eq_true rfl, Or.inr hn⟩]; rfl)
theorem x_70_9N {l0 l1 l2 : Option Value} {st : List Value} {M : qHp} : qEx 70 (9, [l0, l1, l2, some .null], st, M) = qEx 70 (10, [l0, l1, l2, some .null], .null :: st, M) := kk_same f_70_9 (rfl)
theorem x_74_8N {l0 l1 l2 l3 : Option Value} {st : List Value} {M : qHp} (hn : qNl (some l2) = true) : qEx 74 (8, [l0, l1, l2, l3], .null :: st, M) = qEx 74 (9, [l0, l1, l2, some .null], st, M) := kk_same f_74_8 (by show (qS1 _ _ _).bind _ = _; unfold qS1; rw [if_pos ⟨Nat.le_of_ble_eq_true rfl, Or.inr hn⟩]; rfl)
theorem x_74_9N {l0 l1 l2 : Option Value} {st : List Value} {M : qHp} : qEx 74 (9, [l0, l1, l2, some .null], st, M) = qEx 74 (10, [l0, l1, l2, some .null], .null :: st, M) := kk_same f_74_9 (rfl)
section KI
variable {M : qHp} {K : Nat → Sg} {d v x : Nat → Int32} {f z n : Nat}
theorem k0 {y : Nat} {As : List Value} {r : Option Value} (h : qRun y As (cB (kW M K d v x) 5 (K 0)) = some (r, cB (kW M K d v x) 5 (K 0))) : qRun y As (kW M K d v x) = some (r, kW M K d v x) := kW_same (i := 0) (by omega) h
theorem kc_0 : hG (kW M K d v x) 5 1 0 = some (.ref 6) := (congrArg (fun q => hG q 5 1 0) (kW_cB' (i := 0) (by omega))).trans cg_0
theorem kc_5 : hG (kW M K d v x) 5 1 5 = some (.int (K 0 0 1)) := (congrArg (fun q => hG q 5 1 5) (kW_cB' (i := 0) (by omega))).trans cg_5
theorem kc_6 : hG (kW M K d v x) 5 1 6 = some (.int (K 0 0 0)) := (congrArg (fun q => hG q 5 1 6) (kW_cB' (i := 0) (by omega))).trans cg_6
theorem kc_8 : hG (kW M K d v x) 5 1 8 = some (.int (K 0 0 2)) := (congrArg (fun q => hG q 5 1 8) (kW_cB' (i := 0) (by omega))).trans cg_8
theorem kc_9 : hG (kW M K d v x) 5 1 9 = some (.int (K 0 0 3)) := (congrArg (fun q => hG q 5 1 9) (kW_cB' (i := 0) (by omega))).trans cg_9
theorem kc_t {i : Nat} (hi : i < 9) : hLI (kW M K d v x) 6 (nI i) = some (.int (K 0 1 i)) := (congrArg (fun q => hLI q 6 (nI i)) (kW_cB' (i := 0) (by omega))).trans (tl hi rfl)
theorem kbT {b : Nat} (hb : b < 40) : hT (kW M K d v x) (5 + 7 + b) 0 = true := (congrArg (fun q => hT q (5 + 7 + b) 0) (kW_cB' (i := 0) (by omega))).trans (bT hb)
theorem kmT {m : Nat} (hm : m < 3) : hT (kW M K d v x) (5 + 47 + 3 * m) 3 = true := (congrArg (fun q => hT q (5 + 47 + 3 * m) 3) (kW_cB' (i := 0) (by omega))).trans (mT hm)
theorem km_0 {m : Nat} (hm : m < 3) : hG (kW M K d v x) (5 + 47 + 3 * m) 3 0 = some (.ref (5 + 48 + 3 * m)) := (congrArg (fun q => hG q (5 + 47 + 3 * m) 3 0) (kW_cB' (i := 0) (by omega))).trans (mg_0 hm)
theorem kr_1 {m : Nat} (hm : m < 3) : hG (kW M K d v x) (5 + 48 + 3 * m) 5 1 = some (.int (K 0 6 m)) := (congrArg (fun q => hG q (5 + 48 + 3 * m) 5 1) (kW_cB' (i := 0) (by omega))).trans (rg_1 (rw_q hm))
theorem krT {m : Nat} (hm : m < 3) : hT (kW M K d v x) (5 + 48 + 3 * m) 5 = true := (congrArg (fun q => hT q (5 + 48 + 3 * m) 5) (kW_cB' (i := 0) (by omega))).trans (rT (rw_q hm))
theorem le_sub {y : Int32} (hn : K 0 0 1 = nI n) (h40 : n ≤ 40) : (0 ≤ y ∧ y < K 0 0 1) = (0 ≤ y ∧ y ≤ K 0 0 1 - 1) := by
  rw [hn]
  refine propext (and_congr Iff.rfl ?_)
  rcases Nat.eq_zero_or_pos n with q | q
  · subst q
    rw [show (nI 0 - 1 : Int32) = -1 by decide, show nI 0 = 0 from rfl, Int32.lt_iff_toInt_lt, Int32.le_iff_toInt_le, show (0 : Int32).toInt = 0 from rfl, show (-1 : Int32).toInt = -1 from rfl]
    omega
  · obtain ⟨k, rfl⟩ : ∃ k, n = k + 1 := ⟨n - 1, by omega⟩
    rw [lt_le (by omega), ← nI_1, Int32.add_sub_cancel]
theorem s_69_0 {y w : Int32} (hn : K 0 0 1 = nI n) (h40 : n ≤ 40) (h : ¬ (0 ≤ y ∧ y ≤ K 0 0 1 - 1)) : qRun 69 [.ref 4, .int y, .int w] (kW M K d v x) = some (some (.int (-1)), kW M K d v x) := by
  refine qRun_of ?_ rfl
  rw [en_69]
  have a17 := k0 (@s_17_0 (kW M K d v x) 5 (K 0) y (by rw [le_sub hn h40]; exact h))
  simp only [x_69_0, x_69_1, x_69_4, x_69_5, x_69_8, x_69_9, x_69_10N, x_69_10, x_69_13, x_69_14, x_69_17, x_69_18, x_69_19, x_69_22, Option.bind_some, Option.bind_none, Option.toList_some, Option.toList_none, List.cons_append, List.nil_append, pNl_i, pNl_r, pNl_u, pNl_n, bI_0, bI_1, nn_or, or_nn, not_false_eq_true, not_true_eq_false, i1000, i1e0, true_or, or_true, Decidable.not_not, if_true, if_false, Bool.false_eq_true, Int32.zero_add, true_and, and_true, k4_0, kT0, a17, x_69_8N, x_69_9N]
theorem s_69_1 {b : Nat} {w : Int32} (hn : K 0 0 1 = nI n) (h40 : n ≤ 40) (hb : b < n) (h : ¬ (0 ≤ w ∧ w ≤ 10)) : qRun 69 [.ref 4, .int (nI b), .int w] (kW M K d v x) = some (some (.int (-2)), kW M K d v x) := by
  refine qRun_of ?_ rfl
  rw [en_69]
  have a17 := k0 (@s_17 (kW M K d v x) 5 (K 0) b n hn h40 hb)
  have a3 := k0 (@s_3_0 (kW M K d v x) 5 (K 0) b w h)
  simp only [x_69_0, x_69_1, x_69_4, x_69_5, x_69_8, x_69_9, x_69_10N, x_69_10, x_69_13, x_69_14, x_69_17, x_69_18, x_69_19, x_69_22, Option.bind_some, Option.bind_none, Option.toList_some, Option.toList_none, List.cons_append, List.nil_append, pNl_i, pNl_r, pNl_u, pNl_n, bI_0, bI_1, nn_or, or_nn, not_false_eq_true, not_true_eq_false, i1000, i1e0, true_or, or_true, Decidable.not_not, if_true, if_false, Bool.false_eq_true, Int32.zero_add, true_and, and_true, k4_0, kT0, a17, kbT (show b < 40 by omega), a3]
theorem s_69 {b w : Nat} (hn : K 0 0 1 = nI n) (h40 : n ≤ 40) (hb : b < n) (hw : w < 11) : qRun 69 [.ref 4, .int (nI b), .int (nI w)] (kW M K d v x) = some (some (.int (K 0 (11 + b) w)), kW M K d v x) := by
  refine qRun_of ?_ rfl
  rw [en_69]
  have a17 := k0 (@s_17 (kW M K d v x) 5 (K 0) b n hn h40 hb)
  have a3 := k0 (@s_3 (kW M K d v x) 5 (K 0) b w (by omega) hw)
  simp only [x_69_0, x_69_1, x_69_4, x_69_5, x_69_8, x_69_9, x_69_10N, x_69_10, x_69_13, x_69_14, x_69_17, x_69_18, x_69_19, x_69_22, Option.bind_some, Option.bind_none, Option.toList_some, Option.toList_none, List.cons_append, List.nil_append, pNl_i, pNl_r, pNl_u, pNl_n, bI_0, bI_1, nn_or, or_nn, not_false_eq_true, not_true_eq_false, i1000, i1e0, true_or, or_true, Decidable.not_not, if_true, if_false, Bool.false_eq_true, Int32.zero_add, true_and, and_true, k4_0, kT0, a17, kbT (show b < 40 by omega), a3]
theorem s_70_0 {y w : Int32} (h : ¬ (0 ≤ y ∧ y ≤ 2)) : qRun 70 [.ref 4, .int y, .int w] (kW M K d v x) = some (some (.int (-1)), kW M K d v x) := by
  refine qRun_of ?_ rfl
  rw [en_70]
  have a18 := k0 (@s_18_0 (kW M K d v x) 5 (K 0) y h)
  simp only [x_70_0, x_70_1, x_70_4, x_70_5, x_70_8, x_70_9, x_70_10N, x_70_10, x_70_13, x_70_14, x_70_17, x_70_18, x_70_19, x_70_22, Option.bind_some, Option.bind_none, Option.toList_some, Option.toList_none, List.cons_append, List.nil_append, pNl_i, pNl_r, pNl_u, pNl_n, bI_0, bI_1, nn_or, or_nn, not_false_eq_true, not_true_eq_false, i1000, i1e0, true_or, or_true, Decidable.not_not, if_true, if_false, Bool.false_eq_true, Int32.zero_add, true_and, and_true, k4_0, kT0, a18, x_70_8N, x_70_9N]
theorem s_70_1 {m : Nat} {w : Int32} (hm : m < 3) (h : ¬ (0 ≤ w ∧ w ≤ 5)) : qRun 70 [.ref 4, .int (nI m), .int w] (kW M K d v x) = some (some (.int (-2)), kW M K d v x) := by
  refine qRun_of ?_ rfl
  rw [en_70]
  have a18 := k0 (@s_18 (kW M K d v x) 5 (K 0) m hm)
  have a44 := k0 (@s_44_0 (kW M K d v x) 5 (K 0) m w h)
  simp only [x_70_0, x_70_1, x_70_4, x_70_5, x_70_8, x_70_9, x_70_10N, x_70_10, x_70_13, x_70_14, x_70_17, x_70_18, x_70_19, x_70_22, Option.bind_some, Option.bind_none, Option.toList_some, Option.toList_none, List.cons_append, List.nil_append, pNl_i, pNl_r, pNl_u, pNl_n, bI_0, bI_1, nn_or, or_nn, not_false_eq_true, not_true_eq_false, i1000, i1e0, true_or, or_true, Decidable.not_not, if_true, if_false, Bool.false_eq_true, Int32.zero_add, true_and, and_true, k4_0, kT0, a18, kmT hm, a44]
theorem s_70 {m w : Nat} (hm : m < 3) (hw : w < 6) : qRun 70 [.ref 4, .int (nI m), .int (nI w)] (kW M K d v x) = some (some (.int (mcV (K 0) m w)), kW M K d v x) := by
  refine qRun_of ?_ rfl
  rw [en_70]
  have a18 := k0 (@s_18 (kW M K d v x) 5 (K 0) m hm)
  have a44 := k0 (@s_44 (kW M K d v x) 5 (K 0) m w hm hw)
  simp only [x_70_0, x_70_1, x_70_4, x_70_5, x_70_8, x_70_9, x_70_10N, x_70_10, x_70_13, x_70_14, x_70_17, x_70_18, x_70_19, x_70_22, Option.bind_some, Option.bind_none, Option.toList_some, Option.toList_none, List.cons_append, List.nil_append, pNl_i, pNl_r, pNl_u, pNl_n, bI_0, bI_1, nn_or, or_nn, not_false_eq_true, not_true_eq_false, i1000, i1e0, true_or, or_true, Decidable.not_not, if_true, if_false, Bool.false_eq_true, Int32.zero_add, true_and, and_true, k4_0, kT0, a18, kmT hm, a44]
theorem s_71_0 {y w : Int32} (h : ¬ (0 ≤ y ∧ y ≤ 7)) : qRun 71 [.ref 4, .int y, .int w] (kW M K d v x) = some (some (.int (-1)), kW M K d v x) := by
  refine qRun_of ?_ rfl
  rw [en_71]
  by_cases c1 : y < 0
  · simp only [x_71_0, x_71_1, x_71_4, x_71_5, x_71_7, x_71_10, x_71_11, x_71_12, x_71_13, x_71_48, x_71_49, x_71_52, x_71_53, x_71_56, x_71_57, x_71_58, x_71_61, x_71_62, x_71_64, x_71_67, x_71_68, x_71_69, x_71_72, x_71_73, x_71_75, x_71_78, x_71_79, x_71_80, x_71_83, x_71_84, x_71_86, x_71_89, x_71_90, x_71_91, x_71_94, x_71_95, x_71_96, x_71_99, x_71_100, x_71_102, Option.bind_some, Option.bind_none, Option.toList_some, Option.toList_none, List.cons_append, List.nil_append, pNl_i, pNl_r, pNl_u, pNl_n, bI_0, bI_1, nn_or, or_nn, not_false_eq_true, not_true_eq_false, i1000, i1e0, true_or, or_true, Decidable.not_not, if_true, if_false, Bool.false_eq_true, Int32.zero_add, true_and, and_true, c1]
  · have c2 : (y ≤ 7) = False := eq_false fun q => h ⟨Int32.not_lt.mp c1, q⟩
    simp only [x_71_0, x_71_1, x_71_4, x_71_5, x_71_7, x_71_10, x_71_11, x_71_12, x_71_13, x_71_48, x_71_49, x_71_52, x_71_53, x_71_56, x_71_57, x_71_58, x_71_61, x_71_62, x_71_64, x_71_67, x_71_68, x_71_69, x_71_72, x_71_73, x_71_75, x_71_78, x_71_79, x_71_80, x_71_83, x_71_84, x_71_86, x_71_89, x_71_90, x_71_91, x_71_94, x_71_95, x_71_96, x_71_99, x_71_100, x_71_102, Option.bind_some, Option.bind_none, Option.toList_some, Option.toList_none, List.cons_append, List.nil_append, pNl_i, pNl_r, pNl_u, pNl_n, bI_0, bI_1, nn_or, or_nn, not_false_eq_true, not_true_eq_false, i1000, i1e0, true_or, or_true, Decidable.not_not, if_true, if_false, Bool.false_eq_true, Int32.zero_add, true_and, and_true, c1, lt8, c2]
theorem s_71_1 {y w : Int32} (h : 0 ≤ y ∧ y ≤ 7) (h2 : ¬ (0 ≤ w ∧ w ≤ 4)) : qRun 71 [.ref 4, .int y, .int w] (kW M K d v x) = some (some (.int (-2)), kW M K d v x) := by
  refine qRun_of ?_ rfl
  rw [en_71]
  have c1 : (y < 0) = False := eq_false (Int32.not_lt.mpr h.1)
  have k : ∀ j : Nat, j ≤ 4 → (w = nI j) = False := fun j hj => eq_false fun e => h2 (by rw [e]; exact of_eq_true (nI_bt0 (x := 4) (n := 4) rfl (by omega) hj))
  have k0 := k 0 (by omega)
  have k1 := k 1 (by omega)
  have k2 := k 2 (by omega)
  have k3 := k 3 (by omega)
  have k4 := k 4 (by omega)
  simp only [nl_0, nl_1, nl_2, nl_3, nl_4] at k0 k1 k2 k3 k4
  simp only [x_71_0, x_71_1, x_71_4, x_71_5, x_71_7, x_71_10, x_71_11, x_71_12, x_71_13, x_71_48, x_71_49, x_71_52, x_71_53, x_71_56, x_71_57, x_71_58, x_71_61, x_71_62, x_71_64, x_71_67, x_71_68, x_71_69, x_71_72, x_71_73, x_71_75, x_71_78, x_71_79, x_71_80, x_71_83, x_71_84, x_71_86, x_71_89, x_71_90, x_71_91, x_71_94, x_71_95, x_71_96, x_71_99, x_71_100, x_71_102, Option.bind_some, Option.bind_none, Option.toList_some, Option.toList_none, List.cons_append, List.nil_append, pNl_i, pNl_r, pNl_u, pNl_n, bI_0, bI_1, nn_or, or_nn, not_false_eq_true, not_true_eq_false, i1000, i1e0, true_or, or_true, Decidable.not_not, if_true, if_false, Bool.false_eq_true, Int32.zero_add, true_and, and_true, c1, lt8, h.2, k0, k1, k2, k3, k4]
theorem s_71 {r w : Nat} (hr : r < 8) (hw : w < 5) (hn : K 0 0 1 = nI n) (h40 : n ≤ 40) : qRun 71 [.ref 4, .int (nI r), .int (nI w)] (kW M K d v x) = some (some (.int (rtV (K 0) r w n)), kW M K d v x) := by
  refine qRun_of ?_ rfl
  rw [en_71]
  have c1 : (nI r < 0) = False := eq_false (nI_pos (by omega))
  have c2 : (nI r < 8) = True := eq_true (by rw [show (8 : Int32) = nI 8 from rfl, nI_lt_iff (by omega) (by omega)]; omega)
  have a19 := k0 (@s_19 (kW M K d v x) 5 (K 0) r hr)
  have e7 := k0 (@s_20 (kW M K d v x) 5 (K 0) 7 n 7 (nI r) (by omega) rfl hn h40)
  have e8 := k0 (@s_20 (kW M K d v x) 5 (K 0) 8 n 8 (nI r) (by omega) rfl hn h40)
  have e6 := k0 (@s_20 (kW M K d v x) 5 (K 0) 6 n 6 (nI r) (by omega) rfl hn h40)
  have e1 := k0 (@s_20 (kW M K d v x) 5 (K 0) 1 n 1 (nI r) (by omega) rfl hn h40)
  unfold rtV
  match w, hw with
  | 0, _ | 1, _ | 2, _ | 3, _ | 4, _ => simp (config := {decide := true}) only [x_71_0, x_71_1, x_71_4, x_71_5, x_71_7, x_71_10, x_71_11, x_71_12, x_71_13, x_71_48, x_71_49, x_71_52, x_71_53, x_71_56, x_71_57, x_71_58, x_71_61, x_71_62, x_71_64, x_71_67, x_71_68, x_71_69, x_71_72, x_71_73, x_71_75, x_71_78, x_71_79, x_71_80, x_71_83, x_71_84, x_71_86, x_71_89, x_71_90, x_71_91, x_71_94, x_71_95, x_71_96, x_71_99, x_71_100, x_71_102, Option.bind_some, Option.bind_none, Option.toList_some, Option.toList_none, List.cons_append, List.nil_append, pNl_i, pNl_r, pNl_u, pNl_n, bI_0, bI_1, nn_or, or_nn, not_false_eq_true, not_true_eq_false, i1000, i1e0, true_or, or_true, Decidable.not_not, if_true, if_false, Bool.false_eq_true, Int32.zero_add, true_and, and_true, c1, c2, k4_0, kT0, a19, e7, e8, e6, e1, nl_0, nl_1, nl_2, nl_3, nl_4, if_true, if_false]
theorem k_513 : (kW M K d v x).2 513 = some (4, [.ref 514, .int (d 2), .int (d 3), .int (d 4), .int (d 5), .int (d 6), .int (d 7)]) := rfl
theorem kq_1 : hG (kW M K d v x) 513 4 1 = some (.int (d 2)) := hG_of k_513
theorem lt17 {y : Int32} : (17 ≤ y) = ¬ y ≤ 16 := nI_sle (n := 16) (by omega)
theorem lt8' {y : Int32} : (y < 8) = ¬ 8 ≤ y := propext Int32.not_le.symm
theorem s_72 {y : Int32} (hn : K 0 0 1 = nI n) (h40 : n ≤ 40) : qRun 72 [.ref 4, .int y] (kW M K d v x) = some (some (.int (cnV (K 0) (d 2) (d 1) n y)), kW M K d v x) := by
  refine qRun_of ?_ rfl
  rw [en_72]
  have e7 := k0 (@s_20 (kW M K d v x) 5 (K 0) 7 n 7 (-6) (by omega) rfl hn h40)
  have e8 := k0 (@s_20 (kW M K d v x) 5 (K 0) 8 n 8 (-6) (by omega) rfl hn h40)
  have e5 := k0 (@s_20 (kW M K d v x) 5 (K 0) 5 n 5 (-6) (by omega) rfl hn h40)
  have e1 := k0 (@s_20 (kW M K d v x) 5 (K 0) 1 n 1 (-6) (by omega) rfl hn h40)
  unfold cnV
  by_cases h8 : 8 ≤ y ∧ y ≤ 16
  · rw [if_pos h8]
    obtain ⟨j, hj, rfl⟩ := nI_bt (n := 16) (by omega) (Int32.le_trans (by decide) h8.1) h8.2
    have hj8 : 8 ≤ j := by
      have := h8.1
      rw [show (8 : Int32) = nI 8 from rfl, nI_le_iff (by omega) (by omega)] at this; exact this
    have p5 : (nI j - 8 : Int32) = nI (j - 8) := by
      rw [show nI j = nI (j - 8) + nI 8 by rw [nI_add]; congr 1; omega]; exact Int32.add_sub_cancel _ _
    simp only [x_72_0, x_72_1, x_72_3, x_72_6, x_72_7, x_72_9, x_72_12, x_72_13, x_72_16, x_72_19, x_72_20, x_72_22, x_72_23, x_72_24, x_72_25, x_72_26, x_72_116, x_72_117, x_72_120, x_72_123, x_72_124, x_72_125, x_72_128, x_72_131, x_72_132, x_72_133, x_72_136, x_72_138, x_72_139, x_72_142, x_72_143, x_72_144, x_72_147, x_72_150, x_72_151, x_72_152, x_72_155, x_72_157, x_72_158, x_72_161, x_72_162, x_72_163, x_72_166, x_72_169, x_72_170, x_72_171, x_72_174, x_72_176, x_72_178, x_72_181, x_72_182, x_72_183, x_72_186, x_72_188, x_72_190, x_72_193, x_72_194, x_72_195, x_72_198, x_72_201, x_72_202, x_72_203, x_72_206, x_72_209, x_72_210, x_72_212, Option.bind_some, Option.bind_none, Option.toList_some, Option.toList_none, List.cons_append, List.nil_append, pNl_i, pNl_r, pNl_u, pNl_n, bI_0, bI_1, nn_or, or_nn, not_false_eq_true, not_true_eq_false, i1000, i1e0, true_or, or_true, Decidable.not_not, if_true, if_false, Bool.false_eq_true, Int32.zero_add, true_and, and_true, lt8', lt17, h8.1, h8.2, k4_0, kc_0, p5, kc_t (show j - 8 < 9 by omega), nN_nI (show j - 8 < 100000 by omega)]
  · rw [if_neg h8]
    have hsw : qEx 72 (0, [some (.ref 4), some (.int y)], [], kW M K d v x) = qEx 72 (26, [some (.ref 4), some (.int y)], [.int y], kW M K d v x) := by
      by_cases c1 : 8 ≤ y
      · have c2 : (y ≤ 16) = False := eq_false fun q => h8 ⟨c1, q⟩
        simp only [x_72_0, x_72_1, x_72_3, x_72_6, x_72_7, x_72_9, x_72_12, x_72_13, x_72_16, x_72_19, x_72_20, x_72_22, x_72_23, x_72_24, x_72_25, x_72_116, x_72_117, x_72_120, x_72_123, x_72_124, x_72_125, x_72_128, x_72_131, x_72_132, x_72_133, x_72_136, x_72_138, x_72_139, x_72_142, x_72_143, x_72_144, x_72_147, x_72_150, x_72_151, x_72_152, x_72_155, x_72_157, x_72_158, x_72_161, x_72_162, x_72_163, x_72_166, x_72_169, x_72_170, x_72_171, x_72_174, x_72_176, x_72_178, x_72_181, x_72_182, x_72_183, x_72_186, x_72_188, x_72_190, x_72_193, x_72_194, x_72_195, x_72_198, x_72_201, x_72_202, x_72_203, x_72_206, x_72_209, x_72_210, x_72_212, Option.bind_some, Option.bind_none, Option.toList_some, Option.toList_none, List.cons_append, List.nil_append, pNl_i, pNl_r, pNl_u, pNl_n, bI_0, bI_1, nn_or, or_nn, not_false_eq_true, not_true_eq_false, i1000, i1e0, true_or, or_true, Decidable.not_not, if_true, if_false, Bool.false_eq_true, Int32.zero_add, true_and, and_true, lt8', lt17, c1, c2]
      · simp only [x_72_0, x_72_1, x_72_3, x_72_6, x_72_7, x_72_9, x_72_12, x_72_13, x_72_16, x_72_19, x_72_20, x_72_22, x_72_23, x_72_24, x_72_25, x_72_116, x_72_117, x_72_120, x_72_123, x_72_124, x_72_125, x_72_128, x_72_131, x_72_132, x_72_133, x_72_136, x_72_138, x_72_139, x_72_142, x_72_143, x_72_144, x_72_147, x_72_150, x_72_151, x_72_152, x_72_155, x_72_157, x_72_158, x_72_161, x_72_162, x_72_163, x_72_166, x_72_169, x_72_170, x_72_171, x_72_174, x_72_176, x_72_178, x_72_181, x_72_182, x_72_183, x_72_186, x_72_188, x_72_190, x_72_193, x_72_194, x_72_195, x_72_198, x_72_201, x_72_202, x_72_203, x_72_206, x_72_209, x_72_210, x_72_212, Option.bind_some, Option.bind_none, Option.toList_some, Option.toList_none, List.cons_append, List.nil_append, pNl_i, pNl_r, pNl_u, pNl_n, bI_0, bI_1, nn_or, or_nn, not_false_eq_true, not_true_eq_false, i1000, i1e0, true_or, or_true, Decidable.not_not, if_true, if_false, Bool.false_eq_true, Int32.zero_add, true_and, and_true, lt8', lt17, c1]
    rw [hsw]
    by_cases h1 : 0 ≤ y ∧ y ≤ 18
    · obtain ⟨j, hj, rfl⟩ := nI_bt (n := 18) (by omega) h1.1 h1.2
      have hj' : j = 0 ∨ j = 1 ∨ j = 2 ∨ j = 3 ∨ j = 4 ∨ j = 5 ∨ j = 6 ∨ j = 7 ∨ j = 17 ∨ j = 18 := by
        have h9 : ¬ (8 ≤ j ∧ j ≤ 16) := fun q => h8 ⟨by rw [show (8 : Int32) = nI 8 from rfl, nI_le_iff (by omega) (by omega)]; exact q.1, by rw [show (16 : Int32) = nI 16 from rfl, nI_le_iff (by omega) (by omega)]; exact q.2⟩
        omega
      rcases hj' with rfl | rfl | rfl | rfl | rfl | rfl | rfl | rfl | rfl | rfl
      all_goals simp (config := {decide := true}) only [nl_0, nl_1, nl_2, nl_3, nl_4, nl_5, nl_6, nl_7, nl_17, nl_18, x_72_1, x_72_3, x_72_6, x_72_7, x_72_9, x_72_12, x_72_13, x_72_16, x_72_19, x_72_20, x_72_22, x_72_23, x_72_24, x_72_25, x_72_26, x_72_116, x_72_117, x_72_120, x_72_123, x_72_124, x_72_125, x_72_128, x_72_131, x_72_132, x_72_133, x_72_136, x_72_138, x_72_139, x_72_142, x_72_143, x_72_144, x_72_147, x_72_150, x_72_151, x_72_152, x_72_155, x_72_157, x_72_158, x_72_161, x_72_162, x_72_163, x_72_166, x_72_169, x_72_170, x_72_171, x_72_174, x_72_176, x_72_178, x_72_181, x_72_182, x_72_183, x_72_186, x_72_188, x_72_190, x_72_193, x_72_194, x_72_195, x_72_198, x_72_201, x_72_202, x_72_203, x_72_206, x_72_209, x_72_210, x_72_212, Option.bind_some, Option.bind_none, Option.toList_some, Option.toList_none, List.cons_append, List.nil_append, pNl_i, pNl_r, pNl_u, pNl_n, bI_0, bI_1, nn_or, or_nn, not_false_eq_true, not_true_eq_false, i1000, i1e0, true_or, or_true, Decidable.not_not, if_true, if_false, Bool.false_eq_true, Int32.zero_add, true_and, and_true, k4_0, k4_4, k4_5, kT0, kc_5, kc_6, kc_8, kc_9, kq_1, kh_2, e7, e8, e5, e1, if_true, if_false]
    · have k : ∀ j : Nat, j ≤ 18 → (y = nI j) = False := fun j hj => eq_false fun e => h1 (by rw [e]; exact of_eq_true (nI_bt0 (x := 18) (n := 18) rfl (by omega) hj))
      have k0 := k 0 (by omega)
      have k1 := k 1 (by omega)
      have k2 := k 2 (by omega)
      have k3 := k 3 (by omega)
      have k4 := k 4 (by omega)
      have k5 := k 5 (by omega)
      have k6 := k 6 (by omega)
      have k7 := k 7 (by omega)
      have k8 := k 8 (by omega)
      have k9 := k 9 (by omega)
      have k10 := k 10 (by omega)
      have k11 := k 11 (by omega)
      have k12 := k 12 (by omega)
      have k13 := k 13 (by omega)
      have k14 := k 14 (by omega)
      have k15 := k 15 (by omega)
      have k16 := k 16 (by omega)
      have k17 := k 17 (by omega)
      have k18 := k 18 (by omega)
      simp only [nl_0, nl_1, nl_2, nl_3, nl_4, nl_5, nl_6, nl_7, nl_8, nl_9, nl_10, nl_11, nl_12, nl_13, nl_14, nl_15, nl_16, nl_17, nl_18] at k0 k1 k2 k3 k4 k5 k6 k7 k8 k9 k10 k11 k12 k13 k14 k15 k16 k17 k18
      simp only [x_72_1, x_72_3, x_72_6, x_72_7, x_72_9, x_72_12, x_72_13, x_72_16, x_72_19, x_72_20, x_72_22, x_72_23, x_72_24, x_72_25, x_72_26, x_72_116, x_72_117, x_72_120, x_72_123, x_72_124, x_72_125, x_72_128, x_72_131, x_72_132, x_72_133, x_72_136, x_72_138, x_72_139, x_72_142, x_72_143, x_72_144, x_72_147, x_72_150, x_72_151, x_72_152, x_72_155, x_72_157, x_72_158, x_72_161, x_72_162, x_72_163, x_72_166, x_72_169, x_72_170, x_72_171, x_72_174, x_72_176, x_72_178, x_72_181, x_72_182, x_72_183, x_72_186, x_72_188, x_72_190, x_72_193, x_72_194, x_72_195, x_72_198, x_72_201, x_72_202, x_72_203, x_72_206, x_72_209, x_72_210, x_72_212, Option.bind_some, Option.bind_none, Option.toList_some, Option.toList_none, List.cons_append, List.nil_append, pNl_i, pNl_r, pNl_u, pNl_n, bI_0, bI_1, nn_or, or_nn, not_false_eq_true, not_true_eq_false, i1000, i1e0, true_or, or_true, Decidable.not_not, if_true, if_false, Bool.false_eq_true, Int32.zero_add, true_and, and_true, k0, k1, k2, k3, k4, k5, k6, k7, k8, k9, k10, k11, k12, k13, k14, k15, k16, k17, k18]
theorem s_73_0 {w : Int32} (h : ¬ (0 ≤ w ∧ w ≤ 4)) : qRun 73 [.ref 4, .int w] (kW M K d v x) = some (some (.long (-2)), kW M K d v x) := by
  refine qRun_of ?_ rfl
  rw [en_73]
  by_cases c1 : w < 0
  · simp only [x_73_0, x_73_1, x_73_4, x_73_5, x_73_6, x_73_9, x_73_12, x_73_15, x_73_16, x_73_19, x_73_20, x_73_23, Option.bind_some, Option.bind_none, Option.toList_some, Option.toList_none, List.cons_append, List.nil_append, pNl_i, pNl_r, pNl_u, pNl_n, bI_0, bI_1, nn_or, or_nn, not_false_eq_true, not_true_eq_false, i1000, i1e0, true_or, or_true, Decidable.not_not, if_true, if_false, Bool.false_eq_true, Int32.zero_add, true_and, and_true, c1]
  · have c2 : (w ≤ 4) = False := eq_false fun q => h ⟨Int32.not_lt.mp c1, q⟩
    simp only [x_73_0, x_73_1, x_73_4, x_73_5, x_73_6, x_73_9, x_73_12, x_73_15, x_73_16, x_73_19, x_73_20, x_73_23, Option.bind_some, Option.bind_none, Option.toList_some, Option.toList_none, List.cons_append, List.nil_append, pNl_i, pNl_r, pNl_u, pNl_n, bI_0, bI_1, nn_or, or_nn, not_false_eq_true, not_true_eq_false, i1000, i1e0, true_or, or_true, Decidable.not_not, if_true, if_false, Bool.false_eq_true, Int32.zero_add, true_and, and_true, c1, c2]
theorem s_73 {w : Int32} (h : 0 ≤ w ∧ w ≤ 4) (hn : K 0 0 1 = nI n) (h40 : n ≤ 40) : qRun 73 [.ref 4, .int w] (kW M K d v x) = some (some (.long (dyF (K 0) w n)), kW M K d v x) := by
  refine qRun_of ?_ rfl
  rw [en_73]
  have c1 : (w < 0) = False := eq_false (Int32.not_lt.mpr h.1)
  have a21 := k0 (@s_21 (kW M K d v x) 5 (K 0) n w hn h40)
  simp only [x_73_0, x_73_1, x_73_4, x_73_5, x_73_6, x_73_9, x_73_12, x_73_15, x_73_16, x_73_19, x_73_20, x_73_23, Option.bind_some, Option.bind_none, Option.toList_some, Option.toList_none, List.cons_append, List.nil_append, pNl_i, pNl_r, pNl_u, pNl_n, bI_0, bI_1, nn_or, or_nn, not_false_eq_true, not_true_eq_false, i1000, i1e0, true_or, or_true, Decidable.not_not, if_true, if_false, Bool.false_eq_true, Int32.zero_add, true_and, and_true, c1, h.2, k4_0, kT0, a21]
theorem s_74_0 {m p : Int32} (h : ¬ quOK (K 0) m p) (hq : ∀ j, j < 3 → ∃ q, q ≤ 40 ∧ K 0 6 j = nI q) : qRun 74 [.ref 4, .int m, .int p] (kW M K d v x) = some (some (.int (-1)), kW M K d v x) := by
  refine qRun_of ?_ rfl
  rw [en_74]
  unfold quOK at h
  by_cases h1 : 0 ≤ m ∧ m ≤ 2
  · obtain ⟨j, hj, rfl⟩ := nI_bt (n := 2) (by omega) h1.1 h1.2
    rw [nN_nI (by omega)] at h
    have a18 := k0 (@s_18 (kW M K d v x) 5 (K 0) j (by omega))
    obtain ⟨q, hq40, e6⟩ := hq j (by omega)
    by_cases c1 : p < 0
    · simp only [x_74_0, x_74_1, x_74_4, x_74_5, x_74_8, x_74_9, x_74_10N, x_74_10, x_74_13, x_74_14, x_74_17, x_74_18, x_74_19, x_74_22, x_74_25, x_74_28, x_74_29, x_74_30, x_74_31, x_74_34, x_74_35, x_74_38, Option.bind_some, Option.bind_none, Option.toList_some, Option.toList_none, List.cons_append, List.nil_append, pNl_i, pNl_r, pNl_u, pNl_n, bI_0, bI_1, nn_or, or_nn, not_false_eq_true, not_true_eq_false, i1000, i1e0, true_or, or_true, Decidable.not_not, if_true, if_false, Bool.false_eq_true, Int32.zero_add, true_and, and_true, k4_0, kT0, a18, c1]
    · have c2 : (p < nI q) = False := eq_false fun hlt => h ⟨h1, Int32.not_lt.mp c1, by
        rw [e6]
        rcases Nat.eq_zero_or_pos q with z | z
        · subst z; exact absurd hlt c1
        · obtain ⟨k, rfl⟩ : ∃ k, q = k + 1 := ⟨q - 1, by omega⟩
          rw [← nI_1, Int32.add_sub_cancel]; rw [lt_le (by omega)] at hlt; exact hlt⟩
      simp only [x_74_0, x_74_1, x_74_4, x_74_5, x_74_8, x_74_9, x_74_10N, x_74_10, x_74_13, x_74_14, x_74_17, x_74_18, x_74_19, x_74_22, x_74_25, x_74_28, x_74_29, x_74_30, x_74_31, x_74_34, x_74_35, x_74_38, Option.bind_some, Option.bind_none, Option.toList_some, Option.toList_none, List.cons_append, List.nil_append, pNl_i, pNl_r, pNl_u, pNl_n, bI_0, bI_1, nn_or, or_nn, not_false_eq_true, not_true_eq_false, i1000, i1e0, true_or, or_true, Decidable.not_not, if_true, if_false, Bool.false_eq_true, Int32.zero_add, true_and, and_true, k4_0, kT0, a18, c1, km_0 (show j < 3 by omega), kr_1 (show j < 3 by omega), e6, c2]
  · have a18 := k0 (@s_18_0 (kW M K d v x) 5 (K 0) m h1)
    simp only [x_74_0, x_74_1, x_74_4, x_74_5, x_74_8, x_74_9, x_74_10N, x_74_10, x_74_13, x_74_14, x_74_17, x_74_18, x_74_19, x_74_22, x_74_25, x_74_28, x_74_29, x_74_30, x_74_31, x_74_34, x_74_35, x_74_38, Option.bind_some, Option.bind_none, Option.toList_some, Option.toList_none, List.cons_append, List.nil_append, pNl_i, pNl_r, pNl_u, pNl_n, bI_0, bI_1, nn_or, or_nn, not_false_eq_true, not_true_eq_false, i1000, i1e0, true_or, or_true, Decidable.not_not, if_true, if_false, Bool.false_eq_true, Int32.zero_add, true_and, and_true, k4_0, kT0, a18, x_74_8N, x_74_9N]
theorem s_74 {m i q : Nat} (hm : m < 3) (hq : K 0 6 m = nI q) (h40 : q ≤ 40) (hi : i < q) : qRun 74 [.ref 4, .int (nI m), .int (nI i)] (kW M K d v x) = some (some (.int (K 0 (7 + m) i)), kW M K d v x) := by
  refine qRun_of ?_ rfl
  rw [en_74]
  have a18 := k0 (@s_18 (kW M K d v x) 5 (K 0) m hm)
  have a60 := k0 (@s_60 (kW M K d v x) 5 (K 0) (5 + 48 + 3 * m) (7 + m) 6 m q (rw_q hm) i hq h40 (by omega))
  rw [if_pos hi] at a60
  have c1 : (nI i < 0) = False := eq_false (nI_pos (by omega))
  have c2 : (nI i < nI q) = True := eq_true (by rw [nI_lt_iff (by omega) (by omega)]; exact hi)
  simp only [x_74_0, x_74_1, x_74_4, x_74_5, x_74_8, x_74_9, x_74_10N, x_74_10, x_74_13, x_74_14, x_74_17, x_74_18, x_74_19, x_74_22, x_74_25, x_74_28, x_74_29, x_74_30, x_74_31, x_74_34, x_74_35, x_74_38, Option.bind_some, Option.bind_none, Option.toList_some, Option.toList_none, List.cons_append, List.nil_append, pNl_i, pNl_r, pNl_u, pNl_n, bI_0, bI_1, nn_or, or_nn, not_false_eq_true, not_true_eq_false, i1000, i1e0, true_or, or_true, Decidable.not_not, if_true, if_false, Bool.false_eq_true, Int32.zero_add, true_and, and_true, k4_0, kT0, a18, c1, km_0 hm, kr_1 hm, krT hm, hq, c2, a60]
end KI
