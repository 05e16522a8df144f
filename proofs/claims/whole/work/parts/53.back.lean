/-! the class: undo, save, restore, what if -/
section KJ
variable {M : qHp} {K : Nat → Sg} {d v x : Nat → Int32} {f z n : Nat}
theorem s_40 (hf : d 0 = nI f) (hz : d 1 = nI (z + 1)) (f7 : f < 7) (z6 : z < 6) : qRun 40 [.ref 119] (kW M K d v x) = some (some (.ref (oa (2 + (f + z) % 7))), kW M K (up d 1 (nI z)) v x) := by
  refine qRun_of ?_ rfl
  rw [en_40]
  have h1 : (nI (z + 1) ≤ 0) = False := eq_false (by rw [show (0 : Int32) = nI 0 from rfl, nI_le_iff (by omega) (by omega)]; omega)
  have h2 : (nI (z + 1) - 1 : Int32) = nI z := by rw [← nI_1]; exact Int32.add_sub_cancel _ _
  have a41 := @s_41 M K (up d 1 (nI z)) v x f z ((up_n (by omega)).trans hf) up_at f7 (by omega)
  simp only [x_40_0, x_40_1, x_40_4, x_40_7, x_40_8, x_40_9, x_40_12, x_40_13, x_40_14, x_40_17, x_40_18, x_40_21N, x_40_21, Option.bind_some, Option.bind_none, Option.toList_some, Option.toList_none, List.cons_append, List.nil_append, pNl_i, pNl_r, pNl_u, pNl_n, bI_0, bI_1, nn_or, or_nn, not_false_eq_true, not_true_eq_false, i1000, i1e0, true_or, or_true, Decidable.not_not, if_true, if_false, Bool.false_eq_true, Int32.zero_add, true_and, and_true, kT119, kh_2, kp_2, hz, h1, h2, a41]
theorem s_83_0 (hz : d 1 = 0) : qRun 83 [.ref 4] (kW M K d v x) = some (some (.int (-5)), kW M K d v x) := by
  refine qRun_of ?_ rfl
  rw [en_83]
  simp only [x_83_0, x_83_1, x_83_4, x_83_7, x_83_10, x_83_12, x_83_13, x_83_14, x_83_17, x_83_18, x_83_21, x_83_24, x_83_27, x_83_28, x_83_31, x_83_34, Option.bind_some, Option.bind_none, Option.toList_some, Option.toList_none, List.cons_append, List.nil_append, pNl_i, pNl_r, pNl_u, pNl_n, bI_0, bI_1, nn_or, or_nn, not_false_eq_true, not_true_eq_false, i1000, i1e0, true_or, or_true, Decidable.not_not, if_true, if_false, Bool.false_eq_true, Int32.zero_add, true_and, and_true, k4_4, kh_2, hz]
theorem s_83 (hf : d 0 = nI f) (hz : d 1 = nI (z + 1)) (f7 : f < 7) (z6 : z < 6) (hn : K (2 + (f + z) % 7) 0 1 = nI n) (h40 : n ≤ 40) : qRun 83 [.ref 4] (kW M K d v x) = some (some (.int (nI z)), kW M (us K 0 (tvF (K 0) (K (2 + (f + z) % 7)) n)) (up d 1 (nI z)) v x) := by
  refine qRun_of ?_ rfl
  rw [en_83]
  have h0 : (nI (z + 1) = 0) = False := by rw [show (0 : Int32) = nI 0 from rfl, nI_eq_iff (by omega) (by omega)]; simp
  have a11 := kW_run (i := 0) (by omega) (@s_11 (kW M K (up d 1 (nI z)) v x) (oa 0) (oa (2 + (f + z) % 7)) (K 0) (K (2 + (f + z) % 7)) (kW_src (by omega) (by omega) (by omega)) n hn h40)
  rw [show oa 0 = 5 from rfl] at a11
  have e : up d 1 (nI z) 1 = nI z := up_at
  simp only [x_83_0, x_83_1, x_83_4, x_83_7, x_83_10, x_83_12, x_83_13, x_83_14, x_83_17, x_83_18, x_83_21, x_83_24, x_83_27, x_83_28, x_83_31, x_83_34, Option.bind_some, Option.bind_none, Option.toList_some, Option.toList_none, List.cons_append, List.nil_append, pNl_i, pNl_r, pNl_u, pNl_n, bI_0, bI_1, nn_or, or_nn, not_false_eq_true, not_true_eq_false, i1000, i1e0, true_or, or_true, Decidable.not_not, if_true, if_false, Bool.false_eq_true, Int32.zero_add, true_and, and_true, kT4, k4_0, k4_4, kT119, kT0, kh_2, hz, h0, s_40 hf hz f7 z6, a11, e]
theorem lt2 {y : Int32} : (y < 2) = (y ≤ 1) := lt_le (n := 1) (by omega)
theorem kC_v {v' : Nat → Int32} {q : Nat} (h1 : q ≠ 118) : kC K d v' x q = kC K d v x q := by
  unfold kC
  simp only [h1, if_false]
theorem kv_l {k : Nat} (hk : k < 2) : hL (kW M K d v x) 9 118 (nI k) = some (.int (v k)) := by
  have hc : (nI k).toNatClampNeg = k := nI_clamp (by omega)
  unfold hL
  rw [k_118]
  simp only [Option.bind_some]
  rw [if_pos ⟨trivial, nI_pos (by omega)⟩, hc]
  exact ia_at hk
theorem kv_s {k : Nat} {w : Int32} (hk : k < 2) : hS (kW M K d v x) 9 118 (nI k) (.int w) = some (kW M K d (up v k w) x) := by
  have hc : (nI k).toNatClampNeg = k := nI_clamp (by omega)
  rw [hS_of k_118 (nI_pos (by omega)) (by rw [hc, ia_len]; exact hk), hc, ia_set]
  exact congrArg some (kW_up (by omega) rfl fun q _ hn => kC_v hn)
theorem s_84_0 {y : Int32} (h : ¬ (0 ≤ y ∧ y ≤ 1)) : qRun 84 [.ref 4, .int y] (kW M K d v x) = some (some (.int (-2)), kW M K d v x) := by
  refine qRun_of ?_ rfl
  rw [en_84]
  by_cases c1 : y < 0
  · simp only [x_84_0, x_84_1, x_84_4, x_84_5, x_84_6, x_84_9, x_84_11, x_84_12, x_84_13, x_84_16, x_84_17, x_84_18, x_84_19, x_84_22, x_84_25, x_84_26, x_84_29, x_84_30, x_84_31, x_84_32, x_84_33, x_84_36, x_84_39, Option.bind_some, Option.bind_none, Option.toList_some, Option.toList_none, List.cons_append, List.nil_append, pNl_i, pNl_r, pNl_u, pNl_n, bI_0, bI_1, nn_or, or_nn, not_false_eq_true, not_true_eq_false, i1000, i1e0, true_or, or_true, Decidable.not_not, if_true, if_false, Bool.false_eq_true, Int32.zero_add, true_and, and_true, c1]
  · have c2 : (y ≤ 1) = False := eq_false fun q => h ⟨Int32.not_lt.mp c1, q⟩
    simp only [x_84_0, x_84_1, x_84_4, x_84_5, x_84_6, x_84_9, x_84_11, x_84_12, x_84_13, x_84_16, x_84_17, x_84_18, x_84_19, x_84_22, x_84_25, x_84_26, x_84_29, x_84_30, x_84_31, x_84_32, x_84_33, x_84_36, x_84_39, Option.bind_some, Option.bind_none, Option.toList_some, Option.toList_none, List.cons_append, List.nil_append, pNl_i, pNl_r, pNl_u, pNl_n, bI_0, bI_1, nn_or, or_nn, not_false_eq_true, not_true_eq_false, i1000, i1e0, true_or, or_true, Decidable.not_not, if_true, if_false, Bool.false_eq_true, Int32.zero_add, true_and, and_true, c1, lt2, c2]
theorem s_84 {k : Nat} (hk : k < 2) (hn : K 0 0 1 = nI n) (h40 : n ≤ 40) : qRun 84 [.ref 4, .int (nI k)] (kW M K d v x) = some (some (.int (K 0 0 1)), kW M (us K (9 + k) (tvF (K (9 + k)) (K 0) n)) d (up v k 1) x) := by
  refine qRun_of ?_ rfl
  rw [en_84]
  have c1 : (nI k < 0) = False := eq_false (nI_pos (by omega))
  have c2 : (nI k < 2) = True := eq_true (by rw [show (2 : Int32) = nI 2 from rfl, nI_lt_iff (by omega) (by omega)]; omega)
  have a11 := kW_run (i := 9 + k) (by omega) (@s_11 (kW M K d v x) (oa (9 + k)) (oa 0) (K (9 + k)) (K 0) (kW_src (by omega) (by omega) (by omega)) n hn h40)
  rw [show oa 0 = 5 from rfl] at a11
  have e : us K (9 + k) (tvF (K (9 + k)) (K 0) n) 0 = K 0 := us_ne (by omega)
  simp only [x_84_0, x_84_1, x_84_4, x_84_5, x_84_6, x_84_9, x_84_11, x_84_12, x_84_13, x_84_16, x_84_17, x_84_18, x_84_19, x_84_22, x_84_25, x_84_26, x_84_29, x_84_30, x_84_31, x_84_32, x_84_33, x_84_36, x_84_39, Option.bind_some, Option.bind_none, Option.toList_some, Option.toList_none, List.cons_append, List.nil_append, pNl_i, pNl_r, pNl_u, pNl_n, bI_0, bI_1, nn_or, or_nn, not_false_eq_true, not_true_eq_false, i1000, i1e0, true_or, or_true, Decidable.not_not, if_true, if_false, Bool.false_eq_true, Int32.zero_add, true_and, and_true, k4_0, k4_2, k4_3, c1, c2, kA_sl hk, kT (show 9 + k < 11 by omega), a11, kv_s hk, kc_5, e]
theorem s_85_0 {y : Int32} (h : ¬ (0 ≤ y ∧ y ≤ 1)) : qRun 85 [.ref 4, .int y] (kW M K d v x) = some (some (.int (-2)), kW M K d v x) := by
  refine qRun_of ?_ rfl
  rw [en_85]
  by_cases c1 : y < 0
  · simp only [x_85_0, x_85_1, x_85_4, x_85_5, x_85_6, x_85_9, x_85_11, x_85_12, x_85_13, x_85_16, x_85_17, x_85_18, x_85_21, x_85_23, x_85_24, x_85_25, x_85_28, x_85_29, x_85_32, x_85_35, x_85_36, x_85_39, x_85_42, x_85_43, x_85_46, x_85_47, x_85_50, x_85_51, x_85_52, x_85_55, x_85_56, x_85_59, x_85_62, Option.bind_some, Option.bind_none, Option.toList_some, Option.toList_none, List.cons_append, List.nil_append, pNl_i, pNl_r, pNl_u, pNl_n, bI_0, bI_1, nn_or, or_nn, not_false_eq_true, not_true_eq_false, i1000, i1e0, true_or, or_true, Decidable.not_not, if_true, if_false, Bool.false_eq_true, Int32.zero_add, true_and, and_true, c1]
  · have c2 : (y ≤ 1) = False := eq_false fun q => h ⟨Int32.not_lt.mp c1, q⟩
    simp only [x_85_0, x_85_1, x_85_4, x_85_5, x_85_6, x_85_9, x_85_11, x_85_12, x_85_13, x_85_16, x_85_17, x_85_18, x_85_21, x_85_23, x_85_24, x_85_25, x_85_28, x_85_29, x_85_32, x_85_35, x_85_36, x_85_39, x_85_42, x_85_43, x_85_46, x_85_47, x_85_50, x_85_51, x_85_52, x_85_55, x_85_56, x_85_59, x_85_62, Option.bind_some, Option.bind_none, Option.toList_some, Option.toList_none, List.cons_append, List.nil_append, pNl_i, pNl_r, pNl_u, pNl_n, bI_0, bI_1, nn_or, or_nn, not_false_eq_true, not_true_eq_false, i1000, i1e0, true_or, or_true, Decidable.not_not, if_true, if_false, Bool.false_eq_true, Int32.zero_add, true_and, and_true, c1, lt2, c2]
theorem s_85_1 {k : Nat} (hk : k < 2) (h : v k = 0) : qRun 85 [.ref 4, .int (nI k)] (kW M K d v x) = some (some (.int (-5)), kW M K d v x) := by
  refine qRun_of ?_ rfl
  rw [en_85]
  have c1 : (nI k < 0) = False := eq_false (nI_pos (by omega))
  have c2 : (nI k < 2) = True := eq_true (by rw [show (2 : Int32) = nI 2 from rfl, nI_lt_iff (by omega) (by omega)]; omega)
  simp only [x_85_0, x_85_1, x_85_4, x_85_5, x_85_6, x_85_9, x_85_11, x_85_12, x_85_13, x_85_16, x_85_17, x_85_18, x_85_21, x_85_23, x_85_24, x_85_25, x_85_28, x_85_29, x_85_32, x_85_35, x_85_36, x_85_39, x_85_42, x_85_43, x_85_46, x_85_47, x_85_50, x_85_51, x_85_52, x_85_55, x_85_56, x_85_59, x_85_62, Option.bind_some, Option.bind_none, Option.toList_some, Option.toList_none, List.cons_append, List.nil_append, pNl_i, pNl_r, pNl_u, pNl_n, bI_0, bI_1, nn_or, or_nn, not_false_eq_true, not_true_eq_false, i1000, i1e0, true_or, or_true, Decidable.not_not, if_true, if_false, Bool.false_eq_true, Int32.zero_add, true_and, and_true, k4_3, c1, c2, kv_l hk, h]
theorem s_85 {k n2 : Nat} (H : hsOK M K d f z n) (hk : k < 2) (h : v k = 1) (hn2 : K (9 + k) 0 1 = nI n2) (h402 : n2 ≤ 40) : qRun 85 [.ref 4, .int (nI k)] (kW M K d v x) = some (some (.int (nI n2)), kW M (us (ntK K f z n) 0 (tvF (K 0) (K (9 + k)) n2)) (kpD d f z) v x) := by
  obtain ⟨hs, hf, hz, f7, z6, hn, h40⟩ := H
  refine qRun_of ?_ rfl
  rw [en_85]
  have c1 : (nI k < 0) = False := eq_false (nI_pos (by omega))
  have c2 : (nI k < 2) = True := eq_true (by rw [show (2 : Int32) = nI 2 from rfl, nI_lt_iff (by omega) (by omega)]; omega)
  have e9 : ntK K f z n (9 + k) = K (9 + k) := us_ne (by omega)
  have a11 := kW_run (i := 0) (by omega) (@s_11 (kW M (ntK K f z n) (kpD d f z) v x) (oa 0) (oa (9 + k)) (ntK K f z n 0) (ntK K f z n (9 + k)) (kW_src (by omega) (by omega) (by omega)) n2 (by rw [e9]; exact hn2) h402)
  rw [show oa 0 = 5 from rfl, nt_0, e9] at a11
  have e : us (ntK K f z n) 0 (tvF (K 0) (K (9 + k)) n2) 0 0 1 = nI n2 := by
    rw [us_s]; unfold tvF; rw [if_neg (by omega)]; exact hn2
  simp only [x_85_0, x_85_1, x_85_4, x_85_5, x_85_6, x_85_9, x_85_11, x_85_12, x_85_13, x_85_16, x_85_17, x_85_18, x_85_21, x_85_23, x_85_24, x_85_25, x_85_28, x_85_29, x_85_32, x_85_35, x_85_36, x_85_39, x_85_42, x_85_43, x_85_46, x_85_47, x_85_50, x_85_51, x_85_52, x_85_55, x_85_56, x_85_59, x_85_62, Option.bind_some, Option.bind_none, Option.toList_some, Option.toList_none, List.cons_append, List.nil_append, pNl_i, pNl_r, pNl_u, pNl_n, bI_0, bI_1, nn_or, or_nn, not_false_eq_true, not_true_eq_false, i1000, i1e0, true_or, or_true, Decidable.not_not, if_true, if_false, Bool.false_eq_true, Int32.zero_add, true_and, and_true, kT4, k4_0, k4_2, k4_3, k4_4, kT119, kT0, c1, c2, kv_l hk, h, s_38 hf hz f7 z6 hn h40, s_39 hf hz f7 z6, kA_sl hk, a11, kc_5, e]
/-- the trial's centre, once it has taken over -/
def trF (K : Nat → Sg) (n : Nat) : Sg := tvF (K 1) (K 0) n
theorem tr_over (hn : K 0 0 1 = nI n) (h40 : n ≤ 40) : qRun 11 [.ref 61, .ref 5] (kW M K d v x) = some (none, kW M (us K 1 (trF K n)) d v x) := kW_run (i := 1) (by omega) (@s_11 (kW M K d v x) (oa 1) (oa 0) (K 1) (K 0) (kW_src (by omega) (by omega) (by omega)) n hn h40)
theorem s_75 {N : Nat} (hn0 : K 0 0 1 = nI n) (h40 : n ≤ 40) (hn : ∀ k, k ≤ N → pmN (trF K n) k 0 1 = nI n) (h1 : ∀ k, k < N → pmOK n (pmN (trF K n) k) ∧ ¬ 1440 ≤ pmN (trF K n) k 0 0 ∧ alB (pmN (trF K n) k) n = false) (hN : N ≤ 1440) (h2 : N = 1440 ∨ 1440 ≤ pmN (trF K n) N 0 0 ∨ alB (pmN (trF K n) N) n = true) : qRun 75 [.ref 4] (kW M K d v x) = some (some (.int (if alB (pmN (trF K n) N) n = true then pmN (trF K n) N 0 0 else -6)), kW M (us K 1 (pmN (trF K n) N)) d v x) := by
  refine qRun_of ?_ rfl
  rw [en_75]
  have a23 := kW_run (i := 1) (by omega) (@s_23 (kW M (us K 1 (trF K n)) d v x) (oa 1) (us K 1 (trF K n) 1) n N h40 (by rw [us_s]; exact hn) (by rw [us_s]; exact h1) hN (by rw [us_s]; exact h2))
  rw [us_s, us_us, show oa 1 = 61 from rfl] at a23
  simp only [x_75_0, x_75_1, x_75_4, x_75_5, x_75_8, x_75_11, x_75_12, x_75_15, x_75_18, Option.bind_some, Option.bind_none, Option.toList_some, Option.toList_none, List.cons_append, List.nil_append, pNl_i, pNl_r, pNl_u, pNl_n, bI_0, bI_1, nn_or, or_nn, not_false_eq_true, not_true_eq_false, i1000, i1e0, true_or, or_true, Decidable.not_not, if_true, if_false, Bool.false_eq_true, Int32.zero_add, true_and, and_true, k4_0, k4_1, kT1, tr_over hn0 h40, a23]
theorem s_76 (hn0 : K 0 0 1 = nI n) (h40 : n ≤ 40) (h : meOK n 39960 1440 (trF K n)) : qRun 76 [.ref 4] (kW M K d v x) = some (some (.int (smF (meF n 39960 1440 (trF K n)) 8 (-6) n)), kW M (us K 1 (meF n 39960 1440 (trF K n))) d v x) := by
  refine qRun_of ?_ rfl
  rw [en_76]
  have a24 := kW_run (i := 1) (by omega) (@s_24 (kW M (us K 1 (trF K n)) d v x) (oa 1) (us K 1 (trF K n) 1) n 39960 h40 (by rw [us_s]; exact h))
  rw [us_s, us_us, show oa 1 = 61 from rfl] at a24
  simp only [x_76_0, x_76_1, x_76_4, x_76_5, x_76_8, x_76_11, x_76_12, x_76_15, x_76_17, x_76_20, Option.bind_some, Option.bind_none, Option.toList_some, Option.toList_none, List.cons_append, List.nil_append, pNl_i, pNl_r, pNl_u, pNl_n, bI_0, bI_1, nn_or, or_nn, not_false_eq_true, not_true_eq_false, i1000, i1e0, true_or, or_true, Decidable.not_not, if_true, if_false, Bool.false_eq_true, Int32.zero_add, true_and, and_true, k4_0, k4_1, kT1, tr_over hn0 h40, a24]
theorem s_77_0 {i p : Int32} (h : ¬ leOK i p) : qRun 77 [.ref 4, .int i, .int p] (kW M K d v x) = some (some (.int (-2)), kW M K d v x) := by
  refine qRun_of ?_ rfl
  rw [en_77]
  unfold leOK at h
  have lt6 : (i < 6) = ¬ 6 ≤ i := propext Int32.not_le.symm
  have gt8 : (8 < i) = ¬ i ≤ 8 := propext Int32.not_le.symm
  by_cases h1 : i = 2
  · have h2 : ¬ 0 ≤ p := fun q => h ⟨Or.inl h1, q⟩
    simp only [x_77_0, x_77_1, x_77_2, x_77_5, x_77_6, x_77_8, x_77_11, x_77_12, x_77_14, x_77_17, x_77_18, x_77_21, x_77_22, x_77_23, x_77_24, x_77_27, x_77_28, x_77_31, x_77_33, x_77_34, x_77_37, x_77_38, x_77_39, x_77_41, x_77_43, x_77_46, x_77_47, x_77_48, x_77_51, x_77_52, x_77_55, x_77_56, x_77_59, x_77_62, x_77_63, x_77_66, x_77_69, x_77_70, x_77_72, x_77_73, x_77_74, x_77_77, x_77_78, x_77_81, x_77_82, x_77_85, x_77_87, x_77_88, x_77_91, x_77_94, x_77_96, Option.bind_some, Option.bind_none, Option.toList_some, Option.toList_none, List.cons_append, List.nil_append, pNl_i, pNl_r, pNl_u, pNl_n, bI_0, bI_1, nn_or, or_nn, not_false_eq_true, not_true_eq_false, i1000, i1e0, true_or, or_true, Decidable.not_not, if_true, if_false, Bool.false_eq_true, Int32.zero_add, true_and, and_true, h1, h2]
  · by_cases h3 : 6 ≤ i
    · by_cases h4 : i ≤ 8
      · have h2 : ¬ 0 ≤ p := fun q => h ⟨Or.inr ⟨h3, h4⟩, q⟩
        simp only [x_77_0, x_77_1, x_77_2, x_77_5, x_77_6, x_77_8, x_77_11, x_77_12, x_77_14, x_77_17, x_77_18, x_77_21, x_77_22, x_77_23, x_77_24, x_77_27, x_77_28, x_77_31, x_77_33, x_77_34, x_77_37, x_77_38, x_77_39, x_77_41, x_77_43, x_77_46, x_77_47, x_77_48, x_77_51, x_77_52, x_77_55, x_77_56, x_77_59, x_77_62, x_77_63, x_77_66, x_77_69, x_77_70, x_77_72, x_77_73, x_77_74, x_77_77, x_77_78, x_77_81, x_77_82, x_77_85, x_77_87, x_77_88, x_77_91, x_77_94, x_77_96, Option.bind_some, Option.bind_none, Option.toList_some, Option.toList_none, List.cons_append, List.nil_append, pNl_i, pNl_r, pNl_u, pNl_n, bI_0, bI_1, nn_or, or_nn, not_false_eq_true, not_true_eq_false, i1000, i1e0, true_or, or_true, Decidable.not_not, if_true, if_false, Bool.false_eq_true, Int32.zero_add, true_and, and_true, h1, lt6, gt8, h3, h4, h2]
      · simp only [x_77_0, x_77_1, x_77_2, x_77_5, x_77_6, x_77_8, x_77_11, x_77_12, x_77_14, x_77_17, x_77_18, x_77_21, x_77_22, x_77_23, x_77_24, x_77_27, x_77_28, x_77_31, x_77_33, x_77_34, x_77_37, x_77_38, x_77_39, x_77_41, x_77_43, x_77_46, x_77_47, x_77_48, x_77_51, x_77_52, x_77_55, x_77_56, x_77_59, x_77_62, x_77_63, x_77_66, x_77_69, x_77_70, x_77_72, x_77_73, x_77_74, x_77_77, x_77_78, x_77_81, x_77_82, x_77_85, x_77_87, x_77_88, x_77_91, x_77_94, x_77_96, Option.bind_some, Option.bind_none, Option.toList_some, Option.toList_none, List.cons_append, List.nil_append, pNl_i, pNl_r, pNl_u, pNl_n, bI_0, bI_1, nn_or, or_nn, not_false_eq_true, not_true_eq_false, i1000, i1e0, true_or, or_true, Decidable.not_not, if_true, if_false, Bool.false_eq_true, Int32.zero_add, true_and, and_true, h1, lt6, gt8, h3, h4]
    · simp only [x_77_0, x_77_1, x_77_2, x_77_5, x_77_6, x_77_8, x_77_11, x_77_12, x_77_14, x_77_17, x_77_18, x_77_21, x_77_22, x_77_23, x_77_24, x_77_27, x_77_28, x_77_31, x_77_33, x_77_34, x_77_37, x_77_38, x_77_39, x_77_41, x_77_43, x_77_46, x_77_47, x_77_48, x_77_51, x_77_52, x_77_55, x_77_56, x_77_59, x_77_62, x_77_63, x_77_66, x_77_69, x_77_70, x_77_72, x_77_73, x_77_74, x_77_77, x_77_78, x_77_81, x_77_82, x_77_85, x_77_87, x_77_88, x_77_91, x_77_94, x_77_96, Option.bind_some, Option.bind_none, Option.toList_some, Option.toList_none, List.cons_append, List.nil_append, pNl_i, pNl_r, pNl_u, pNl_n, bI_0, bI_1, nn_or, or_nn, not_false_eq_true, not_true_eq_false, i1000, i1e0, true_or, or_true, Decidable.not_not, if_true, if_false, Bool.false_eq_true, Int32.zero_add, true_and, and_true, h1, lt6, gt8, h3]
theorem lo_kW {i : Nat} (hs : stOK M) (hi : i < 9) : hLI (kW M K d v x) 2 (nI i) = some (.int (loV i)) := by
  refine hLI_of (t := 14) ?_ (Or.inr rfl) (nI_pos (by omega)) (by rw [nI_clamp (by omega)]; exact lo_at hi)
  rw [kW_out (by omega)]; exact hs.2.1
theorem hi_kW {i : Nat} (hs : stOK M) (hi : i < 9) : hLI (kW M K d v x) 3 (nI i) = some (.int (hiV i)) := by
  refine hLI_of (t := 14) ?_ (Or.inr rfl) (nI_pos (by omega)) (by rw [nI_clamp (by omega)]; exact hi_at hi)
  rw [kW_out (by omega)]; exact hs.2.2
theorem kt_0 : hG (kW M K d v x) 61 1 0 = some (.ref 62) := (congrArg (fun q => hG q 61 1 0) (kW_cB' (i := 1) (by omega))).trans cg_0
theorem kt_s {i : Nat} {w : Int32} (hi : i < 9) : hS (kW M K d v x) 8 62 (nI i) (.int w) = some (kW M (us K 1 (u2 (K 1) 1 i w)) d v x) := (congrArg (fun q => hS q 8 62 (nI i) (.int w)) (kW_cB' (i := 1) (by omega))).trans ((ts hi).trans (congrArg some (kW_cB (i := 1) (by omega))))
theorem s_77 {i : Nat} {p : Int32} {sR : Sg} (hs : stOK M) (hi : i = 2 ∨ i = 6 ∨ i = 7 ∨ i = 8) (hp : 0 ≤ p) (hn0 : K 0 0 1 = nI n) (h40 : n ≤ 40)
    (hG : ∀ w T, isF (nI i) (nI w) = true → (∀ g k, g < 11 + n → T g k = K 0 g k) → meOK n p 1440 (u2 T 1 i (nI w)) ∧ (smF (meF n p 1440 (u2 T 1 i (nI w))) 8 (-6) n ≤ p ↔ msV sR i (nI w) ≤ p)) : ∃ s1, qRun 77 [.ref 4, .int (nI i), .int p] (kW M K d v x) = some (some (.int (leF sR i p 102 (if i = 2 then 0 else 1))), kW M (us K 1 s1) d v x) := by
  have hi9 : i < 9 := by omega
  have low : ∀ w, w ≤ 102 → (if i = 2 then 0 else 1) ≤ w → (isF (nI i) (nI w) = true) = (nI w ≤ hiV i) := by
    intro w hw hlo
    rw [isF_at hi9]
    refine propext ⟨fun q => q.2, fun q => ⟨?_, q⟩⟩
    rcases hi with rfl | rfl | rfl | rfl
    · show (0 : Int32) ≤ nI w
      exact Int32.not_lt.mp (nI_pos (by omega))
    all_goals
      show (1 : Int32) ≤ nI w
      rw [show (1 : Int32) = nI 1 from rfl, nI_le_iff (by omega) (by omega)]
      exact hlo
  have gth : ∀ w : Nat, (hiV i < nI w) = ¬ nI w ≤ hiV i := fun w => propext Int32.not_le.symm
  have loop : ∀ (k w : Nat) (s0 : Sg), 102 ≤ w + k → w ≤ 102 → (if i = 2 then 0 else 1) ≤ w → ∃ s1, qEx 77 (41, [some (.ref 4), some (.int (nI i)), some (.int p), some (.int 1), some (.int (nI w))], [], kW M (us K 1 s0) d v x) = some (some (.int (leF sR i p k w)), kW M (us K 1 s1) d v x) := by
    intro k
    induction k with
    | zero =>
      intro w s0 hw hw2 hlo
      have hin : w = 102 := by omega
      have hno : (nI w ≤ hiV i) = False := by
        rw [← low w (by omega) hlo]; subst hin
        exact eq_false (by rcases hi with rfl | rfl | rfl | rfl <;> decide)
      refine ⟨s0, ?_⟩
      rw [x_77_41]
      simp only [x_77_0, x_77_1, x_77_2, x_77_5, x_77_6, x_77_8, x_77_11, x_77_12, x_77_14, x_77_17, x_77_18, x_77_21, x_77_22, x_77_23, x_77_24, x_77_27, x_77_28, x_77_31, x_77_33, x_77_34, x_77_37, x_77_38, x_77_39, x_77_43, x_77_46, x_77_47, x_77_48, x_77_51, x_77_52, x_77_55, x_77_56, x_77_59, x_77_62, x_77_63, x_77_66, x_77_69, x_77_70, x_77_72, x_77_73, x_77_74, x_77_77, x_77_78, x_77_81, x_77_82, x_77_85, x_77_87, x_77_88, x_77_91, x_77_94, x_77_96, Option.bind_some, Option.bind_none, Option.toList_some, Option.toList_none, List.cons_append, List.nil_append, pNl_i, pNl_r, pNl_u, pNl_n, bI_0, bI_1, nn_or, or_nn, not_false_eq_true, not_true_eq_false, i1000, i1e0, true_or, or_true, Decidable.not_not, if_true, if_false, Bool.false_eq_true, Int32.zero_add, true_and, and_true, hi_kW hs hi9, gth, hno]
      rfl
    | succ k ih =>
      intro w s0 hw hw2 hlo
      rw [show leF sR i p (k + 1) w = if isF (nI i) (nI w) = true then (if msV sR i (nI w) ≤ p then nI w else leF sR i p k (w + 1)) else -6 from rfl]
      have hlow := low w hw2 hlo
      by_cases c1 : isF (nI i) (nI w) = true
      · have c1' : (nI w ≤ hiV i) = True := by rw [← hlow]; exact eq_true c1
        have hT : ∀ g k, g < 11 + n → trF (us K 1 s0) n g k = K 0 g k := by
          intro g k hg
          unfold trF tvF
          rw [if_neg (by omega), us_ne (by omega)]
        obtain ⟨m1, m2⟩ := hG w (trF (us K 1 s0) n) c1 hT
        have e0 : us K 1 s0 0 = K 0 := us_ne (by omega)
        have ao := @tr_over M (us K 1 s0) d v x n (by rw [e0]; exact hn0) h40
        rw [us_us] at ao
        have as := @kt_s M (us K 1 (trF (us K 1 s0) n)) d v x i (nI w) hi9
        rw [us_s, us_us] at as
        generalize trF (us K 1 s0) n = T at *
        have a24 := kW_run (i := 1) (by omega) (@s_24 (kW M (us K 1 (u2 T 1 i (nI w))) d v x) (oa 1) (us K 1 (u2 T 1 i (nI w)) 1) n p h40 (by rw [us_s]; exact m1))
        rw [us_s, us_us, show oa 1 = 61 from rfl] at a24
        rw [if_pos c1]
        by_cases c2 : smF (meF n p 1440 (u2 T 1 i (nI w))) 8 (-6) n ≤ p
        · have c3 : (p < smF (meF n p 1440 (u2 T 1 i (nI w))) 8 (-6) n) = False := eq_false (Int32.not_lt.mpr c2)
          rw [if_pos (m2.mp c2)]
          refine ⟨meF n p 1440 (u2 T 1 i (nI w)), ?_⟩
          rw [x_77_41]
          simp only [x_77_0, x_77_1, x_77_2, x_77_5, x_77_6, x_77_8, x_77_11, x_77_12, x_77_14, x_77_17, x_77_18, x_77_21, x_77_22, x_77_23, x_77_24, x_77_27, x_77_28, x_77_31, x_77_33, x_77_34, x_77_37, x_77_38, x_77_39, x_77_43, x_77_46, x_77_47, x_77_48, x_77_51, x_77_52, x_77_55, x_77_56, x_77_59, x_77_62, x_77_63, x_77_66, x_77_69, x_77_70, x_77_72, x_77_73, x_77_74, x_77_77, x_77_78, x_77_81, x_77_82, x_77_85, x_77_87, x_77_88, x_77_91, x_77_94, x_77_96, Option.bind_some, Option.bind_none, Option.toList_some, Option.toList_none, List.cons_append, List.nil_append, pNl_i, pNl_r, pNl_u, pNl_n, bI_0, bI_1, nn_or, or_nn, not_false_eq_true, not_true_eq_false, i1000, i1e0, true_or, or_true, Decidable.not_not, if_true, if_false, Bool.false_eq_true, Int32.zero_add, true_and, and_true, hi_kW hs hi9, gth, c1', k4_0, k4_1, kT1, ao, kt_0, as, a24, c3]
        · have c3 : (p < smF (meF n p 1440 (u2 T 1 i (nI w))) 8 (-6) n) = True := eq_true (Int32.not_le.mp c2)
          rw [if_neg (fun q => c2 (m2.mpr q))]
          have hw3 : w + 1 ≤ 102 := by
            rcases Nat.lt_or_ge w 102 with q | q
            · omega
            · have hin : w = 102 := by omega
              subst hin
              exact absurd c1 (by rcases hi with rfl | rfl | rfl | rfl <;> decide)
          obtain ⟨s3, h3⟩ := ih (w + 1) (meF n p 1440 (u2 T 1 i (nI w))) (by omega) hw3 (by omega)
          refine ⟨s3, ?_⟩
          rw [x_77_41]
          simp only [x_77_0, x_77_1, x_77_2, x_77_5, x_77_6, x_77_8, x_77_11, x_77_12, x_77_14, x_77_17, x_77_18, x_77_21, x_77_22, x_77_23, x_77_24, x_77_27, x_77_28, x_77_31, x_77_33, x_77_34, x_77_37, x_77_38, x_77_39, x_77_43, x_77_46, x_77_47, x_77_48, x_77_51, x_77_52, x_77_55, x_77_56, x_77_59, x_77_62, x_77_63, x_77_66, x_77_69, x_77_70, x_77_72, x_77_73, x_77_74, x_77_77, x_77_78, x_77_81, x_77_82, x_77_85, x_77_87, x_77_88, x_77_91, x_77_94, x_77_96, Option.bind_some, Option.bind_none, Option.toList_some, Option.toList_none, List.cons_append, List.nil_append, pNl_i, pNl_r, pNl_u, pNl_n, bI_0, bI_1, nn_or, or_nn, not_false_eq_true, not_true_eq_false, i1000, i1e0, true_or, or_true, Decidable.not_not, if_true, if_false, Bool.false_eq_true, Int32.zero_add, true_and, and_true, hi_kW hs hi9, gth, c1', k4_0, k4_1, kT1, ao, kt_0, as, a24, c3, nI_1]
          exact h3
      · have c1' : (nI w ≤ hiV i) = False := by rw [← hlow]; exact eq_false c1
        rw [if_neg c1]
        refine ⟨s0, ?_⟩
        rw [x_77_41]
        simp only [x_77_0, x_77_1, x_77_2, x_77_5, x_77_6, x_77_8, x_77_11, x_77_12, x_77_14, x_77_17, x_77_18, x_77_21, x_77_22, x_77_23, x_77_24, x_77_27, x_77_28, x_77_31, x_77_33, x_77_34, x_77_37, x_77_38, x_77_39, x_77_43, x_77_46, x_77_47, x_77_48, x_77_51, x_77_52, x_77_55, x_77_56, x_77_59, x_77_62, x_77_63, x_77_66, x_77_69, x_77_70, x_77_72, x_77_73, x_77_74, x_77_77, x_77_78, x_77_81, x_77_82, x_77_85, x_77_87, x_77_88, x_77_91, x_77_94, x_77_96, Option.bind_some, Option.bind_none, Option.toList_some, Option.toList_none, List.cons_append, List.nil_append, pNl_i, pNl_r, pNl_u, pNl_n, bI_0, bI_1, nn_or, or_nn, not_false_eq_true, not_true_eq_false, i1000, i1e0, true_or, or_true, Decidable.not_not, if_true, if_false, Bool.false_eq_true, Int32.zero_add, true_and, and_true, hi_kW hs hi9, gth, c1']
  obtain ⟨s1, h1⟩ := loop 102 (if i = 2 then 0 else 1) (K 1) (by omega) (by split <;> omega) (Nat.le_refl _)
  refine ⟨s1, ?_⟩
  rw [us_id] at h1
  refine qRun_of ?_ rfl
  rw [en_77, ← h1]
  have l2 := fun K => @lo_kW M K d v x 2 hs (by omega)
  have l6 := fun K => @lo_kW M K d v x 6 hs (by omega)
  have l7 := fun K => @lo_kW M K d v x 7 hs (by omega)
  have l8 := fun K => @lo_kW M K d v x 8 hs (by omega)
  simp only [nl_2, nl_6, nl_7, nl_8] at l2 l6 l7 l8
  rcases hi with rfl | rfl | rfl | rfl
  all_goals simp (config := {decide := true}) only [x_77_0, x_77_1, x_77_2, x_77_5, x_77_6, x_77_8, x_77_11, x_77_12, x_77_14, x_77_17, x_77_18, x_77_21, x_77_22, x_77_23, x_77_24, x_77_27, x_77_28, x_77_31, x_77_33, x_77_34, x_77_37, x_77_38, x_77_39, x_77_43, x_77_46, x_77_47, x_77_48, x_77_51, x_77_52, x_77_55, x_77_56, x_77_59, x_77_62, x_77_63, x_77_66, x_77_69, x_77_70, x_77_72, x_77_73, x_77_74, x_77_77, x_77_78, x_77_81, x_77_82, x_77_85, x_77_87, x_77_88, x_77_91, x_77_94, x_77_96, Option.bind_some, Option.bind_none, Option.toList_some, Option.toList_none, List.cons_append, List.nil_append, pNl_i, pNl_r, pNl_u, pNl_n, bI_0, bI_1, nn_or, or_nn, not_false_eq_true, not_true_eq_false, i1000, i1e0, true_or, or_true, Decidable.not_not, if_true, if_false, Bool.false_eq_true, Int32.zero_add, true_and, and_true, nl_2, nl_6, nl_7, nl_8, hp, if_true, if_false, nl_0, nl_1, l2, l6, l7, l8, loV]
end KJ
