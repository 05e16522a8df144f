/-! the class: undo, save, restore, what if -/
section KJ
variable {M : qHp} {K : Nat → Sg} {d v x : Nat → Int32} {f z n : Nat}
theorem s_40 (hf : d 0 = nI f) (hz : d 1 = nI (z + 1)) (f7 : f < 7) (z6 : z < 6) : qRun 40 [.ref 119] (kW M K d v x) = some (some (.ref (oa (2 + (f + z) % 7))), kW M K (up d 1 (nI z)) v x) := by
  refine qRun_of ?_ rfl
  rw [en_40]
  have h1 : (nI (z + 1) ≤ 0) = False := eq_false (by rw [show (0 : Int32) = nI 0 from rfl, nI_le_iff (by omega) (by omega)]; omega)
  have h2 : (nI (z + 1) - 1 : Int32) = nI z := by rw [← nI_1]; exact Int32.add_sub_cancel _ _
  have a41 := @s_41 M K (up d 1 (nI z)) v x f z ((up_n (by omega)).trans hf) up_at f7 (by omega)
  simp only [x_40_0, x_40_1, x_40_4, x_40_7, x_40_8, x_40_9, x_40_12, x_40_13, x_40_14, x_40_17, x_40_18, x_40_21N, x_40_21, Option.bind_some, Option.bind_none, Option.toList_some, Option.toList_none, List.cons_append, List.nil_append, pNl_i, pNl_r, pNl_u, pNl_n, bI_0, bI_1, nn_or, or_nn, not_false_eq_true, not_true_eq_false, i1000, i1e0, true_or, or_true, Decidable.not_not, if_true, if_false, Bool.false_eq_true, Int32.zero_add, true_and, and_true, kT119, kh_2, kp_2, hz, h1, h2, a41]
theorem s_83_0 (hz : d 1 = 0) : qRun 83 [.ref 4] (kW M K d v x) = some (some (.int (-5)), kW M K d v x) := by
  refine qRun_of ?_ rfl
  rw [en_83]
  simp only [x_83_0, x_83_1, x_83_4, x_83_7, x_83_10, x_83_12, x_83_13, x_83_14, x_83_17, x_83_18, x_83_21, x_83_24, x_83_27, x_83_28, x_83_31, x_83_34, Option.bind_some, Option.bind_none, Option.toList_some, Option.toList_none, List.cons_append, List.nil_append, pNl_i, pNl_r, pNl_u, pNl_n, bI_0, bI_1, nn_or, or_nn, not_false_eq_true, not_true_eq_false, i1000, i1e0, true_or, or_true, Decidable.not_not, if_true, if_false, Bool.false_eq_true, Int32.zero_add, true_and, and_true, k4_4, kh_2, hz]
theorem s_83 (hf : d 0 = nI f) (hz : d 1 = nI (z + 1)) (f7 : f < 7) (z6 : z < 6) (hn : K (2 + (f + z) % 7) 0 1 = nI n) (h40 : n ≤ 40) : qRun 83 [.ref 4] (kW M K d v x) = some (some (.int (nI z)), kW M (us K 0 (tvF (K 0) (K (2 + (f + z) % 7)) n)) (up d 1 (nI z)) v x) := by
  refine qRun_of ?_ rfl
  rw [en_83]
  have h0 : (nI (z + 1) = 0) = False := by rw [show (0 : Int32) = nI 0 from rfl, nI_eq_iff (by omega) (by omega)]; simp
  have a11 := kW_run (i := 0) (by omega) (@s_11 (kW M K (up d 1 (nI z)) v x) (oa 0) (oa (2 + (f + z) % 7)) (K 0) (K (2 + (f + z) % 7)) (kW_src (by omega) (by omega) (by omega)) n hn h40)
  rw [show oa 0 = 5 from rfl] at a11
  have e : up d 1 (nI z) 1 = nI z := up_at
  simp only [x_83_0, x_83_1, x_83_4, x_83_7, x_83_10, x_83_12, x_83_13, x_83_14, x_83_17, x_83_18, x_83_21, x_83_24, x_83_27, x_83_28, x_83_31, x_83_34, Option.bind_some, Option.bind_none, Option.toList_some, Option.toList_none, List.cons_append, List.nil_append, pNl_i, pNl_r, pNl_u, pNl_n, bI_0, bI_1, nn_or, or_nn, not_false_eq_true, not_true_eq_false, i1000, i1e0, true_or, or_true, Decidable.not_not, if_true, if_false, Bool.false_eq_true, Int32.zero_add, true_and, and_true, kT4, k4_0, k4_4, kT119, kT0, kh_2, hz, h0, s_40 hf hz f7 z6, a11, e]
theorem lt2 {y : Int32} : (y < 2) = (y ≤ 1) := lt_le (n := 1) (by omega)
theorem kC_v {v' : Nat → Int32} {q : Nat} (h1 : q ≠ 118) : kC K d v' x q = kC K d v x q := by
  unfold kC
  simp only [h1, if_false]
theorem kv_l {k : Nat} (hk : k < 2) : hL (kW M K d v x) 9 118 (nI k) = some (.int (v k)) := by
  have hc : (nI k).toNatClampNeg = k := nI_clamp (by omega)
  unfold hL
  rw [k_118]
  simp only [Option.bind_some]
  rw [if_pos ⟨trivial, nI_pos (by omega)⟩, hc]
  exact ia_at hk
theorem kv_s {k : Nat} {w : Int32} (hk : k < 2) : hS (kW M K d v x) 9 118 (nI k) (.int w) = some (kW M K d (up v k w) x) := by
  have hc : (nI k).toNatClampNeg = k := nI_clamp (by omega)
  rw [hS_of k_118 (nI_pos (by omega)) (by rw [hc, ia_len]; exact hk), hc, ia_set]
  exact congrArg some (kW_up (by omega) rfl fun q _ hn => kC_v hn)
/-- the trial's centre, once it has taken over -/
def trF (K : Nat → Sg) (n : Nat) : Sg := tvF (K 1) (K 0) n
theorem tr_over (hn : K 0 0 1 = nI n) (h40 : n ≤ 40) : qRun 11 [.ref 61, .ref 5] (kW M K d v x) = some (none, kW M (us K 1 (trF K n)) d v x) := kW_run (i := 1) (by omega) (@s_11 (kW M K d v x) (oa 1) (oa 0) (K 1) (K 0) (kW_src (by omega) (by omega) (by omega)) n hn h40)
theorem s_75 {N : Nat} (hn0 : K 0 0 1 = nI n) (h40 : n ≤ 40) (hn : ∀ k, k ≤ N → pmN (trF K n) k 0 1 = nI n) (h1 : ∀ k, k < N → pmOK n (pmN (trF K n) k) ∧ ¬ 1440 ≤ pmN (trF K n) k 0 0 ∧ alB (pmN (trF K n) k) n = false) (hN : N ≤ 1440) (h2 : N = 1440 ∨ 1440 ≤ pmN (trF K n) N 0 0 ∨ alB (pmN (trF K n) N) n = true) : qRun 75 [.ref 4] (kW M K d v x) = some (some (.int (if alB (pmN (trF K n) N) n = true then pmN (trF K n) N 0 0 else -6)), kW M (us K 1 (pmN (trF K n) N)) d v x) := by
  refine qRun_of ?_ rfl
  rw [en_75]
  have a23 := kW_run (i := 1) (by omega) (@s_23 (kW M (us K 1 (trF K n)) d v x) (oa 1) (us K 1 (trF K n) 1) n N h40 (by rw [us_s]; exact hn) (by rw [us_s]; exact h1) hN (by rw [us_s]; exact h2))
  rw [us_s, us_us, show oa 1 = 61 from rfl] at a23
  simp only [x_75_0, x_75_1, x_75_4, x_75_5, x_75_8, x_75_11, x_75_12, x_75_15, x_75_18, Option.bind_some, Option.bind_none, Option.toList_some, Option.toList_none, List.cons_append, List.nil_append, pNl_i, pNl_r, pNl_u, pNl_n, bI_0, bI_1, nn_or, or_nn, not_false_eq_true, not_true_eq_false, i1000, i1e0, true_or, or_true, Decidable.not_not, if_true, if_false, Bool.false_eq_true, Int32.zero_add, true_and, and_true, k4_0, k4_1, kT1, tr_over hn0 h40, a23]
theorem s_76 (hn0 : K 0 0 1 = nI n) (h40 : n ≤ 40) (h : meOK n 39960 1440 (trF K n)) : qRun 76 [.ref 4] (kW M K d v x) = some (some (.int (smF (meF n 39960 1440 (trF K n)) 8 (-6) n)), kW M (us K 1 (meF n 39960 1440 (trF K n))) d v x) := by
  refine qRun_of ?_ rfl
  rw [en_76]
  have a24 := kW_run (i := 1) (by omega) (@s_24 (kW M (us K 1 (trF K n)) d v x) (oa 1) (us K 1 (trF K n) 1) n 39960 h40 (by rw [us_s]; exact h))
  rw [us_s, us_us, show oa 1 = 61 from rfl] at a24
  simp only [x_76_0, x_76_1, x_76_4, x_76_5, x_76_8, x_76_11, x_76_12, x_76_15, x_76_17, x_76_20, Option.bind_some, Option.bind_none, Option.toList_some, Option.toList_none, List.cons_append, List.nil_append, pNl_i, pNl_r, pNl_u, pNl_n, bI_0, bI_1, nn_or, or_nn, not_false_eq_true, not_true_eq_false, i1000, i1e0, true_or, or_true, Decidable.not_not, if_true, if_false, Bool.false_eq_true, Int32.zero_add, true_and, and_true, k4_0, k4_1, kT1, tr_over hn0 h40, a24]
theorem lo_kW {i : Nat} (hs : stOK M) (hi : i < 9) : hLI (kW M K d v x) 2 (nI i) = some (.int (loV i)) := by
  refine hLI_of (t := 14) ?_ (Or.inr rfl) (nI_pos (by omega)) (by rw [nI_clamp (by omega)]; exact lo_at hi)
  rw [kW_out (by omega)]; exact hs.2.1
theorem hi_kW {i : Nat} (hs : stOK M) (hi : i < 9) : hLI (kW M K d v x) 3 (nI i) = some (.int (hiV i)) := by
  refine hLI_of (t := 14) ?_ (Or.inr rfl) (nI_pos (by omega)) (by rw [nI_clamp (by omega)]; exact hi_at hi)
  rw [kW_out (by omega)]; exact hs.2.2
theorem kt_0 : hG (kW M K d v x) 61 1 0 = some (.ref 62) := (congrArg (fun q => hG q 61 1 0) (kW_cB' (i := 1) (by omega))).trans cg_0
theorem kt_s {i : Nat} {w : Int32} (hi : i < 9) : hS (kW M K d v x) 8 62 (nI i) (.int w) = some (kW M (us K 1 (u2 (K 1) 1 i w)) d v x) := (congrArg (fun q => hS q 8 62 (nI i) (.int w)) (kW_cB' (i := 1) (by omega))).trans ((ts hi).trans (congrArg some (kW_cB (i := 1) (by omega))))
end KJ
