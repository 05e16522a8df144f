/-! the reference's object: what remains to be asked, days to their end -/
section QD
variable {M : qHp} {c : Nat → Int32} {R : Nat → Sg} {A : Nat → Nat → Int32}
theorem nl_0 : nI 0 = 0 := rfl
theorem nl_1 : nI 1 = 1 := rfl
theorem nl_2 : nI 2 = 2 := rfl
theorem nl_3 : nI 3 = 3 := rfl
theorem nl_4 : nI 4 = 4 := rfl
theorem nl_5 : nI 5 = 5 := rfl
theorem nl_6 : nI 6 = 6 := rfl
theorem nl_7 : nI 7 = 7 := rfl
theorem nl_8 : nI 8 = 8 := rfl
theorem nl_9 : nI 9 = 9 := rfl
theorem nl_10 : nI 10 = 10 := rfl
theorem nl_11 : nI 11 = 11 := rfl
theorem nl_12 : nI 12 = 12 := rfl
theorem nl_13 : nI 13 = 13 := rfl
theorem nl_14 : nI 14 = 14 := rfl
theorem nl_15 : nI 15 = 15 := rfl
theorem nl_16 : nI 16 = 16 := rfl
theorem nl_17 : nI 17 = 17 := rfl
theorem nl_18 : nI 18 = 18 := rfl
theorem s_125_0 {x w : Int32} (h : ¬ (0 ≤ x ∧ x ≤ 7)) : qRun 125 [.ref 627, .int x, .int w] (wm M c R A) = some (some (.int (-1)), wm M c R A) := by
  refine qRun_of ?_ rfl
  rw [en_125]
  simp only [x_125_0, x_125_1, x_125_4, x_125_7, x_125_8, x_125_9, x_125_10, x_125_11, x_125_12, x_125_15, x_125_18, x_125_20, x_125_21, x_125_22, x_125_25, x_125_26, x_125_29, x_125_31, x_125_32, x_125_33, x_125_34, x_125_37, x_125_38, x_125_39, x_125_40, x_125_43, x_125_45, x_125_48, x_125_49, x_125_50, x_125_53, x_125_55, x_125_58, x_125_59, x_125_60, x_125_63, x_125_65, x_125_68, x_125_69, x_125_70, x_125_73, Option.bind_some, Option.bind_none, Option.toList_some, Option.toList_none, List.cons_append, List.nil_append, pNl_i, pNl_r, pNl_u, pNl_n, bI_0, bI_1, nn_or, or_nn, not_false_eq_true, not_true_eq_false, i1000, i1e0, true_or, or_true, Decidable.not_not, if_true, if_false, Bool.false_eq_true, Int32.zero_add, true_and, and_true, wm_T, wg_0, wg_1, wg_2, wg_3, wg_4, wg_5, wg_6, wg_7, wg_8, wg_9, wg_10, wp_3, wp_7, wp_8, wp_10, s_91, h]
theorem s_125_1 {x w : Int32} (h : 0 ≤ x ∧ x ≤ 7) (h2 : ¬ (0 ≤ w ∧ w ≤ 4)) : qRun 125 [.ref 627, .int x, .int w] (wm M c R A) = some (some (.int (-2)), wm M c R A) := by
  refine qRun_of ?_ rfl
  rw [en_125]
  simp only [x_125_0, x_125_1, x_125_4, x_125_7, x_125_8, x_125_9, x_125_10, x_125_11, x_125_12, x_125_15, x_125_18, x_125_20, x_125_21, x_125_22, x_125_25, x_125_26, x_125_29, x_125_31, x_125_32, x_125_33, x_125_34, x_125_37, x_125_38, x_125_39, x_125_40, x_125_43, x_125_45, x_125_48, x_125_49, x_125_50, x_125_53, x_125_55, x_125_58, x_125_59, x_125_60, x_125_63, x_125_65, x_125_68, x_125_69, x_125_70, x_125_73, Option.bind_some, Option.bind_none, Option.toList_some, Option.toList_none, List.cons_append, List.nil_append, pNl_i, pNl_r, pNl_u, pNl_n, bI_0, bI_1, nn_or, or_nn, not_false_eq_true, not_true_eq_false, i1000, i1e0, true_or, or_true, Decidable.not_not, if_true, if_false, Bool.false_eq_true, Int32.zero_add, true_and, and_true, wm_T, wg_0, wg_1, wg_2, wg_3, wg_4, wg_5, wg_6, wg_7, wg_8, wg_9, wg_10, wp_3, wp_7, wp_8, wp_10, s_91, s_87, h, h2]
def rtV (s : Sg) (r w n : Nat) : Int32 := if w = 0 then s 2 r else if w = 1 then smF s 7 (nI r) n else if w = 2 then smF s 8 (nI r) n else if w = 3 then smF s 6 (nI r) n else smF s 1 (nI r) n
theorem s_125 {r w n : Nat} (hr : r < 8) (hw : w < 5) (hn : R 0 0 1 = nI n) (h40 : n ≤ 40) : qRun 125 [.ref 627, .int (nI r), .int (nI w)] (wm M c R A) = some (some (.int (rtV (R 0) r w n)), wm M c R A) := by
  refine qRun_of ?_ rfl
  rw [en_125]
  have h1 := nI_bt0 (x := 7) (n := 7) rfl (by omega) (show r ≤ 7 by omega)
  have h2 := nI_bt0 (x := 4) (n := 4) rfl (by omega) (show w ≤ 4 by omega)
  have e7 := @s_124 M c R A 7 n 7 (nI r) (by omega) rfl hn h40
  have e8 := @s_124 M c R A 8 n 8 (nI r) (by omega) rfl hn h40
  have e6 := @s_124 M c R A 6 n 6 (nI r) (by omega) rfl hn h40
  have e1 := @s_124 M c R A 1 n 1 (nI r) (by omega) rfl hn h40
  match w, hw with
  | 0, _ =>
    have q0 : (nI 0 = 0) = True := eq_true rfl
    simp only [x_125_0, x_125_1, x_125_4, x_125_7, x_125_8, x_125_9, x_125_10, x_125_11, x_125_12, x_125_15, x_125_18, x_125_20, x_125_21, x_125_22, x_125_25, x_125_26, x_125_29, x_125_31, x_125_32, x_125_33, x_125_34, x_125_37, x_125_38, x_125_39, x_125_40, x_125_43, x_125_45, x_125_48, x_125_49, x_125_50, x_125_53, x_125_55, x_125_58, x_125_59, x_125_60, x_125_63, x_125_65, x_125_68, x_125_69, x_125_70, x_125_73, Option.bind_some, Option.bind_none, Option.toList_some, Option.toList_none, List.cons_append, List.nil_append, pNl_i, pNl_r, pNl_u, pNl_n, bI_0, bI_1, nn_or, or_nn, not_false_eq_true, not_true_eq_false, i1000, i1e0, true_or, or_true, Decidable.not_not, if_true, if_false, Bool.false_eq_true, Int32.zero_add, true_and, and_true, wm_T, wg_0, wg_1, wg_2, wg_3, wg_4, wg_5, wg_6, wg_7, wg_8, wg_9, wg_10, wp_3, wp_7, wp_8, wp_10, wn_now, wv_now, wt_now, wu_now, wn_many, wv_many, wt_many, wu_many, wn_set2, wv_set2, wt_set2, wu_set2, wn_rej, wv_rej, wt_rej, wu_rej, wn_cost, wv_cost, wt_cost, wu_cost, wn_cut, wv_cut, wt_cut, wu_cut, wn_setx, wv_setx, wt_setx, wu_setx, wn_m0, wv_m0, wt_m0, wu_m0, wn_m1, wv_m1, wt_m1, wu_m1, wn_m2, wv_m2, wt_m2, wu_m2, wn_m3, wv_m3, wt_m3, wu_m3, wn_m4, wv_m4, wt_m4, wu_m4, wn_qd, wv_qd, wt_qd, wu_qd, wn_q, wv_q, wt_q, wu_q, wn_of_0, wt_of_0, wn_ps_0, wn_of_1, wt_of_1, wn_ps_1, wn_of_2, wt_of_2, wn_ps_2, wn_of_3, wt_of_3, wn_ps_3, wn_of_4, wt_of_4, wn_ps_4, wn_of_5, wt_of_5, wn_ps_5, wn_of_6, wt_of_6, wn_ps_6, wn_of_7, wt_of_7, wn_ps_7, wn_of_8, wt_of_8, wn_ps_8, wn_of_9, wt_of_9, wn_ps_9, wn_of_10, wt_of_10, wn_ps_10, s_91, s_87, h1, h2, q0, hr]
    rfl
  | 1, _ =>
    have q0 : (nI 1 = 0) = False := eq_false (by decide)
    have q1 : (nI 1 = 1) = True := eq_true rfl
    simp only [x_125_0, x_125_1, x_125_4, x_125_7, x_125_8, x_125_9, x_125_10, x_125_11, x_125_12, x_125_15, x_125_18, x_125_20, x_125_21, x_125_22, x_125_25, x_125_26, x_125_29, x_125_31, x_125_32, x_125_33, x_125_34, x_125_37, x_125_38, x_125_39, x_125_40, x_125_43, x_125_45, x_125_48, x_125_49, x_125_50, x_125_53, x_125_55, x_125_58, x_125_59, x_125_60, x_125_63, x_125_65, x_125_68, x_125_69, x_125_70, x_125_73, Option.bind_some, Option.bind_none, Option.toList_some, Option.toList_none, List.cons_append, List.nil_append, pNl_i, pNl_r, pNl_u, pNl_n, bI_0, bI_1, nn_or, or_nn, not_false_eq_true, not_true_eq_false, i1000, i1e0, true_or, or_true, Decidable.not_not, if_true, if_false, Bool.false_eq_true, Int32.zero_add, true_and, and_true, wm_T, wg_0, wg_1, wg_2, wg_3, wg_4, wg_5, wg_6, wg_7, wg_8, wg_9, wg_10, wp_3, wp_7, wp_8, wp_10, wn_now, wv_now, wt_now, wu_now, wn_many, wv_many, wt_many, wu_many, wn_set2, wv_set2, wt_set2, wu_set2, wn_rej, wv_rej, wt_rej, wu_rej, wn_cost, wv_cost, wt_cost, wu_cost, wn_cut, wv_cut, wt_cut, wu_cut, wn_setx, wv_setx, wt_setx, wu_setx, wn_m0, wv_m0, wt_m0, wu_m0, wn_m1, wv_m1, wt_m1, wu_m1, wn_m2, wv_m2, wt_m2, wu_m2, wn_m3, wv_m3, wt_m3, wu_m3, wn_m4, wv_m4, wt_m4, wu_m4, wn_qd, wv_qd, wt_qd, wu_qd, wn_q, wv_q, wt_q, wu_q, wn_of_0, wt_of_0, wn_ps_0, wn_of_1, wt_of_1, wn_ps_1, wn_of_2, wt_of_2, wn_ps_2, wn_of_3, wt_of_3, wn_ps_3, wn_of_4, wt_of_4, wn_ps_4, wn_of_5, wt_of_5, wn_ps_5, wn_of_6, wt_of_6, wn_ps_6, wn_of_7, wt_of_7, wn_ps_7, wn_of_8, wt_of_8, wn_ps_8, wn_of_9, wt_of_9, wn_ps_9, wn_of_10, wt_of_10, wn_ps_10, s_91, s_87, h1, h2, q0, q1, e7]
    rfl
  | 2, _ =>
    have q0 : (nI 2 = 0) = False := eq_false (by decide)
    have q1 : (nI 2 = 1) = False := eq_false (by decide)
    have q2 : (nI 2 = 2) = True := eq_true rfl
    simp only [x_125_0, x_125_1, x_125_4, x_125_7, x_125_8, x_125_9, x_125_10, x_125_11, x_125_12, x_125_15, x_125_18, x_125_20, x_125_21, x_125_22, x_125_25, x_125_26, x_125_29, x_125_31, x_125_32, x_125_33, x_125_34, x_125_37, x_125_38, x_125_39, x_125_40, x_125_43, x_125_45, x_125_48, x_125_49, x_125_50, x_125_53, x_125_55, x_125_58, x_125_59, x_125_60, x_125_63, x_125_65, x_125_68, x_125_69, x_125_70, x_125_73, Option.bind_some, Option.bind_none, Option.toList_some, Option.toList_none, List.cons_append, List.nil_append, pNl_i, pNl_r, pNl_u, pNl_n, bI_0, bI_1, nn_or, or_nn, not_false_eq_true, not_true_eq_false, i1000, i1e0, true_or, or_true, Decidable.not_not, if_true, if_false, Bool.false_eq_true, Int32.zero_add, true_and, and_true, wm_T, wg_0, wg_1, wg_2, wg_3, wg_4, wg_5, wg_6, wg_7, wg_8, wg_9, wg_10, wp_3, wp_7, wp_8, wp_10, wn_now, wv_now, wt_now, wu_now, wn_many, wv_many, wt_many, wu_many, wn_set2, wv_set2, wt_set2, wu_set2, wn_rej, wv_rej, wt_rej, wu_rej, wn_cost, wv_cost, wt_cost, wu_cost, wn_cut, wv_cut, wt_cut, wu_cut, wn_setx, wv_setx, wt_setx, wu_setx, wn_m0, wv_m0, wt_m0, wu_m0, wn_m1, wv_m1, wt_m1, wu_m1, wn_m2, wv_m2, wt_m2, wu_m2, wn_m3, wv_m3, wt_m3, wu_m3, wn_m4, wv_m4, wt_m4, wu_m4, wn_qd, wv_qd, wt_qd, wu_qd, wn_q, wv_q, wt_q, wu_q, wn_of_0, wt_of_0, wn_ps_0, wn_of_1, wt_of_1, wn_ps_1, wn_of_2, wt_of_2, wn_ps_2, wn_of_3, wt_of_3, wn_ps_3, wn_of_4, wt_of_4, wn_ps_4, wn_of_5, wt_of_5, wn_ps_5, wn_of_6, wt_of_6, wn_ps_6, wn_of_7, wt_of_7, wn_ps_7, wn_of_8, wt_of_8, wn_ps_8, wn_of_9, wt_of_9, wn_ps_9, wn_of_10, wt_of_10, wn_ps_10, s_91, s_87, h1, h2, q0, q1, q2, e8]
    rfl
  | 3, _ =>
    have q0 : (nI 3 = 0) = False := eq_false (by decide)
    have q1 : (nI 3 = 1) = False := eq_false (by decide)
    have q2 : (nI 3 = 2) = False := eq_false (by decide)
    have q3 : (nI 3 = 3) = True := eq_true rfl
    simp only [x_125_0, x_125_1, x_125_4, x_125_7, x_125_8, x_125_9, x_125_10, x_125_11, x_125_12, x_125_15, x_125_18, x_125_20, x_125_21, x_125_22, x_125_25, x_125_26, x_125_29, x_125_31, x_125_32, x_125_33, x_125_34, x_125_37, x_125_38, x_125_39, x_125_40, x_125_43, x_125_45, x_125_48, x_125_49, x_125_50, x_125_53, x_125_55, x_125_58, x_125_59, x_125_60, x_125_63, x_125_65, x_125_68, x_125_69, x_125_70, x_125_73, Option.bind_some, Option.bind_none, Option.toList_some, Option.toList_none, List.cons_append, List.nil_append, pNl_i, pNl_r, pNl_u, pNl_n, bI_0, bI_1, nn_or, or_nn, not_false_eq_true, not_true_eq_false, i1000, i1e0, true_or, or_true, Decidable.not_not, if_true, if_false, Bool.false_eq_true, Int32.zero_add, true_and, and_true, wm_T, wg_0, wg_1, wg_2, wg_3, wg_4, wg_5, wg_6, wg_7, wg_8, wg_9, wg_10, wp_3, wp_7, wp_8, wp_10, wn_now, wv_now, wt_now, wu_now, wn_many, wv_many, wt_many, wu_many, wn_set2, wv_set2, wt_set2, wu_set2, wn_rej, wv_rej, wt_rej, wu_rej, wn_cost, wv_cost, wt_cost, wu_cost, wn_cut, wv_cut, wt_cut, wu_cut, wn_setx, wv_setx, wt_setx, wu_setx, wn_m0, wv_m0, wt_m0, wu_m0, wn_m1, wv_m1, wt_m1, wu_m1, wn_m2, wv_m2, wt_m2, wu_m2, wn_m3, wv_m3, wt_m3, wu_m3, wn_m4, wv_m4, wt_m4, wu_m4, wn_qd, wv_qd, wt_qd, wu_qd, wn_q, wv_q, wt_q, wu_q, wn_of_0, wt_of_0, wn_ps_0, wn_of_1, wt_of_1, wn_ps_1, wn_of_2, wt_of_2, wn_ps_2, wn_of_3, wt_of_3, wn_ps_3, wn_of_4, wt_of_4, wn_ps_4, wn_of_5, wt_of_5, wn_ps_5, wn_of_6, wt_of_6, wn_ps_6, wn_of_7, wt_of_7, wn_ps_7, wn_of_8, wt_of_8, wn_ps_8, wn_of_9, wt_of_9, wn_ps_9, wn_of_10, wt_of_10, wn_ps_10, s_91, s_87, h1, h2, q0, q1, q2, q3, e6]
    rfl
  | 4, _ =>
    have q0 : (nI 4 = 0) = False := eq_false (by decide)
    have q1 : (nI 4 = 1) = False := eq_false (by decide)
    have q2 : (nI 4 = 2) = False := eq_false (by decide)
    have q3 : (nI 4 = 3) = False := eq_false (by decide)
    simp only [x_125_0, x_125_1, x_125_4, x_125_7, x_125_8, x_125_9, x_125_10, x_125_11, x_125_12, x_125_15, x_125_18, x_125_20, x_125_21, x_125_22, x_125_25, x_125_26, x_125_29, x_125_31, x_125_32, x_125_33, x_125_34, x_125_37, x_125_38, x_125_39, x_125_40, x_125_43, x_125_45, x_125_48, x_125_49, x_125_50, x_125_53, x_125_55, x_125_58, x_125_59, x_125_60, x_125_63, x_125_65, x_125_68, x_125_69, x_125_70, x_125_73, Option.bind_some, Option.bind_none, Option.toList_some, Option.toList_none, List.cons_append, List.nil_append, pNl_i, pNl_r, pNl_u, pNl_n, bI_0, bI_1, nn_or, or_nn, not_false_eq_true, not_true_eq_false, i1000, i1e0, true_or, or_true, Decidable.not_not, if_true, if_false, Bool.false_eq_true, Int32.zero_add, true_and, and_true, wm_T, wg_0, wg_1, wg_2, wg_3, wg_4, wg_5, wg_6, wg_7, wg_8, wg_9, wg_10, wp_3, wp_7, wp_8, wp_10, wn_now, wv_now, wt_now, wu_now, wn_many, wv_many, wt_many, wu_many, wn_set2, wv_set2, wt_set2, wu_set2, wn_rej, wv_rej, wt_rej, wu_rej, wn_cost, wv_cost, wt_cost, wu_cost, wn_cut, wv_cut, wt_cut, wu_cut, wn_setx, wv_setx, wt_setx, wu_setx, wn_m0, wv_m0, wt_m0, wu_m0, wn_m1, wv_m1, wt_m1, wu_m1, wn_m2, wv_m2, wt_m2, wu_m2, wn_m3, wv_m3, wt_m3, wu_m3, wn_m4, wv_m4, wt_m4, wu_m4, wn_qd, wv_qd, wt_qd, wu_qd, wn_q, wv_q, wt_q, wu_q, wn_of_0, wt_of_0, wn_ps_0, wn_of_1, wt_of_1, wn_ps_1, wn_of_2, wt_of_2, wn_ps_2, wn_of_3, wt_of_3, wn_ps_3, wn_of_4, wt_of_4, wn_ps_4, wn_of_5, wt_of_5, wn_ps_5, wn_of_6, wt_of_6, wn_ps_6, wn_of_7, wt_of_7, wn_ps_7, wn_of_8, wt_of_8, wn_ps_8, wn_of_9, wt_of_9, wn_ps_9, wn_of_10, wt_of_10, wn_ps_10, s_91, s_87, h1, h2, q0, q1, q2, q3, e1]
    rfl
/-- what count answers, by a place -/
def cnV (s : Sg) (pd kp : Int32) (n : Nat) (x : Int32) : Int32 := if 8 ≤ x ∧ x ≤ 16 then s 1 (nN (x - 8)) else if x = 0 then s 0 0 else if x = 1 then s 0 1 else if x = 2 then smF s 1 (-6) n else if x = 3 then s 0 2 else if x = 4 then smF s 5 (-6) n else if x = 5 then s 0 3 else if x = 6 then smF s 7 (-6) n else if x = 7 then smF s 8 (-6) n else if x = 17 then pd else if x = 18 then kp else -2
theorem s_126 {n : Nat} {x : Int32} (hn : R 0 0 1 = nI n) (h40 : n ≤ 40) : qRun 126 [.ref 627, .int x] (wm M c R A) = some (some (.int (cnV (R 0) (c 1) (c 0) n x)), wm M c R A) := by
  refine qRun_of ?_ rfl
  rw [en_126]
  have e1 := @s_124 M c R A 1 n 1 (-6) (by omega) rfl hn h40
  have e5 := @s_124 M c R A 5 n 5 (-6) (by omega) rfl hn h40
  have e7 := @s_124 M c R A 7 n 7 (-6) (by omega) rfl hn h40
  have e8 := @s_124 M c R A 8 n 8 (-6) (by omega) rfl hn h40
  by_cases h1 : 0 ≤ x ∧ x ≤ 18
  · obtain ⟨j, hj, rfl⟩ := nI_bt (n := 18) (by omega) h1.1 h1.2
    have h2 := nI_bt0 (x := 18) (n := 18) rfl (by omega) hj
    by_cases h8 : 8 ≤ j ∧ j ≤ 16
    · have p1 : ((4 : Int32) ≤ nI j) = True := eq_true (by rw [show (4 : Int32) = nI 4 from rfl, nI_le_iff (by omega) (by omega)]; omega)
      have p2 : ((8 : Int32) ≤ nI j) = True := eq_true (by rw [show (8 : Int32) = nI 8 from rfl, nI_le_iff (by omega) (by omega)]; omega)
      have p3 : ((17 : Int32) ≤ nI j) = False := eq_false (by rw [show (17 : Int32) = nI 17 from rfl, nI_le_iff (by omega) (by omega)]; omega)
      have p4 : (nI j ≤ (16 : Int32)) = True := eq_true (by rw [show (16 : Int32) = nI 16 from rfl, nI_le_iff (by omega) (by omega)]; omega)
      have p5 : (nI j - 8 : Int32) = nI (j - 8) := by
        rw [show nI j = nI (j - 8) + nI 8 by rw [nI_add]; congr 1; omega]; exact Int32.add_sub_cancel _ _
      have p6 : (2 + nI j - 8 : Int32) = 2 + nI (j - 8) := by
        rw [show nI j = nI (j - 8) + nI 8 by rw [nI_add]; congr 1; omega, ← Int32.add_assoc]; exact Int32.add_sub_cancel _ _
      unfold cnV
      simp only [x_126_0, x_126_1, x_126_2, x_126_4, x_126_7, x_126_10, x_126_12, x_126_13, x_126_14, x_126_15, x_126_18, x_126_19, x_126_20, x_126_23, x_126_24, x_126_27, x_126_28, x_126_29, x_126_32, x_126_33, x_126_34, x_126_37, x_126_38, x_126_39, x_126_41, x_126_44, x_126_47, x_126_48, x_126_51, x_126_53, x_126_54, x_126_55, x_126_56, x_126_58, x_126_61, x_126_62, x_126_63, x_126_66, x_126_67, x_126_68, x_126_70, x_126_73, x_126_76, x_126_77, x_126_78, x_126_81, x_126_82, x_126_85, x_126_87, x_126_88, x_126_91, x_126_92, x_126_93, x_126_95, x_126_98, x_126_100, x_126_103, x_126_105, x_126_107, x_126_110, x_126_111, x_126_112, x_126_114, x_126_117, x_126_118, x_126_121, x_126_122, x_126_123, x_126_124, x_126_126, x_126_127, x_126_128, x_126_131, x_126_132, x_126_134, x_126_137, x_126_138, x_126_141, x_126_144, x_126_145, x_126_148, Option.bind_some, Option.bind_none, Option.toList_some, Option.toList_none, List.cons_append, List.nil_append, pNl_i, pNl_r, pNl_u, pNl_n, bI_0, bI_1, nn_or, or_nn, not_false_eq_true, not_true_eq_false, i1000, i1e0, true_or, or_true, Decidable.not_not, if_true, if_false, Bool.false_eq_true, Int32.zero_add, true_and, and_true, wm_T, wg_0, wg_1, wg_2, wg_3, wg_4, wg_5, wg_6, wg_7, wg_8, wg_9, wg_10, wp_3, wp_7, wp_8, wp_10, wn_now, wv_now, wt_now, wu_now, wn_many, wv_many, wt_many, wu_many, wn_set2, wv_set2, wt_set2, wu_set2, wn_rej, wv_rej, wt_rej, wu_rej, wn_cost, wv_cost, wt_cost, wu_cost, wn_cut, wv_cut, wt_cut, wu_cut, wn_setx, wv_setx, wt_setx, wu_setx, wn_m0, wv_m0, wt_m0, wu_m0, wn_m1, wv_m1, wt_m1, wu_m1, wn_m2, wv_m2, wt_m2, wu_m2, wn_m3, wv_m3, wt_m3, wu_m3, wn_m4, wv_m4, wt_m4, wu_m4, wn_qd, wv_qd, wt_qd, wu_qd, wn_q, wv_q, wt_q, wu_q, wn_of_0, wt_of_0, wn_ps_0, wn_of_1, wt_of_1, wn_ps_1, wn_of_2, wt_of_2, wn_ps_2, wn_of_3, wt_of_3, wn_ps_3, wn_of_4, wt_of_4, wn_ps_4, wn_of_5, wt_of_5, wn_ps_5, wn_of_6, wt_of_6, wn_ps_6, wn_of_7, wt_of_7, wn_ps_7, wn_of_8, wt_of_8, wn_ps_8, wn_of_9, wt_of_9, wn_ps_9, wn_of_10, wt_of_10, wn_ps_10, s_87, h2, p1, p2, p3, p4, p5, p6, show j - 8 < 9 by omega, nN_nI (show j - 8 < 100000 by omega)]
    · have hj' : j = 0 ∨ j = 1 ∨ j = 2 ∨ j = 3 ∨ j = 4 ∨ j = 5 ∨ j = 6 ∨ j = 7 ∨ j = 17 ∨ j = 18 := by omega
      unfold cnV
      rcases hj' with rfl | rfl | rfl | rfl | rfl | rfl | rfl | rfl | rfl | rfl
      all_goals simp (config := {decide := true}) only [nl_0, nl_1, nl_2, nl_3, nl_4, nl_5, nl_6, nl_7, nl_8, nl_9, nl_10, nl_11, nl_12, nl_13, nl_14, nl_15, nl_16, nl_17, nl_18, x_126_0, x_126_1, x_126_2, x_126_4, x_126_7, x_126_10, x_126_12, x_126_13, x_126_14, x_126_15, x_126_18, x_126_19, x_126_20, x_126_23, x_126_24, x_126_27, x_126_28, x_126_29, x_126_32, x_126_33, x_126_34, x_126_37, x_126_38, x_126_39, x_126_41, x_126_44, x_126_47, x_126_48, x_126_51, x_126_53, x_126_54, x_126_55, x_126_56, x_126_58, x_126_61, x_126_62, x_126_63, x_126_66, x_126_67, x_126_68, x_126_70, x_126_73, x_126_76, x_126_77, x_126_78, x_126_81, x_126_82, x_126_85, x_126_87, x_126_88, x_126_91, x_126_92, x_126_93, x_126_95, x_126_98, x_126_100, x_126_103, x_126_105, x_126_107, x_126_110, x_126_111, x_126_112, x_126_114, x_126_117, x_126_118, x_126_121, x_126_122, x_126_123, x_126_124, x_126_126, x_126_127, x_126_128, x_126_131, x_126_132, x_126_134, x_126_137, x_126_138, x_126_141, x_126_144, x_126_145, x_126_148, Option.bind_some, Option.bind_none, Option.toList_some, Option.toList_none, List.cons_append, List.nil_append, pNl_i, pNl_r, pNl_u, pNl_n, bI_0, bI_1, nn_or, or_nn, not_false_eq_true, not_true_eq_false, i1000, i1e0, true_or, or_true, Decidable.not_not, if_true, if_false, Bool.false_eq_true, Int32.zero_add, true_and, and_true, wm_T, wg_0, wg_1, wg_2, wg_3, wg_4, wg_5, wg_6, wg_7, wg_8, wg_9, wg_10, wp_3, wp_7, wp_8, wp_10, wn_now, wn_many, wn_rej, wn_cost, s_87, e1, e5, e7, e8]
  · have g0 : cnV (R 0) (c 1) (c 0) n x = -2 := by
      unfold cnV
      have k : ∀ j : Nat, j ≤ 18 → x ≠ nI j := fun j hj e => h1 (by rw [e]; exact of_eq_true (nI_bt0 (x := 18) (n := 18) rfl (by omega) hj))
      have k8 : ¬ (8 ≤ x ∧ x ≤ 16) := fun q => h1 ⟨Int32.le_trans (by decide) q.1, Int32.le_trans q.2 (by decide)⟩
      rw [if_neg k8, if_neg (show ¬ x = 0 from k 0 (by omega)), if_neg (show ¬ x = 1 from k 1 (by omega)), if_neg (show ¬ x = 2 from k 2 (by omega)), if_neg (show ¬ x = 3 from k 3 (by omega)), if_neg (show ¬ x = 4 from k 4 (by omega)), if_neg (show ¬ x = 5 from k 5 (by omega)), if_neg (show ¬ x = 6 from k 6 (by omega)), if_neg (show ¬ x = 7 from k 7 (by omega)), if_neg (show ¬ x = 17 from k 17 (by omega)), if_neg (show ¬ x = 18 from k 18 (by omega))]
    simp only [x_126_0, x_126_1, x_126_2, x_126_4, x_126_7, x_126_10, x_126_12, x_126_13, x_126_14, x_126_15, x_126_18, x_126_19, x_126_20, x_126_23, x_126_24, x_126_27, x_126_28, x_126_29, x_126_32, x_126_33, x_126_34, x_126_37, x_126_38, x_126_39, x_126_41, x_126_44, x_126_47, x_126_48, x_126_51, x_126_53, x_126_54, x_126_55, x_126_56, x_126_58, x_126_61, x_126_62, x_126_63, x_126_66, x_126_67, x_126_68, x_126_70, x_126_73, x_126_76, x_126_77, x_126_78, x_126_81, x_126_82, x_126_85, x_126_87, x_126_88, x_126_91, x_126_92, x_126_93, x_126_95, x_126_98, x_126_100, x_126_103, x_126_105, x_126_107, x_126_110, x_126_111, x_126_112, x_126_114, x_126_117, x_126_118, x_126_121, x_126_122, x_126_123, x_126_124, x_126_126, x_126_127, x_126_128, x_126_131, x_126_132, x_126_134, x_126_137, x_126_138, x_126_141, x_126_144, x_126_145, x_126_148, Option.bind_some, Option.bind_none, Option.toList_some, Option.toList_none, List.cons_append, List.nil_append, pNl_i, pNl_r, pNl_u, pNl_n, bI_0, bI_1, nn_or, or_nn, not_false_eq_true, not_true_eq_false, i1000, i1e0, true_or, or_true, Decidable.not_not, if_true, if_false, Bool.false_eq_true, Int32.zero_add, true_and, and_true, wm_T, wg_0, wg_1, wg_2, wg_3, wg_4, wg_5, wg_6, wg_7, wg_8, wg_9, wg_10, wp_3, wp_7, wp_8, wp_10, s_87, h1, g0]
end QD
