/-! the class: the pad, reading what is on it -/
section KP
variable {M : qHp} {K : Nat → Sg} {d v x : Nat → Int32} {y : Nat → Nat} {P : Nat}
/-- the pad holds y -/
def pxOK (d x : Nat → Int32) (y : Nat → Nat) (P : Nat) : Prop := P ≤ 80 ∧ d 2 = nI P ∧ ∀ k, k < P → x k = nI (y k) ∧ 33 ≤ y k ∧ y k ≤ 126
theorem kTp : hT (kW M K d v x) 513 4 = true := hT_of k_513
theorem kq_0 : hG (kW M K d v x) 513 4 0 = some (.ref 514) := hG_of k_513
theorem kq_2 : hG (kW M K d v x) 513 4 2 = some (.int (d 3)) := hG_of k_513
theorem kq_3 : hG (kW M K d v x) 513 4 3 = some (.int (d 4)) := hG_of k_513
theorem kq_4 : hG (kW M K d v x) 513 4 4 = some (.int (d 5)) := hG_of k_513
theorem kq_5 : hG (kW M K d v x) 513 4 5 = some (.int (d 6)) := hG_of k_513
theorem kq_6 : hG (kW M K d v x) 513 4 6 = some (.int (d 7)) := hG_of k_513
theorem kC_p {q j : Nat} {w : Int32} (h : q ≠ 513) (hj : 2 ≤ j) : kC K (up d j w) v x q = kC K d v x q := by
  unfold kC
  simp only [h, if_false]
  rw [up_n (show 0 ≠ j by omega), up_n (show 1 ≠ j by omega)]
theorem kw_1 {w : Int32} : hP (kW M K d v x) 513 4 1 .int (.int w) = some (kW M K (up d 2 w) v x) := by
  rw [hP_of k_513 (Nat.le_of_ble_eq_true rfl) rfl]; exact congrArg some (kW_up (by omega) rfl fun q _ hn => kC_p hn (by omega))
theorem kw_2 {w : Int32} : hP (kW M K d v x) 513 4 2 .int (.int w) = some (kW M K (up d 3 w) v x) := by
  rw [hP_of k_513 (Nat.le_of_ble_eq_true rfl) rfl]; exact congrArg some (kW_up (by omega) rfl fun q _ hn => kC_p hn (by omega))
theorem kw_4 {w : Int32} : hP (kW M K d v x) 513 4 4 .int (.int w) = some (kW M K (up d 5 w) v x) := by
  rw [hP_of k_513 (Nat.le_of_ble_eq_true rfl) rfl]; exact congrArg some (kW_up (by omega) rfl fun q _ hn => kC_p hn (by omega))
theorem kw_5 {w : Int32} : hP (kW M K d v x) 513 4 5 .int (.int w) = some (kW M K (up d 6 w) v x) := by
  rw [hP_of k_513 (Nat.le_of_ble_eq_true rfl) rfl]; exact congrArg some (kW_up (by omega) rfl fun q _ hn => kC_p hn (by omega))
theorem kw_6 {w : Int32} : hP (kW M K d v x) 513 4 6 .int (.int w) = some (kW M K (up d 7 w) v x) := by
  rw [hP_of k_513 (Nat.le_of_ble_eq_true rfl) rfl]; exact congrArg some (kW_up (by omega) rfl fun q _ hn => kC_p hn (by omega))
theorem ch_ok : ∀ u, u < 256 → ((nI u).toUInt32 % 65536).toInt32 = nI u := by decide +kernel
theorem kw_3 {u : Nat} (hu : u < 256) : hP (kW M K d v x) 513 4 3 .char (.int (nI u)) = some (kW M K (up d 4 (nI u)) v x) := by
  rw [hP_of k_513 (Nat.le_of_ble_eq_true rfl) (by unfold qFit; exact decide_eq_true (ch_ok u hu))]; exact congrArg some (kW_up (by omega) rfl fun q _ hn => kC_p hn (by omega))
theorem k_514 : (kW M K d v x).2 514 = some (10, ia 80 x) := rfl
theorem kx_l {k : Nat} (hk : k < 80) : hL (kW M K d v x) 10 514 (nI k) = some (.int (x k)) := by
  have hc : (nI k).toNatClampNeg = k := nI_clamp (by omega)
  unfold hL
  rw [k_514]
  simp only [Option.bind_some]
  rw [if_pos ⟨trivial, nI_pos (by omega)⟩, hc]
  exact ia_at hk
theorem sr_256 (hy : pxOK d x y P) (p : Nat) : srP y P p < 256 := by
  unfold srP; split
  · rename_i h; have := (hy.2.2 p h).2.2; omega
  · omega
theorem s_57 {p : Nat} (hy : pxOK d x y P) (hp : d 3 = nI p) (h80 : p ≤ 84) : qRun 57 [.ref 513] (kW M K d v x) = some (some (.int (nI (srP y P p))), kW M K d v x) := by
  have hc := ch_ok _ (sr_256 hy p)
  obtain ⟨hP, h1, h2⟩ := hy
  refine qRun_of ?_ rfl
  rw [en_57]
  have h0 : (nI p < 0) = False := eq_false (nI_pos (by omega))
  unfold srP at hc ⊢
  by_cases c1 : p < P
  · rw [if_pos c1] at hc ⊢
    have e1 : (nI P ≤ nI p) = False := eq_false (by rw [nI_le_iff (by omega) (by omega)]; omega)
    simp only [x_57_0, x_57_1, x_57_4, x_57_7, x_57_8, x_57_11, x_57_12, x_57_15, x_57_18, x_57_19, x_57_22, x_57_23, x_57_26, x_57_27, x_57_30, Option.bind_some, Option.bind_none, Option.toList_some, Option.toList_none, List.cons_append, List.nil_append, pNl_i, pNl_r, pNl_u, pNl_n, bI_0, bI_1, nn_or, or_nn, not_false_eq_true, not_true_eq_false, i1000, i1e0, true_or, or_true, Decidable.not_not, if_true, if_false, Bool.false_eq_true, Int32.zero_add, true_and, and_true, kq_0, kq_1, kq_2, h1, hp, h0, e1, kx_l (show p < 80 by omega), (h2 p c1).1]
    rw [x_57_31 hc]
  · rw [if_neg c1] at hc ⊢
    have e1 : (nI P ≤ nI p) = True := eq_true (by rw [nI_le_iff (by omega) (by omega)]; omega)
    simp only [x_57_0, x_57_1, x_57_4, x_57_7, x_57_8, x_57_11, x_57_12, x_57_15, x_57_18, x_57_19, x_57_22, x_57_23, x_57_26, x_57_27, x_57_30, Option.bind_some, Option.bind_none, Option.toList_some, Option.toList_none, List.cons_append, List.nil_append, pNl_i, pNl_r, pNl_u, pNl_n, bI_0, bI_1, nn_or, or_nn, not_false_eq_true, not_true_eq_false, i1000, i1e0, true_or, or_true, Decidable.not_not, if_true, if_false, Bool.false_eq_true, Int32.zero_add, true_and, and_true, kq_0, kq_1, kq_2, h1, hp, h0, e1]
    exact x_57_31 hc
theorem s_56 {p : Nat} (hy : pxOK d x y P) (hp : d 3 = nI p) (h80 : p ≤ 84) : qRun 56 [.ref 513] (kW M K d v x) = some (some (.int (if inB y P p 48 57 = true then nI (y p - 48) else -6)), kW M K d v x) := by
  have hu := sr_256 hy p
  have a57 := @s_57 M K d v x y P p hy hp h80
  refine qRun_of ?_ rfl
  rw [en_56]
  by_cases c : inB y P p 48 57 = true
  · rw [if_pos c]
    have c' := (inB_t (y := y)).mp c
    have e : srP y P p = y p := if_pos c'.1
    rw [e] at a57
    have e1 : (nI (y p) < 48) = False := eq_false (by rw [show (48 : Int32) = nI 48 from rfl, nI_lt_iff (by omega) (by omega)]; omega)
    have e2 : (nI (y p) ≤ 57) = True := eq_true (by rw [show (57 : Int32) = nI 57 from rfl, nI_le_iff (by omega) (by omega)]; omega)
    have e22 : ((57 : Int32) < nI (y p)) = False := eq_false (by rw [show (57 : Int32) = nI 57 from rfl, nI_lt_iff (by omega) (by omega)]; omega)
    have e3 : (nI (y p) - 48 : Int32) = nI (y p - 48) := by
      rw [show nI (y p) = nI (y p - 48) + nI 48 by rw [nI_add]; congr 1; omega]; exact Int32.add_sub_cancel _ _
    simp only [x_56_0, x_56_1, x_56_4, x_56_5, x_56_6, x_56_8, x_56_11, x_56_12, x_56_14, x_56_17, x_56_18, x_56_20, x_56_21, x_56_24, x_56_26, Option.bind_some, Option.bind_none, Option.toList_some, Option.toList_none, List.cons_append, List.nil_append, pNl_i, pNl_r, pNl_u, pNl_n, bI_0, bI_1, nn_or, or_nn, not_false_eq_true, not_true_eq_false, i1000, i1e0, true_or, or_true, Decidable.not_not, if_true, if_false, Bool.false_eq_true, Int32.zero_add, true_and, and_true, kTp, a57, e1, e2, e22, e3]
  · rw [if_neg c]
    by_cases c1 : 48 ≤ srP y P p
    · have c2 : 57 < srP y P p := by
        rcases Nat.lt_or_ge 57 (srP y P p) with q | q
        · exact q
        · exfalso; apply c
          rw [inB_t]
          unfold srP at c1 q
          by_cases hpP : p < P
          · rw [if_pos hpP] at c1 q; exact ⟨hpP, c1, q⟩
          · rw [if_neg hpP] at c1; omega
      have e1 : (nI (srP y P p) < 48) = False := eq_false (by rw [show (48 : Int32) = nI 48 from rfl, nI_lt_iff (by omega) (by omega)]; omega)
      have e2 : (nI (srP y P p) ≤ 57) = False := eq_false (by rw [show (57 : Int32) = nI 57 from rfl, nI_le_iff (by omega) (by omega)]; omega)
      have e22 : ((57 : Int32) < nI (srP y P p)) = True := eq_true (by rw [show (57 : Int32) = nI 57 from rfl, nI_lt_iff (by omega) (by omega)]; omega)
      simp only [x_56_0, x_56_1, x_56_4, x_56_5, x_56_6, x_56_8, x_56_11, x_56_12, x_56_14, x_56_17, x_56_18, x_56_20, x_56_21, x_56_24, x_56_26, Option.bind_some, Option.bind_none, Option.toList_some, Option.toList_none, List.cons_append, List.nil_append, pNl_i, pNl_r, pNl_u, pNl_n, bI_0, bI_1, nn_or, or_nn, not_false_eq_true, not_true_eq_false, i1000, i1e0, true_or, or_true, Decidable.not_not, if_true, if_false, Bool.false_eq_true, Int32.zero_add, true_and, and_true, kTp, a57, e1, e2, e22]
    · have e1 : (nI (srP y P p) < 48) = True := eq_true (by rw [show (48 : Int32) = nI 48 from rfl, nI_lt_iff (by omega) (by omega)]; omega)
      simp only [x_56_0, x_56_1, x_56_4, x_56_5, x_56_6, x_56_8, x_56_11, x_56_12, x_56_14, x_56_17, x_56_18, x_56_20, x_56_21, x_56_24, x_56_26, Option.bind_some, Option.bind_none, Option.toList_some, Option.toList_none, List.cons_append, List.nil_append, pNl_i, pNl_r, pNl_u, pNl_n, bI_0, bI_1, nn_or, or_nn, not_false_eq_true, not_true_eq_false, i1000, i1e0, true_or, or_true, Decidable.not_not, if_true, if_false, Bool.false_eq_true, Int32.zero_add, true_and, and_true, kTp, a57, e1]
theorem s_52 {p ch : Nat} (hy : pxOK d x y P) (hp : d 3 = nI p) (h80 : p ≤ 84) (hch : 0 < ch ∧ ch < 256) : qRun 52 [.ref 513, .int (nI ch)] (kW M K d v x) = some (some (.int (bB (sgP y P ch p).1)), kW M K (up d 3 (nI (sgP y P ch p).2)) v x) := by
  have hu := sr_256 hy p
  have a57 := @s_57 M K d v x y P p hy hp h80
  refine qRun_of ?_ rfl
  rw [en_52]
  have e0 : (nI (srP y P p) = nI ch) = (srP y P p = ch) := nI_eq_iff (by omega) (by omega)
  unfold sgP
  cases c : inB y P p ch ch with
  | true =>
    have c' := (inB_t (y := y)).mp c
    have e : srP y P p = ch := by unfold srP; rw [if_pos c'.1]; omega
    have e1 := eq_true e
    have e2 : (true = false) = False := by simp
    rw [e1] at e0
    simp only [x_52_0, x_52_1, x_52_4, x_52_5, x_52_8, x_52_9, x_52_10, x_52_11, x_52_12, x_52_15, x_52_16, x_52_17, x_52_20, x_52_21, Option.bind_some, Option.bind_none, Option.toList_some, Option.toList_none, List.cons_append, List.nil_append, pNl_i, pNl_r, pNl_u, pNl_n, bI_0, bI_1, nn_or, or_nn, not_false_eq_true, not_true_eq_false, i1000, i1e0, true_or, or_true, Decidable.not_not, if_true, if_false, Bool.false_eq_true, Int32.zero_add, true_and, and_true, kTp, a57, e0, kq_2, kw_2, hp, nI_1, e2, bB_t]
  | false =>
    have e1 : (srP y P p = ch) = False := eq_false fun e => by
      have c' := (inB_f (y := y)).mp c
      apply c'
      unfold srP at e
      by_cases hpP : p < P
      · rw [if_pos hpP] at e; omega
      · rw [if_neg hpP] at e; omega
    rw [e1] at e0
    simp only [x_52_0, x_52_1, x_52_4, x_52_5, x_52_8, x_52_9, x_52_10, x_52_11, x_52_12, x_52_15, x_52_16, x_52_17, x_52_20, x_52_21, Option.bind_some, Option.bind_none, Option.toList_some, Option.toList_none, List.cons_append, List.nil_append, pNl_i, pNl_r, pNl_u, pNl_n, bI_0, bI_1, nn_or, or_nn, not_false_eq_true, not_true_eq_false, i1000, i1e0, true_or, or_true, Decidable.not_not, if_true, if_false, Bool.false_eq_true, Int32.zero_add, true_and, and_true, kTp, a57, e0, bB_f, up_same hp]
theorem s_54 {p : Nat} (hy : pxOK d x y P) (hp : d 3 = nI p) (h80 : p ≤ 84) : qRun 54 [.ref 513] (kW M K d v x) = some (some (.int (bB (dgP y P p).1)), kW M K (if (dgP y P p).1 = false then d else up (up d 6 (nI (dgP y P p).2.1)) 3 (nI (dgP y P p).2.2)) v x) := by
  have a56 := @s_56 M K d v x y P p hy hp h80
  refine qRun_of ?_ rfl
  rw [en_54]
  unfold dgP
  have e2 : (true = false) = False := by simp
  cases c : inB y P p 48 55 with
  | true =>
    have c' := (inB_t (y := y)).mp c
    rw [if_pos (by rw [inB_t]; omega)] at a56
    have e1 : (nI (y p - 48) < 0) = False := eq_false (nI_pos (by omega))
    have e3 : (nI (y p - 48) < 8) = True := eq_true (by rw [show (8 : Int32) = nI 8 from rfl, nI_lt_iff (by omega) (by omega)]; omega)
    have e4 : up d 6 (nI (y p - 48)) 3 = nI p := (up_n (by omega)).trans hp
    simp only [x_54_0, x_54_1, x_54_4, x_54_5, x_54_6, x_54_9, x_54_10, x_54_12, x_54_15, x_54_16, x_54_17, x_54_18, x_54_19, x_54_22, x_54_23, x_54_24, x_54_27, x_54_28, x_54_29, x_54_32, x_54_33, Option.bind_some, Option.bind_none, Option.toList_some, Option.toList_none, List.cons_append, List.nil_append, pNl_i, pNl_r, pNl_u, pNl_n, bI_0, bI_1, nn_or, or_nn, not_false_eq_true, not_true_eq_false, i1000, i1e0, true_or, or_true, Decidable.not_not, if_true, if_false, Bool.false_eq_true, Int32.zero_add, true_and, and_true, kTp, a56, e1, e3, kw_5, kq_2, kw_2, e4, nI_1, e2, bB_t]
  | false =>
    have c' := (inB_f (y := y)).mp c
    by_cases c3 : inB y P p 48 57 = true
    · rw [if_pos c3] at a56
      have c4 := (inB_t (y := y)).mp c3
      have e1 : (nI (y p - 48) < 0) = False := eq_false (nI_pos (by omega))
      have e3 : (nI (y p - 48) < 8) = False := eq_false (by rw [show (8 : Int32) = nI 8 from rfl, nI_lt_iff (by omega) (by omega)]; omega)
      simp only [x_54_0, x_54_1, x_54_4, x_54_5, x_54_6, x_54_9, x_54_10, x_54_12, x_54_15, x_54_16, x_54_17, x_54_18, x_54_19, x_54_22, x_54_23, x_54_24, x_54_27, x_54_28, x_54_29, x_54_32, x_54_33, Option.bind_some, Option.bind_none, Option.toList_some, Option.toList_none, List.cons_append, List.nil_append, pNl_i, pNl_r, pNl_u, pNl_n, bI_0, bI_1, nn_or, or_nn, not_false_eq_true, not_true_eq_false, i1000, i1e0, true_or, or_true, Decidable.not_not, if_true, if_false, Bool.false_eq_true, Int32.zero_add, true_and, and_true, kTp, a56, e1, e3, bB_f]
    · rw [if_neg c3] at a56
      have e1 : ((-6 : Int32) < 0) = True := eq_true (by decide)
      simp only [x_54_0, x_54_1, x_54_4, x_54_5, x_54_6, x_54_9, x_54_10, x_54_12, x_54_15, x_54_16, x_54_17, x_54_18, x_54_19, x_54_22, x_54_23, x_54_24, x_54_27, x_54_28, x_54_29, x_54_32, x_54_33, Option.bind_some, Option.bind_none, Option.toList_some, Option.toList_none, List.cons_append, List.nil_append, pNl_i, pNl_r, pNl_u, pNl_n, bI_0, bI_1, nn_or, or_nn, not_false_eq_true, not_true_eq_false, i1000, i1e0, true_or, or_true, Decidable.not_not, if_true, if_false, Bool.false_eq_true, Int32.zero_add, true_and, and_true, kTp, a56, e1, bB_f]
end KP
