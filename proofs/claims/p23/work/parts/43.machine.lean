/-! the class: machines, and what a centre is asked first -/
theorem nI_sle {n : Nat} {x : Int32} (hn : n < 100000) : (nI (n + 1) ≤ x) = ¬ x ≤ nI n := by
  refine propext ?_
  rw [Int32.le_iff_toInt_le, Int32.le_iff_toInt_le, nI_toInt (by omega), nI_toInt (by omega)]
  omega
theorem le1439 {x : Int32} : (1440 ≤ x) = ¬ x ≤ 1439 := nI_sle (n := 1439) (by omega)
theorem lt_le {n : Nat} {x : Int32} (hn : n < 100000) : (x < nI (n + 1)) = (x ≤ nI n) := by
  refine propext ?_
  rw [Int32.lt_iff_toInt_lt, Int32.le_iff_toInt_le, nI_toInt (by omega), nI_toInt (by omega)]
  omega
section CE
variable {M : qHp} {o : Nat} {s : Sg}
theorem cb_m {m : Nat} (hm : m < 3) : (cB M o s).2 (o + 47 + 3 * m) = some (3, .ref (o + 48 + 3 * m) :: ia 5 (s (3 + m))) := by
  rw [← cb_mc hm, show o + 47 + 3 * m = o + (47 + 3 * m) by omega]; exact cb_at (by omega)
theorem mT {m : Nat} (hm : m < 3) : hT (cB M o s) (o + 47 + 3 * m) 3 = true := hT_of (cb_m hm)
theorem mg_0 {m : Nat} (hm : m < 3) : hG (cB M o s) (o + 47 + 3 * m) 3 0 = some (.ref (o + 48 + 3 * m)) := hG_of (cb_m hm)
theorem mg {m w : Nat} (hm : m < 3) (hw : w < 5) : hG (cB M o s) (o + 47 + 3 * m) 3 (w + 1) = some (.int (s (3 + m) w)) := by
  rw [hG_of (cb_m hm), List.getElem?_cons_succ]; exact ia_at hw
theorem mp {m w : Nat} {v : Int32} (hm : m < 3) (hw : w < 5) : hP (cB M o s) (o + 47 + 3 * m) 3 (w + 1) .int (.int v) = some (cB M o (u2 s (3 + m) w v)) := by
  have w1 : ow (3 + m) w = 47 + 3 * m := by unfold ow; rw [if_neg (by omega), if_neg (by omega), if_neg (by omega), if_pos (by omega), Nat.add_sub_cancel_left]
  rw [hP_of (cb_m hm) (by rw [List.length_cons, ia_len]; omega) rfl, List.set_cons_succ, ia_set, up_u2]
  have h := @cb_u2 M o s (3 + m) w (3, .ref (o + 48 + 3 * m) :: ia 5 (u2 s (3 + m) w v (3 + m))) v (by rw [w1]; omega) (by rw [w1, cb_mc hm])
  rw [w1] at h
  rw [show o + 47 + 3 * m = o + (47 + 3 * m) by omega]
  exact congrArg some h
theorem mA {m : Nat} (hm : m < 3) : hLA (cB M o s) (o + 4) (nI m) = some (.ref (o + 47 + 3 * m)) := by
  unfold hLA
  rw [show (cB M o s).2 (o + 4) = some (12, (List.range 3).map fun m => .ref (o + 47 + 3 * m)) from cb_at (j := 4) (by omega)]
  simp only [Option.bind_some]
  rw [if_pos ⟨⟨by omega, by omega⟩, nI_pos (by omega)⟩, nI_clamp (by omega)]
  simp [hm]
theorem tl {i : Nat} {x : Int32} (hi : i < 9) (hx : x = nI i) : hLI (cB M o s) (o + 1) x = some (.int (s 1 i)) := by rw [hx]; exact hLI_nI (cb_at (j := 1) (by omega)) hi (by omega)
theorem ts {i : Nat} {v : Int32} (hi : i < 9) : hS (cB M o s) 8 (o + 1) (nI i) (.int v) = some (cB M o (u2 s 1 i v)) := by
  rw [hS_nI (cb_at (j := 1) (by omega)) hi (by omega), up_u2]
  exact congrArg some (cb_u2 (g := 1) (k := i) (show 1 < 56 by omega) rfl)
theorem ul {r : Nat} (hr : r < 8) : hLI (cB M o s) (o + 2) (nI r) = some (.int (s 2 r)) := hLI_nI (cb_at (j := 2) (by omega)) hr (by omega)
theorem uS {r : Nat} {v : Int32} (hr : r < 8) : hS (cB M o s) 8 (o + 2) (nI r) (.int v) = some (cB M o (u2 s 2 r v)) := by
  rw [hS_nI (cb_at (j := 2) (by omega)) hr (by omega), up_u2]
  exact congrArg some (cb_u2 (g := 2) (k := r) (show 2 < 56 by omega) rfl)
theorem s_44 {m w : Nat} (hm : m < 3) (hw : w < 6) : qRun 44 [.ref (o + 47 + 3 * m), .int (nI w)] (cB M o s) = some (some (.int (mcV s m w)), cB M o s) := by
  refine qRun_of ?_ rfl
  rw [en_44]
  have m1 := fun s => @mg M o s m 0 hm (by omega)
  have m2 := fun s => @mg M o s m 1 hm (by omega)
  have m3 := fun s => @mg M o s m 2 hm (by omega)
  have m4 := fun s => @mg M o s m 3 hm (by omega)
  have m5 := fun s => @mg M o s m 4 hm (by omega)
  simp only [Nat.reduceAdd] at m1 m2 m3 m4 m5
  unfold mcV
  match w, hw with
  | 0, _ | 1, _ | 2, _ | 3, _ | 4, _ | 5, _ => simp (config := {decide := true}) only [x_44_0, x_44_1, x_44_40, x_44_41, x_44_44, x_44_45, x_44_46, x_44_49, x_44_52, x_44_53, x_44_54, x_44_57, x_44_58, x_44_59, x_44_62, x_44_63, x_44_64, x_44_67, x_44_68, x_44_69, x_44_72, x_44_73, x_44_75, Option.bind_some, Option.bind_none, Option.toList_some, Option.toList_none, List.cons_append, List.nil_append, pNl_i, pNl_r, pNl_u, pNl_n, bI_0, bI_1, nn_or, or_nn, not_false_eq_true, not_true_eq_false, i1000, i1e0, true_or, or_true, Decidable.not_not, if_true, if_false, Bool.false_eq_true, Int32.zero_add, true_and, and_true, mg_0 hm, m1, m2, m3, m4, m5, rg_1 (rw_q hm), nl_0, nl_1, nl_2, nl_3, nl_4, nl_5]; first | rfl | done
theorem s_44_0 {m : Nat} {x : Int32} (hx : ¬ (0 ≤ x ∧ x ≤ 5)) : qRun 44 [.ref (o + 47 + 3 * m), .int x] (cB M o s) = some (some (.int (-2)), cB M o s) := by
  refine qRun_of ?_ rfl
  rw [en_44]
  have k : ∀ j : Nat, j ≤ 5 → (x = nI j) = False := fun j hj => eq_false fun e => hx (by rw [e]; exact of_eq_true (nI_bt0 (x := 5) (n := 5) rfl (by omega) hj))
  have k0 := k 0 (by omega)
  have k1 := k 1 (by omega)
  have k2 := k 2 (by omega)
  have k3 := k 3 (by omega)
  have k4 := k 4 (by omega)
  have k5 := k 5 (by omega)
  simp only [nl_0, nl_1, nl_2, nl_3, nl_4, nl_5] at k0 k1 k2 k3 k4 k5
  simp only [x_44_0, x_44_1, x_44_40, x_44_41, x_44_44, x_44_45, x_44_46, x_44_49, x_44_52, x_44_53, x_44_54, x_44_57, x_44_58, x_44_59, x_44_62, x_44_63, x_44_64, x_44_67, x_44_68, x_44_69, x_44_72, x_44_73, x_44_75, Option.bind_some, Option.bind_none, Option.toList_some, Option.toList_none, List.cons_append, List.nil_append, pNl_i, pNl_r, pNl_u, pNl_n, bI_0, bI_1, nn_or, or_nn, not_false_eq_true, not_true_eq_false, i1000, i1e0, true_or, or_true, Decidable.not_not, if_true, if_false, Bool.false_eq_true, Int32.zero_add, true_and, and_true, k0, k1, k2, k3, k4, k5]
/-- a machine takes a batch -/
def ktF (s : Sg) (m : Nat) (b r e : Int32) : Sg :=
  let s1 := u2 s (3 + m) 0 b
  let s2 := if r = s1 (3 + m) 2 ∨ e ≤ 0 then s1 else u2 (u2 s1 (3 + m) 1 e) (3 + m) 4 (u2 s1 (3 + m) 1 e (3 + m) 4 + 1)
  u2 s2 (3 + m) 2 r
theorem s_45 {m : Nat} {b r e : Int32} (hm : m < 3) : qRun 45 [.ref (o + 47 + 3 * m), .int b, .int r, .int e] (cB M o s) = some (none, cB M o (ktF s m b r e)) := by
  refine qRun_of ?_ rfl
  rw [en_45]
  have m1 := fun s => @mg M o s m 0 hm (by omega)
  have m3 := fun s => @mg M o s m 2 hm (by omega)
  have m5 := fun s => @mg M o s m 4 hm (by omega)
  have p1 := fun s v => @mp M o s m 0 v hm (by omega)
  have p2 := fun s v => @mp M o s m 1 v hm (by omega)
  have p3 := fun s v => @mp M o s m 2 v hm (by omega)
  have p5 := fun s v => @mp M o s m 4 v hm (by omega)
  simp only [Nat.reduceAdd] at m1 m3 m5 p1 p2 p3 p5
  unfold ktF
  dsimp only
  by_cases c1 : r = u2 s (3 + m) 0 b (3 + m) 2
  · rw [if_pos (Or.inl c1)]
    have c1' := eq_true c1
    simp only [x_45_0, x_45_1, x_45_2, x_45_5, x_45_6, x_45_7, x_45_10, x_45_13, x_45_14, x_45_17, x_45_18, x_45_19, x_45_22, x_45_23, x_45_24, x_45_27, x_45_28, x_45_29, x_45_32, x_45_33, x_45_34, x_45_37, Option.bind_some, Option.bind_none, Option.toList_some, Option.toList_none, List.cons_append, List.nil_append, pNl_i, pNl_r, pNl_u, pNl_n, bI_0, bI_1, nn_or, or_nn, not_false_eq_true, not_true_eq_false, i1000, i1e0, true_or, or_true, Decidable.not_not, if_true, if_false, Bool.false_eq_true, Int32.zero_add, true_and, and_true, m1, m3, m5, p1, p2, p3, p5, c1']
  · by_cases c2 : e ≤ 0
    · rw [if_pos (Or.inr c2)]
      simp only [x_45_0, x_45_1, x_45_2, x_45_5, x_45_6, x_45_7, x_45_10, x_45_13, x_45_14, x_45_17, x_45_18, x_45_19, x_45_22, x_45_23, x_45_24, x_45_27, x_45_28, x_45_29, x_45_32, x_45_33, x_45_34, x_45_37, Option.bind_some, Option.bind_none, Option.toList_some, Option.toList_none, List.cons_append, List.nil_append, pNl_i, pNl_r, pNl_u, pNl_n, bI_0, bI_1, nn_or, or_nn, not_false_eq_true, not_true_eq_false, i1000, i1e0, true_or, or_true, Decidable.not_not, if_true, if_false, Bool.false_eq_true, Int32.zero_add, true_and, and_true, m1, m3, m5, p1, p2, p3, p5, c1, c2]
    · rw [if_neg (by simp only [not_or]; exact ⟨c1, c2⟩)]
      simp only [x_45_0, x_45_1, x_45_2, x_45_5, x_45_6, x_45_7, x_45_10, x_45_13, x_45_14, x_45_17, x_45_18, x_45_19, x_45_22, x_45_23, x_45_24, x_45_27, x_45_28, x_45_29, x_45_32, x_45_33, x_45_34, x_45_37, Option.bind_some, Option.bind_none, Option.toList_some, Option.toList_none, List.cons_append, List.nil_append, pNl_i, pNl_r, pNl_u, pNl_n, bI_0, bI_1, nn_or, or_nn, not_false_eq_true, not_true_eq_false, i1000, i1e0, true_or, or_true, Decidable.not_not, if_true, if_false, Bool.false_eq_true, Int32.zero_add, true_and, and_true, m1, m3, m5, p1, p2, p3, p5, c1, c2]
theorem s_16 {x : Int32} : qRun 16 [.ref o, .int x] (cB M o s) = some (some (.int (bI (s 0 0 ≤ x ∧ x ≤ 1439))), cB M o s) := by
  refine qRun_of ?_ rfl
  rw [en_16]
  unfold bI
  by_cases c1 : s 0 0 ≤ x
  · have c1' : (x < s 0 0) = False := eq_false (Int32.not_lt.mpr c1)
    by_cases c2 : x ≤ 1439
    · simp only [x_16_0, x_16_1, x_16_2, x_16_5, x_16_8, x_16_9, x_16_12, x_16_15, x_16_16, x_16_19, x_16_20, Option.bind_some, Option.bind_none, Option.toList_some, Option.toList_none, List.cons_append, List.nil_append, pNl_i, pNl_r, pNl_u, pNl_n, bI_0, bI_1, nn_or, or_nn, not_false_eq_true, not_true_eq_false, i1000, i1e0, true_or, or_true, Decidable.not_not, if_true, if_false, Bool.false_eq_true, Int32.zero_add, true_and, and_true, cg_6, c1, c1', le1439, c2, and_self]
    · simp only [x_16_0, x_16_1, x_16_2, x_16_5, x_16_8, x_16_9, x_16_12, x_16_15, x_16_16, x_16_19, x_16_20, Option.bind_some, Option.bind_none, Option.toList_some, Option.toList_none, List.cons_append, List.nil_append, pNl_i, pNl_r, pNl_u, pNl_n, bI_0, bI_1, nn_or, or_nn, not_false_eq_true, not_true_eq_false, i1000, i1e0, true_or, or_true, Decidable.not_not, if_true, if_false, Bool.false_eq_true, Int32.zero_add, true_and, and_true, cg_6, c1, c1', le1439, c2, and_false]
  · have c1' : (x < s 0 0) = True := eq_true (Int32.not_le.mp c1)
    simp only [x_16_0, x_16_1, x_16_2, x_16_5, x_16_8, x_16_9, x_16_12, x_16_15, x_16_16, x_16_19, x_16_20, Option.bind_some, Option.bind_none, Option.toList_some, Option.toList_none, List.cons_append, List.nil_append, pNl_i, pNl_r, pNl_u, pNl_n, bI_0, bI_1, nn_or, or_nn, not_false_eq_true, not_true_eq_false, i1000, i1e0, true_or, or_true, Decidable.not_not, if_true, if_false, Bool.false_eq_true, Int32.zero_add, true_and, and_true, cg_6, c1, c1', false_and]
theorem s_17 {b n : Nat} (hn : s 0 1 = nI n) (h40 : n ≤ 40) (hb : b < n) : qRun 17 [.ref o, .int (nI b)] (cB M o s) = some (some (.ref (o + 7 + b)), cB M o s) := by
  refine qRun_of ?_ rfl
  rw [en_17]
  have h0 : (nI b < 0) = False := eq_false (nI_pos (by omega))
  have h1 : (nI n ≤ nI b) = False := eq_false (by rw [nI_le_iff (by omega) (by omega)]; omega)
  simp only [x_17_0, x_17_1, x_17_4, x_17_5, x_17_6, x_17_9, x_17_12, x_17_13, x_17_16, x_17_17, x_17_18, x_17_21, x_17_22N, x_17_22, Option.bind_some, Option.bind_none, Option.toList_some, Option.toList_none, List.cons_append, List.nil_append, pNl_i, pNl_r, pNl_u, pNl_n, bI_0, bI_1, nn_or, or_nn, not_false_eq_true, not_true_eq_false, i1000, i1e0, true_or, or_true, Decidable.not_not, if_true, if_false, Bool.false_eq_true, Int32.zero_add, true_and, and_true, cg_5, cg_2, hn, h0, h1, bA (show b < 40 by omega)]
theorem s_17_0 {x : Int32} (h : ¬ (0 ≤ x ∧ x < s 0 1)) : qRun 17 [.ref o, .int x] (cB M o s) = some (some .null, cB M o s) := by
  refine qRun_of ?_ rfl
  rw [en_17]
  by_cases c1 : x < 0
  · simp only [x_17_0, x_17_1, x_17_4, x_17_5, x_17_6, x_17_9, x_17_12, x_17_13, x_17_16, x_17_17, x_17_18, x_17_21, x_17_22N, x_17_22, Option.bind_some, Option.bind_none, Option.toList_some, Option.toList_none, List.cons_append, List.nil_append, pNl_i, pNl_r, pNl_u, pNl_n, bI_0, bI_1, nn_or, or_nn, not_false_eq_true, not_true_eq_false, i1000, i1e0, true_or, or_true, Decidable.not_not, if_true, if_false, Bool.false_eq_true, Int32.zero_add, true_and, and_true, cg_5, cg_2, c1]
  · have c2 : (s 0 1 ≤ x) = True := eq_true (Int32.not_lt.mp fun q => h ⟨Int32.not_lt.mp c1, q⟩)
    simp only [x_17_0, x_17_1, x_17_4, x_17_5, x_17_6, x_17_9, x_17_12, x_17_13, x_17_16, x_17_17, x_17_18, x_17_21, x_17_22N, x_17_22, Option.bind_some, Option.bind_none, Option.toList_some, Option.toList_none, List.cons_append, List.nil_append, pNl_i, pNl_r, pNl_u, pNl_n, bI_0, bI_1, nn_or, or_nn, not_false_eq_true, not_true_eq_false, i1000, i1e0, true_or, or_true, Decidable.not_not, if_true, if_false, Bool.false_eq_true, Int32.zero_add, true_and, and_true, cg_5, cg_2, c1, c2]
theorem s_18 {m : Nat} (hm : m < 3) : qRun 18 [.ref o, .int (nI m)] (cB M o s) = some (some (.ref (o + 47 + 3 * m)), cB M o s) := by
  refine qRun_of ?_ rfl
  rw [en_18]
  have h0 : (nI m < 0) = False := eq_false (nI_pos (by omega))
  have h1 : ((3 : Int32) ≤ nI m) = False := eq_false (by rw [show (3 : Int32) = nI 3 from rfl, nI_le_iff (by omega) (by omega)]; omega)
  simp only [x_18_0, x_18_1, x_18_4, x_18_5, x_18_6, x_18_9, x_18_10, x_18_13, x_18_14, x_18_15, x_18_18, x_18_19N, x_18_19, Option.bind_some, Option.bind_none, Option.toList_some, Option.toList_none, List.cons_append, List.nil_append, pNl_i, pNl_r, pNl_u, pNl_n, bI_0, bI_1, nn_or, or_nn, not_false_eq_true, not_true_eq_false, i1000, i1e0, true_or, or_true, Decidable.not_not, if_true, if_false, Bool.false_eq_true, Int32.zero_add, true_and, and_true, cg_3, h0, h1, mA hm]
theorem s_18_0 {x : Int32} (h : ¬ (0 ≤ x ∧ x ≤ 2)) : qRun 18 [.ref o, .int x] (cB M o s) = some (some .null, cB M o s) := by
  refine qRun_of ?_ rfl
  rw [en_18]
  by_cases c1 : x < 0
  · simp only [x_18_0, x_18_1, x_18_4, x_18_5, x_18_6, x_18_9, x_18_10, x_18_13, x_18_14, x_18_15, x_18_18, x_18_19N, x_18_19, Option.bind_some, Option.bind_none, Option.toList_some, Option.toList_none, List.cons_append, List.nil_append, pNl_i, pNl_r, pNl_u, pNl_n, bI_0, bI_1, nn_or, or_nn, not_false_eq_true, not_true_eq_false, i1000, i1e0, true_or, or_true, Decidable.not_not, if_true, if_false, Bool.false_eq_true, Int32.zero_add, true_and, and_true, c1]
  · have c2 : ((3 : Int32) ≤ x) = True := eq_true (Int32.not_lt.mp fun q => h ⟨Int32.not_lt.mp c1, by rw [show (x ≤ 2) = (x < 3) from (lt_le (n := 2) (by omega)).symm]; exact q⟩)
    simp only [x_18_0, x_18_1, x_18_4, x_18_5, x_18_6, x_18_9, x_18_10, x_18_13, x_18_14, x_18_15, x_18_18, x_18_19N, x_18_19, Option.bind_some, Option.bind_none, Option.toList_some, Option.toList_none, List.cons_append, List.nil_append, pNl_i, pNl_r, pNl_u, pNl_n, bI_0, bI_1, nn_or, or_nn, not_false_eq_true, not_true_eq_false, i1000, i1e0, true_or, or_true, Decidable.not_not, if_true, if_false, Bool.false_eq_true, Int32.zero_add, true_and, and_true, c1, c2]
theorem s_19 {r : Nat} (hr : r < 8) : qRun 19 [.ref o, .int (nI r)] (cB M o s) = some (some (.int (s 2 r)), cB M o s) := by
  refine qRun_of ?_ rfl
  rw [en_19]
  have h0 : (nI r < 0) = False := eq_false (nI_pos (by omega))
  have h1 : ((8 : Int32) ≤ nI r) = False := eq_false (by rw [show (8 : Int32) = nI 8 from rfl, nI_le_iff (by omega) (by omega)]; omega)
  simp only [x_19_0, x_19_1, x_19_4, x_19_5, x_19_7, x_19_10, x_19_11, x_19_14, x_19_15, x_19_16, x_19_19, x_19_22, Option.bind_some, Option.bind_none, Option.toList_some, Option.toList_none, List.cons_append, List.nil_append, pNl_i, pNl_r, pNl_u, pNl_n, bI_0, bI_1, nn_or, or_nn, not_false_eq_true, not_true_eq_false, i1000, i1e0, true_or, or_true, Decidable.not_not, if_true, if_false, Bool.false_eq_true, Int32.zero_add, true_and, and_true, cg_1, h0, h1, ul hr]
theorem s_35 {p : Int32} : qRun 35 [.ref o, .int p] (cB M o s) = some (some (.int (p * s 1 1 / 1000)), cB M o s) := by
  refine qRun_of ?_ rfl
  rw [en_35]
  simp only [x_35_0, x_35_1, x_35_2, x_35_5, x_35_6, x_35_7, x_35_8, x_35_11, x_35_12, Option.bind_some, Option.bind_none, Option.toList_some, Option.toList_none, List.cons_append, List.nil_append, pNl_i, pNl_r, pNl_u, pNl_n, bI_0, bI_1, nn_or, or_nn, not_false_eq_true, not_true_eq_false, i1000, i1e0, true_or, or_true, Decidable.not_not, if_true, if_false, Bool.false_eq_true, Int32.zero_add, true_and, and_true, cg_0, tl (i := 1) (x := 1) (by omega) rfl]
end CE
