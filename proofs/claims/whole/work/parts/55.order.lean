/-! the class: numbers and orders on the pad -/
section KQ
variable {M : qHp} {K : Nat → Sg} {d v x : Nat → Int32} {y : Nat → Nat} {P : Nat}
theorem px_up {d' : Nat → Int32} (hy : pxOK d x y P) (h : d' 2 = d 2) : pxOK d' x y P := ⟨hy.1, h.trans hy.2.1, hy.2.2⟩
/-- a number read, and a place -/
def nmD (d : Nat → Int32) (w q : Nat) : Nat → Int32 := up (up d 7 (nI w)) 3 (nI q)
theorem nm_2 {w q : Nat} : nmD d w q 2 = d 2 := (up_n (by omega)).trans (up_n (by omega))
theorem nm_3 {w q : Nat} : nmD d w q 3 = nI q := up_at
theorem nm_7 {w q : Nat} : nmD d w q 7 = nI w := (up_n (by omega)).trans up_at
theorem nm_u {w q w' q' : Nat} : up (up (nmD d w q) 7 (nI w')) 3 (nI q') = nmD d w' q' := by
  funext j
  unfold nmD up
  by_cases j3 : j = 3
  · simp [j3]
  · by_cases j7 : j = 7
    · simp [j7]
    · simp [j3, j7]
theorem s_55 {p : Nat} (hy : pxOK d x y P) (hp : d 3 = nI p) (h80 : p ≤ P) : qRun 55 [.ref 513] (kW M K d v x) = some (some (.int (bB (nuP y P p).1)), kW M K (nmD d (nuP y P p).2.1 (nuP y P p).2.2) v x) := by
  have hP := hy.1
  have dig : ∀ w q, q ≤ 84 → qRun 56 [.ref 513] (kW M K (nmD d w q) v x) = some (some (.int (if inB y P q 48 57 = true then nI (y q - 48) else -6)), kW M K (nmD d w q) v x) := fun w q hq => @s_56 M K (nmD d w q) v x y P q (px_up hy nm_2) nm_3 hq
  have fin : ∀ (w q : Nat) (l2 : Option Value), q ≤ 84 → qEx 55 (66, [some (.ref 513), some (.int (nI p)), l2], [], kW M K (nmD d w q) v x) = some (some (.int (bB (decide (p < q)))), kW M K (nmD d w q) v x) := by
    intro w q l2 hq
    by_cases c : p < q
    · have e : (nI q ≤ nI p) = False := eq_false (by rw [nI_le_iff (by omega) (by omega)]; omega)
      rw [decide_eq_true c]
      simp only [x_55_0, x_55_1, x_55_4, x_55_5, x_55_6, x_55_7, x_55_10, x_55_11, x_55_13, x_55_14, x_55_17, x_55_18, x_55_21, x_55_24, x_55_25, x_55_27, x_55_28, x_55_31, x_55_32, x_55_33, x_55_36, x_55_37, x_55_40, x_55_41, x_55_42, x_55_45, x_55_46, x_55_47, x_55_50, x_55_51, x_55_54, x_55_57, x_55_60, x_55_63, x_55_66, x_55_67, x_55_70, x_55_71, x_55_74, x_55_75, x_55_78, x_55_79, Option.bind_some, Option.bind_none, Option.toList_some, Option.toList_none, List.cons_append, List.nil_append, pNl_i, pNl_r, pNl_u, pNl_n, bI_0, bI_1, nn_or, or_nn, not_false_eq_true, not_true_eq_false, i1000, i1e0, true_or, or_true, Decidable.not_not, if_true, if_false, Bool.false_eq_true, Int32.zero_add, true_and, and_true, kq_2, nm_3, e, bB_t]
    · have e : (nI q ≤ nI p) = True := eq_true (by rw [nI_le_iff (by omega) (by omega)]; omega)
      rw [decide_eq_false c]
      simp only [x_55_0, x_55_1, x_55_4, x_55_5, x_55_6, x_55_7, x_55_10, x_55_11, x_55_13, x_55_14, x_55_17, x_55_18, x_55_21, x_55_24, x_55_25, x_55_27, x_55_28, x_55_31, x_55_32, x_55_33, x_55_36, x_55_37, x_55_40, x_55_41, x_55_42, x_55_45, x_55_46, x_55_47, x_55_50, x_55_51, x_55_54, x_55_57, x_55_60, x_55_63, x_55_66, x_55_67, x_55_70, x_55_71, x_55_74, x_55_75, x_55_78, x_55_79, Option.bind_some, Option.bind_none, Option.toList_some, Option.toList_none, List.cons_append, List.nil_append, pNl_i, pNl_r, pNl_u, pNl_n, bI_0, bI_1, nn_or, or_nn, not_false_eq_true, not_true_eq_false, i1000, i1e0, true_or, or_true, Decidable.not_not, if_true, if_false, Bool.false_eq_true, Int32.zero_add, true_and, and_true, kq_2, nm_3, e, bB_f]
  have stop : ∀ (w q i : Nat), q ≤ 84 → i < 4 → inB y P q 48 57 = false → qEx 55 (12, [some (.ref 513), some (.int (nI p)), some (.int (nI i))], [], kW M K (nmD d w q) v x) = some (some (.int (bB (decide (p < q)))), kW M K (nmD d w q) v x) := by
    intro w q i hq hi h
    have hd := dig w q hq
    rw [if_neg (by rw [h]; simp)] at hd
    have e4 : ((4 : Int32) ≤ nI i) = False := eq_false (by rw [show (4 : Int32) = nI 4 from rfl, nI_le_iff (by omega) (by omega)]; omega)
    have e6 : ((-6 : Int32) < 0) = True := eq_true (by decide)
    rw [x_55_12]
    simp only [x_55_0, x_55_1, x_55_4, x_55_5, x_55_6, x_55_7, x_55_10, x_55_11, x_55_13, x_55_14, x_55_17, x_55_18, x_55_21, x_55_24, x_55_25, x_55_27, x_55_28, x_55_31, x_55_32, x_55_33, x_55_36, x_55_37, x_55_40, x_55_41, x_55_42, x_55_45, x_55_46, x_55_47, x_55_50, x_55_51, x_55_54, x_55_57, x_55_60, x_55_63, x_55_67, x_55_70, x_55_71, x_55_74, x_55_75, x_55_78, x_55_79, Option.bind_some, Option.bind_none, Option.toList_some, Option.toList_none, List.cons_append, List.nil_append, pNl_i, pNl_r, pNl_u, pNl_n, bI_0, bI_1, nn_or, or_nn, not_false_eq_true, not_true_eq_false, i1000, i1e0, true_or, or_true, Decidable.not_not, if_true, if_false, Bool.false_eq_true, Int32.zero_add, true_and, and_true, kTp, e4, hd, e6]
    exact fin w q _ hq
  have full : ∀ (w q : Nat), q ≤ 84 → qEx 55 (12, [some (.ref 513), some (.int (nI p)), some (.int (nI 4))], [], kW M K (nmD d w q) v x) = some (some (.int (bB (decide (p < q)))), kW M K (nmD d w q) v x) := by
    intro w q hq
    have e4 : ((4 : Int32) ≤ nI 4) = True := eq_true (by decide)
    rw [x_55_12]
    simp only [x_55_0, x_55_1, x_55_4, x_55_5, x_55_6, x_55_7, x_55_10, x_55_11, x_55_13, x_55_14, x_55_17, x_55_18, x_55_21, x_55_24, x_55_25, x_55_27, x_55_28, x_55_31, x_55_32, x_55_33, x_55_36, x_55_37, x_55_40, x_55_41, x_55_42, x_55_45, x_55_46, x_55_47, x_55_50, x_55_51, x_55_54, x_55_57, x_55_60, x_55_63, x_55_67, x_55_70, x_55_71, x_55_74, x_55_75, x_55_78, x_55_79, Option.bind_some, Option.bind_none, Option.toList_some, Option.toList_none, List.cons_append, List.nil_append, pNl_i, pNl_r, pNl_u, pNl_n, bI_0, bI_1, nn_or, or_nn, not_false_eq_true, not_true_eq_false, i1000, i1e0, true_or, or_true, Decidable.not_not, if_true, if_false, Bool.false_eq_true, Int32.zero_add, true_and, and_true, e4]
    exact fin w q _ hq
  have step : ∀ (w q i : Nat), q ≤ 83 → i < 4 → w < 1000 → inB y P q 48 57 = true → qEx 55 (12, [some (.ref 513), some (.int (nI p)), some (.int (nI i))], [], kW M K (nmD d w q) v x) = if 10 * w + (y q - 48) = 0 then qEx 55 (66, [some (.ref 513), some (.int (nI p)), some (.int (nI i))], [], kW M K (nmD d (10 * w + (y q - 48)) (q + 1)) v x) else qEx 55 (12, [some (.ref 513), some (.int (nI p)), some (.int (nI (i + 1)))], [], kW M K (nmD d (10 * w + (y q - 48)) (q + 1)) v x) := by
    intro w q i hq hi hw h
    have hd := dig w q (by omega)
    rw [if_pos h] at hd
    have h3 := (inB_t (y := y)).mp h
    have e4 : ((4 : Int32) ≤ nI i) = False := eq_false (by rw [show (4 : Int32) = nI 4 from rfl, nI_le_iff (by omega) (by omega)]; omega)
    have e6 : (nI (y q - 48) < 0) = False := eq_false (nI_pos (by omega))
    have e10 : (10 * nI w + nI (y q - 48) : Int32) = nI (10 * w + (y q - 48)) := by rw [show (10 * nI w : Int32) = nI 10 * nI w from rfl, pk_mul, nI_add]
    have u7 : ∀ w', up (nmD d w q) 7 (nI w') 3 = nI q := fun w' => (up_n (by omega)).trans nm_3
    have e0 : (nI (10 * w + (y q - 48)) = 0) = (10 * w + (y q - 48) = 0) := by rw [show (0 : Int32) = nI 0 from rfl, nI_eq_iff (by omega) (by omega)]
    rw [x_55_12]
    by_cases c : 10 * w + (y q - 48) = 0
    · rw [if_pos c]
      have c' := eq_true c
      simp only [x_55_0, x_55_1, x_55_4, x_55_5, x_55_6, x_55_7, x_55_10, x_55_11, x_55_13, x_55_14, x_55_17, x_55_18, x_55_21, x_55_24, x_55_25, x_55_27, x_55_28, x_55_31, x_55_32, x_55_33, x_55_36, x_55_37, x_55_40, x_55_41, x_55_42, x_55_45, x_55_46, x_55_47, x_55_50, x_55_51, x_55_54, x_55_57, x_55_60, x_55_63, x_55_67, x_55_70, x_55_71, x_55_74, x_55_75, x_55_78, x_55_79, Option.bind_some, Option.bind_none, Option.toList_some, Option.toList_none, List.cons_append, List.nil_append, pNl_i, pNl_r, pNl_u, pNl_n, bI_0, bI_1, nn_or, or_nn, not_false_eq_true, not_true_eq_false, i1000, i1e0, true_or, or_true, Decidable.not_not, if_true, if_false, Bool.false_eq_true, Int32.zero_add, true_and, and_true, kTp, e4, hd, e6, kq_6, kq_2, kw_6, kw_2, nm_7, e10, u7, nI_1, nm_u, e0, c']
    · rw [if_neg c]
      simp only [x_55_0, x_55_1, x_55_4, x_55_5, x_55_6, x_55_7, x_55_10, x_55_11, x_55_13, x_55_14, x_55_17, x_55_18, x_55_21, x_55_24, x_55_25, x_55_27, x_55_28, x_55_31, x_55_32, x_55_33, x_55_36, x_55_37, x_55_40, x_55_41, x_55_42, x_55_45, x_55_46, x_55_47, x_55_50, x_55_51, x_55_54, x_55_57, x_55_60, x_55_63, x_55_67, x_55_70, x_55_71, x_55_74, x_55_75, x_55_78, x_55_79, Option.bind_some, Option.bind_none, Option.toList_some, Option.toList_none, List.cons_append, List.nil_append, pNl_i, pNl_r, pNl_u, pNl_n, bI_0, bI_1, nn_or, or_nn, not_false_eq_true, not_true_eq_false, i1000, i1e0, true_or, or_true, Decidable.not_not, if_true, if_false, Bool.false_eq_true, Int32.zero_add, true_and, and_true, kTp, e4, hd, e6, kq_6, kq_2, kw_6, kw_2, nm_7, e10, u7, nI_1, nm_u, e0, c]
  have u0 : up d 7 0 = nmD d 0 p := by
    funext j
    unfold nmD up
    by_cases j3 : j = 3
    · subst j3; simp [hp]
    · simp only [j3, if_false]; rfl
  refine qRun_of ?_ rfl
  rw [en_55]
  have start : qEx 55 (0, [some (.ref 513), none, none], [], kW M K d v x) = qEx 55 (12, [some (.ref 513), some (.int (nI p)), some (.int (nI 0))], [], kW M K (nmD d 0 p) v x) := by
    simp only [x_55_0, x_55_1, x_55_4, x_55_5, x_55_6, x_55_7, x_55_10, x_55_11, x_55_13, x_55_14, x_55_17, x_55_18, x_55_21, x_55_24, x_55_25, x_55_27, x_55_28, x_55_31, x_55_32, x_55_33, x_55_36, x_55_37, x_55_40, x_55_41, x_55_42, x_55_45, x_55_46, x_55_47, x_55_50, x_55_51, x_55_54, x_55_57, x_55_60, x_55_63, x_55_67, x_55_70, x_55_71, x_55_74, x_55_75, x_55_78, x_55_79, Option.bind_some, Option.bind_none, Option.toList_some, Option.toList_none, List.cons_append, List.nil_append, pNl_i, pNl_r, pNl_u, pNl_n, bI_0, bI_1, nn_or, or_nn, not_false_eq_true, not_true_eq_false, i1000, i1e0, true_or, or_true, Decidable.not_not, if_true, if_false, Bool.false_eq_true, Int32.zero_add, true_and, and_true, kq_2, kw_6, hp, u0]
    rfl
  rw [start]
  have dt : ∀ k, decide (p < p + (k + 1)) = true := fun k => decide_eq_true (by omega)
  unfold nuP
  cases e : inB y P p 48 57 with
  | false =>
    rw [stop 0 p 0 (by omega) (by omega) e]
    rw [show decide (p < p) = false from decide_eq_false (by omega)]
    simp only [if_true]
  | true =>
    have e2 : (true = false) = False := by simp
    have h3 := (inB_t (y := y)).mp e
    rw [step 0 p 0 (by omega) (by omega) (by omega) e]
    simp only [e2, if_false]
    by_cases z : y p = 48
    · rw [if_pos (show 10 * 0 + (y p - 48) = 0 by omega), if_pos z, fin _ _ _ (by omega), dt 0, show 10 * 0 + (y p - 48) = 0 by omega]
    · rw [if_neg (show ¬ 10 * 0 + (y p - 48) = 0 by omega), if_neg z, show 10 * 0 + (y p - 48) = y p - 48 by omega]
      cases e1 : inB y P (p + 1) 48 57 with
      | false => rw [stop _ _ _ (by omega) (by omega) e1, dt 0]; simp only [if_true]
      | true =>
        have g1 := (inB_t (y := y)).mp e1
        simp only [e2, if_false]
        rw [step _ _ _ (by omega) (by omega) (by omega) e1, if_neg (by omega)]
        cases e5 : inB y P (p + 2) 48 57 with
        | false => rw [stop _ _ _ (by omega) (by omega) e5, dt 1]; simp only [if_true]
        | true =>
          have g2 := (inB_t (y := y)).mp e5
          simp only [e2, if_false]
          rw [step _ _ _ (by omega) (by omega) (by omega) e5, if_neg (by omega)]
          cases e6 : inB y P (p + 3) 48 57 with
          | false => rw [stop _ _ _ (by omega) (by omega) e6, dt 2]; simp only [if_true]
          | true =>
            have g3 := (inB_t (y := y)).mp e6
            simp only [e2, if_false]
            rw [step _ _ _ (by omega) (by omega) (by omega) e6, if_neg (by omega), full _ _ (by omega), dt 3]
theorem s_53 {p : Nat} (hy : pxOK d x y P) (hp : d 3 = nI p) (h80 : p ≤ P) : qRun 53 [.ref 513] (kW M K d v x) = some (some (.int (bB (nuP y P p).1)), kW M K (up (nmD d (nuP y P p).2.1 (nuP y P p).2.2) 5 (nI (nuP y P p).2.1)) v x) := by
  refine qRun_of ?_ rfl
  rw [en_53]
  have bc : bB (nuP y P p).1 = 0 ∨ bB (nuP y P p).1 = 1 := by cases (nuP y P p).1 <;> simp [bB]
  have a55 := @s_55 M K d v x y P p hy hp h80
  simp only [x_53_0, x_53_1, x_53_4, x_53_5, x_53_6, x_53_7, x_53_10, x_53_13, Option.bind_some, Option.bind_none, Option.toList_some, Option.toList_none, List.cons_append, List.nil_append, pNl_i, pNl_r, pNl_u, pNl_n, bI_0, bI_1, nn_or, or_nn, not_false_eq_true, not_true_eq_false, i1000, i1e0, true_or, or_true, Decidable.not_not, if_true, if_false, Bool.false_eq_true, Int32.zero_add, true_and, and_true, kTp, a55, kq_6, nm_7, kw_4]
  rw [x_53_14 bc]
/-- the numbers that an order leaves on the pad -/
def odR (d' : Nat → Int32) (u : Nat) (r : qO5) : Prop := r.1 = true → d' 4 = nI u ∧ (knP u = 3 → d' 5 = nI r.2.1 ∧ d' 6 = nI r.2.2.1 ∧ d' 7 = nI r.2.2.2.1) ∧ (knP u = 2 → d' 6 = nI r.2.1 ∧ d' 7 = nI r.2.2.1) ∧ (knP u = 1 → d' 7 = nI r.2.1)
def odK (d d' : Nat → Int32) : Prop := d' 0 = d 0 ∧ d' 1 = d 1 ∧ d' 2 = d 2
theorem sw_51 {u : Nat} {l0 : Option Value} {N : qHp} (hu : u < 256) : qEx 51 (12, [l0], [.int (nI u)], N) = if knP u = 3 then qEx 51 (100, [l0], [], N) else if knP u = 2 then qEx 51 (155, [l0], [], N) else if knP u = 1 then qEx 51 (194, [l0], [], N) else qEx 51 (209, [l0], [], N) := by
  rw [x_51_12]
  unfold knP
  by_cases h1 : u = 108
  · subst h1; simp (config := {decide := true}) only [if_true, if_false]
  by_cases h2 : u = 102
  · subst h2; simp (config := {decide := true}) only [if_true, if_false]
  by_cases h3 : u = 112
  · subst h3; simp (config := {decide := true}) only [if_true, if_false]
  by_cases h4 : u = 99
  · subst h4; simp (config := {decide := true}) only [if_true, if_false]
  by_cases h5 : u = 115
  · subst h5; simp (config := {decide := true}) only [if_true, if_false]
  by_cases h6 : u = 116
  · subst h6; simp (config := {decide := true}) only [if_true, if_false]
  have k1 : (nI u = 108) = False := eq_false (by rw [show (108 : Int32) = nI 108 from rfl, nI_eq_iff (by omega) (by omega)]; exact h1)
  have k2 : (nI u = 102) = False := eq_false (by rw [show (102 : Int32) = nI 102 from rfl, nI_eq_iff (by omega) (by omega)]; exact h2)
  have k3 : (nI u = 112) = False := eq_false (by rw [show (112 : Int32) = nI 112 from rfl, nI_eq_iff (by omega) (by omega)]; exact h3)
  have k4 : (nI u = 99) = False := eq_false (by rw [show (99 : Int32) = nI 99 from rfl, nI_eq_iff (by omega) (by omega)]; exact h4)
  have k5 : (nI u = 115) = False := eq_false (by rw [show (115 : Int32) = nI 115 from rfl, nI_eq_iff (by omega) (by omega)]; exact h5)
  have k6 : (nI u = 116) = False := eq_false (by rw [show (116 : Int32) = nI 116 from rfl, nI_eq_iff (by omega) (by omega)]; exact h6)
  simp only [k1, k2, k3, k4, k5, k6, h1, h2, h3, h4, h5, h6, if_false, ite_self, or_self]
  simp
theorem s_51 {p : Nat} (hy : pxOK d x y P) (hp : d 3 = nI p) (h80 : p ≤ P) : ∃ d', qRun 51 [.ref 513] (kW M K d v x) = some (some (.int (bB (orP y P p).1)), kW M K d' v x) ∧ odK d d' ∧ d' 3 = nI (orP y P p).2.2.2.2 ∧ odR d' (srP y P p) (orP y P p) := by
  have hP := hy.1
  have hu := sr_256 hy p
  have a57 := @s_57 M K d v x y P p hy hp (by omega)
  generalize hu' : srP y P p = u at *
  have hlt : knP u ≠ 0 → p < P := by
    intro h
    rcases Nat.lt_or_ge p P with q | q
    · exact q
    · unfold srP at hu'; rw [if_neg (by omega)] at hu'; subst hu'; exact absurd rfl h
  have a4 : up d 4 (nI u) 4 = nI u := up_at
  have start : qEx 51 (0, [some (.ref 513)], [], kW M K d v x) = qEx 51 (12, [some (.ref 513)], [.int (nI u)], kW M K (up d 4 (nI u)) v x) := by
    simp only [x_51_0, x_51_1, x_51_2, x_51_5, x_51_8, x_51_9, x_51_100, x_51_101, x_51_102, x_51_105, x_51_106, x_51_107, x_51_110, x_51_111, x_51_114, x_51_117, x_51_118, x_51_120, x_51_123, x_51_126, x_51_127, x_51_130, x_51_133, x_51_134, x_51_136, x_51_139, x_51_142, x_51_143, x_51_146, x_51_149, x_51_150, x_51_153, x_51_154, x_51_155, x_51_156, x_51_157, x_51_160, x_51_161, x_51_162, x_51_165, x_51_166, x_51_169, x_51_172, x_51_173, x_51_175, x_51_178, x_51_181, x_51_182, x_51_185, x_51_188, x_51_189, x_51_192, x_51_193, x_51_194, x_51_195, x_51_196, x_51_199, x_51_200, x_51_201, x_51_204, x_51_205, x_51_208, x_51_209, x_51_210, Option.bind_some, Option.bind_none, Option.toList_some, Option.toList_none, List.cons_append, List.nil_append, pNl_i, pNl_r, pNl_u, pNl_n, bI_0, bI_1, nn_or, or_nn, not_false_eq_true, not_true_eq_false, i1000, i1e0, true_or, or_true, Decidable.not_not, if_true, if_false, Bool.false_eq_true, Int32.zero_add, true_and, and_true, kTp, a57, kw_3 hu, kq_3, a4]
  generalize hd1 : up d 4 (nI u) = d1 at *
  have k1 : odK d d1 := by rw [← hd1]; exact ⟨up_n (by omega), up_n (by omega), up_n (by omega)⟩
  have hy1 : pxOK d1 x y P := px_up hy k1.2.2
  have hp1 : d1 3 = nI p := by rw [← hd1]; exact (up_n (by omega)).trans hp
  suffices h : ∃ d', qEx 51 (12, [some (.ref 513)], [.int (nI u)], kW M K d1 v x) = some (some (.int (bB (orP y P p).1)), kW M K d' v x) ∧ odK d d' ∧ d' 3 = nI (orP y P p).2.2.2.2 ∧ odR d' u (orP y P p) by
    obtain ⟨d', h1, h2⟩ := h
    refine ⟨d', ?_, h2⟩
    refine qRun_of ?_ rfl
    rw [en_51, start, h1]
  rw [sw_51 hu]
  unfold orP
  rw [hu']
  have bad : ∀ (r : qO5) (d' : Nat → Int32), r.1 = false → odR d' u r := fun r d' h q => absurd (h.symm.trans q) (by simp)
  have tf : (true = false) = False := by simp
  have hpp : up d1 3 (nI (p + 1)) 3 = nI (p + 1) := up_at
  have keep : ∀ (e e' : Nat → Int32), odK d e → e' 0 = e 0 → e' 1 = e 1 → e' 2 = e 2 → odK d e' := fun e e' h a b c => ⟨a.trans h.1, b.trans h.2.1, c.trans h.2.2⟩
  have num : ∀ (e : Nat → Int32) (q : Nat), odK d e → e 3 = nI q → q ≤ P → ∃ e', qRun 55 [.ref 513] (kW M K e v x) = some (some (.int (bB (nuP y P q).1)), kW M K e' v x) ∧ odK d e' ∧ e' 3 = nI (nuP y P q).2.2 ∧ e' 4 = e 4 ∧ e' 5 = e 5 ∧ e' 6 = e 6 ∧ e' 7 = nI (nuP y P q).2.1 := by
    intro e q he h3 hq
    exact ⟨_, s_55 (px_up hy he.2.2) h3 hq, keep e _ he ((up_n (by omega)).trans (up_n (by omega))) ((up_n (by omega)).trans (up_n (by omega))) nm_2, nm_3, (up_n (by omega)).trans (up_n (by omega)), (up_n (by omega)).trans (up_n (by omega)), (up_n (by omega)).trans (up_n (by omega)), nm_7⟩
  have pcs : ∀ (e : Nat → Int32) (q : Nat), odK d e → e 3 = nI q → q ≤ P → ∃ e', qRun 53 [.ref 513] (kW M K e v x) = some (some (.int (bB (nuP y P q).1)), kW M K e' v x) ∧ odK d e' ∧ e' 3 = nI (nuP y P q).2.2 ∧ e' 4 = e 4 ∧ e' 5 = nI (nuP y P q).2.1 := by
    intro e q he h3 hq
    exact ⟨_, s_53 (px_up hy he.2.2) h3 hq, keep e _ he ((up_n (by omega)).trans ((up_n (by omega)).trans (up_n (by omega)))) ((up_n (by omega)).trans ((up_n (by omega)).trans (up_n (by omega)))) ((up_n (by omega)).trans nm_2), (up_n (by omega)).trans nm_3, (up_n (by omega)).trans ((up_n (by omega)).trans (up_n (by omega))), up_at⟩
  have sig : ∀ (e : Nat → Int32) (q ch : Nat), odK d e → e 3 = nI q → q ≤ P → 0 < ch ∧ ch < 256 → ∃ e', qRun 52 [.ref 513, .int (nI ch)] (kW M K e v x) = some (some (.int (bB (sgP y P ch q).1)), kW M K e' v x) ∧ odK d e' ∧ e' 3 = nI (sgP y P ch q).2 ∧ e' 4 = e 4 ∧ e' 5 = e 5 ∧ e' 6 = e 6 := by
    intro e q ch he h3 hq hc
    exact ⟨_, s_52 (px_up hy he.2.2) h3 (by omega) hc, keep e _ he (up_n (by omega)) (up_n (by omega)) (up_n (by omega)), up_at, up_n (by omega), up_n (by omega), up_n (by omega)⟩
  have rou : ∀ (e : Nat → Int32) (q : Nat), odK d e → e 3 = nI q → q ≤ P → ∃ e', qRun 54 [.ref 513] (kW M K e v x) = some (some (.int (bB (dgP y P q).1)), kW M K e' v x) ∧ odK d e' ∧ e' 3 = nI (dgP y P q).2.2 ∧ e' 4 = e 4 ∧ e' 5 = e 5 ∧ ((dgP y P q).1 = true → e' 6 = nI (dgP y P q).2.1) := by
    intro e q he h3 hq
    refine ⟨_, s_54 (px_up hy he.2.2) h3 (by omega), ?_⟩
    by_cases c : (dgP y P q).1 = false
    · rw [if_pos c]
      have e3 : (dgP y P q).2.2 = q := by
        unfold dgP at c ⊢
        split
        · rfl
        · rename_i z; rw [if_neg z] at c; exact absurd c (by simp)
      exact ⟨he, by rw [e3]; exact h3, rfl, rfl, fun z => absurd (c.symm.trans z) (by simp)⟩
    · rw [if_neg c]
      exact ⟨keep e _ he ((up_n (by omega)).trans (up_n (by omega))) ((up_n (by omega)).trans (up_n (by omega))) ((up_n (by omega)).trans (up_n (by omega))), up_at, (up_n (by omega)).trans (up_n (by omega)), (up_n (by omega)).trans (up_n (by omega)), fun _ => (up_n (by omega)).trans up_at⟩
  have kp1 : odK d (up d1 3 (nI (p + 1))) := keep d1 _ k1 (up_n (by omega)) (up_n (by omega)) (up_n (by omega))
  have d14 : d1 4 = nI u := a4
  have p14 : up d1 3 (nI (p + 1)) 4 = nI u := (up_n (by omega)).trans d14
  have X : True := trivial
  by_cases k3 : knP u = 3
  · rw [if_pos k3, if_pos k3]
    unfold o3P
    dsimp only
    have hlt2 := hlt (by omega)
    have b1 := @nu_le y P (p + 1) (by omega)
    obtain ⟨e1, t1, o1, q1, f14, f15⟩ := pcs (up d1 3 (nI (p + 1))) (p + 1) kp1 hpp (by omega)
    by_cases c1 : (nuP y P (p + 1)).1 = false
    · rw [c1] at t1
      simp only [c1, if_true, tf, if_false]
      refine ⟨e1, ?_, o1, q1, bad _ _ rfl⟩
      simp only [x_51_0, x_51_1, x_51_2, x_51_5, x_51_8, x_51_9, x_51_100, x_51_101, x_51_102, x_51_105, x_51_106, x_51_107, x_51_110, x_51_111, x_51_114, x_51_117, x_51_118, x_51_120, x_51_123, x_51_126, x_51_127, x_51_130, x_51_133, x_51_134, x_51_136, x_51_139, x_51_142, x_51_143, x_51_146, x_51_149, x_51_150, x_51_153, x_51_154, x_51_155, x_51_156, x_51_157, x_51_160, x_51_161, x_51_162, x_51_165, x_51_166, x_51_169, x_51_172, x_51_173, x_51_175, x_51_178, x_51_181, x_51_182, x_51_185, x_51_188, x_51_189, x_51_192, x_51_193, x_51_194, x_51_195, x_51_196, x_51_199, x_51_200, x_51_201, x_51_204, x_51_205, x_51_208, x_51_209, x_51_210, Option.bind_some, Option.bind_none, Option.toList_some, Option.toList_none, List.cons_append, List.nil_append, pNl_i, pNl_r, pNl_u, pNl_n, bI_0, bI_1, nn_or, or_nn, not_false_eq_true, not_true_eq_false, i1000, i1e0, true_or, or_true, Decidable.not_not, if_true, if_false, Bool.false_eq_true, Int32.zero_add, true_and, and_true, kTp, kq_2, kw_2, hp1, nI_1, t1, bB_t, bB_f]
    replace c1 : (nuP y P (p + 1)).1 = true := by simpa using c1
    rw [c1] at t1
    have b2 := @sg_le y P 62 (nuP y P (p + 1)).2.2 (by omega)
    obtain ⟨e2, t2, o2, q2, f24, f25, f26⟩ := sig e1 (nuP y P (p + 1)).2.2 62 o1 q1 (by omega) (by omega)
    rw [show nI 62 = 62 from rfl] at t2
    by_cases c2 : (sgP y P 62 (nuP y P (p + 1)).2.2).1 = false
    · rw [c2] at t2
      simp only [c1, c2, if_true, tf, if_false]
      refine ⟨e2, ?_, o2, q2, bad _ _ rfl⟩
      simp only [x_51_0, x_51_1, x_51_2, x_51_5, x_51_8, x_51_9, x_51_100, x_51_101, x_51_102, x_51_105, x_51_106, x_51_107, x_51_110, x_51_111, x_51_114, x_51_117, x_51_118, x_51_120, x_51_123, x_51_126, x_51_127, x_51_130, x_51_133, x_51_134, x_51_136, x_51_139, x_51_142, x_51_143, x_51_146, x_51_149, x_51_150, x_51_153, x_51_154, x_51_155, x_51_156, x_51_157, x_51_160, x_51_161, x_51_162, x_51_165, x_51_166, x_51_169, x_51_172, x_51_173, x_51_175, x_51_178, x_51_181, x_51_182, x_51_185, x_51_188, x_51_189, x_51_192, x_51_193, x_51_194, x_51_195, x_51_196, x_51_199, x_51_200, x_51_201, x_51_204, x_51_205, x_51_208, x_51_209, x_51_210, Option.bind_some, Option.bind_none, Option.toList_some, Option.toList_none, List.cons_append, List.nil_append, pNl_i, pNl_r, pNl_u, pNl_n, bI_0, bI_1, nn_or, or_nn, not_false_eq_true, not_true_eq_false, i1000, i1e0, true_or, or_true, Decidable.not_not, if_true, if_false, Bool.false_eq_true, Int32.zero_add, true_and, and_true, kTp, kq_2, kw_2, hp1, nI_1, t1, t2, bB_t, bB_f]
    replace c2 : (sgP y P 62 (nuP y P (p + 1)).2.2).1 = true := by simpa using c2
    rw [c2] at t2
    have b3 := @dg_le y P (sgP y P 62 (nuP y P (p + 1)).2.2).2 (by omega)
    obtain ⟨e3, t3, o3, q3, f34, f35, f36⟩ := rou e2 (sgP y P 62 (nuP y P (p + 1)).2.2).2 o2 q2 (by omega)
    by_cases c3 : (dgP y P (sgP y P 62 (nuP y P (p + 1)).2.2).2).1 = false
    · rw [c3] at t3
      simp only [c1, c2, c3, if_true, tf, if_false]
      refine ⟨e3, ?_, o3, q3, bad _ _ rfl⟩
      simp only [x_51_0, x_51_1, x_51_2, x_51_5, x_51_8, x_51_9, x_51_100, x_51_101, x_51_102, x_51_105, x_51_106, x_51_107, x_51_110, x_51_111, x_51_114, x_51_117, x_51_118, x_51_120, x_51_123, x_51_126, x_51_127, x_51_130, x_51_133, x_51_134, x_51_136, x_51_139, x_51_142, x_51_143, x_51_146, x_51_149, x_51_150, x_51_153, x_51_154, x_51_155, x_51_156, x_51_157, x_51_160, x_51_161, x_51_162, x_51_165, x_51_166, x_51_169, x_51_172, x_51_173, x_51_175, x_51_178, x_51_181, x_51_182, x_51_185, x_51_188, x_51_189, x_51_192, x_51_193, x_51_194, x_51_195, x_51_196, x_51_199, x_51_200, x_51_201, x_51_204, x_51_205, x_51_208, x_51_209, x_51_210, Option.bind_some, Option.bind_none, Option.toList_some, Option.toList_none, List.cons_append, List.nil_append, pNl_i, pNl_r, pNl_u, pNl_n, bI_0, bI_1, nn_or, or_nn, not_false_eq_true, not_true_eq_false, i1000, i1e0, true_or, or_true, Decidable.not_not, if_true, if_false, Bool.false_eq_true, Int32.zero_add, true_and, and_true, kTp, kq_2, kw_2, hp1, nI_1, t1, t2, t3, bB_t, bB_f]
    replace c3 : (dgP y P (sgP y P 62 (nuP y P (p + 1)).2.2).2).1 = true := by simpa using c3
    rw [c3] at t3
    have b4 := @sg_le y P 64 (dgP y P (sgP y P 62 (nuP y P (p + 1)).2.2).2).2.2 (by omega)
    obtain ⟨e4, t4, o4, q4, f44, f45, f46⟩ := sig e3 (dgP y P (sgP y P 62 (nuP y P (p + 1)).2.2).2).2.2 64 o3 q3 (by omega) (by omega)
    rw [show nI 64 = 64 from rfl] at t4
    by_cases c4 : (sgP y P 64 (dgP y P (sgP y P 62 (nuP y P (p + 1)).2.2).2).2.2).1 = false
    · rw [c4] at t4
      simp only [c1, c2, c3, c4, if_true, tf, if_false]
      refine ⟨e4, ?_, o4, q4, bad _ _ rfl⟩
      simp only [x_51_0, x_51_1, x_51_2, x_51_5, x_51_8, x_51_9, x_51_100, x_51_101, x_51_102, x_51_105, x_51_106, x_51_107, x_51_110, x_51_111, x_51_114, x_51_117, x_51_118, x_51_120, x_51_123, x_51_126, x_51_127, x_51_130, x_51_133, x_51_134, x_51_136, x_51_139, x_51_142, x_51_143, x_51_146, x_51_149, x_51_150, x_51_153, x_51_154, x_51_155, x_51_156, x_51_157, x_51_160, x_51_161, x_51_162, x_51_165, x_51_166, x_51_169, x_51_172, x_51_173, x_51_175, x_51_178, x_51_181, x_51_182, x_51_185, x_51_188, x_51_189, x_51_192, x_51_193, x_51_194, x_51_195, x_51_196, x_51_199, x_51_200, x_51_201, x_51_204, x_51_205, x_51_208, x_51_209, x_51_210, Option.bind_some, Option.bind_none, Option.toList_some, Option.toList_none, List.cons_append, List.nil_append, pNl_i, pNl_r, pNl_u, pNl_n, bI_0, bI_1, nn_or, or_nn, not_false_eq_true, not_true_eq_false, i1000, i1e0, true_or, or_true, Decidable.not_not, if_true, if_false, Bool.false_eq_true, Int32.zero_add, true_and, and_true, kTp, kq_2, kw_2, hp1, nI_1, t1, t2, t3, t4, bB_t, bB_f]
    replace c4 : (sgP y P 64 (dgP y P (sgP y P 62 (nuP y P (p + 1)).2.2).2).2.2).1 = true := by simpa using c4
    rw [c4] at t4
    have b5 := @nu_le y P (sgP y P 64 (dgP y P (sgP y P 62 (nuP y P (p + 1)).2.2).2).2.2).2 (by omega)
    obtain ⟨e5, t5, o5, q5, f54, f55, f56, f57⟩ := num e4 (sgP y P 64 (dgP y P (sgP y P 62 (nuP y P (p + 1)).2.2).2).2.2).2 o4 q4 (by omega)
    by_cases c5 : (nuP y P (sgP y P 64 (dgP y P (sgP y P 62 (nuP y P (p + 1)).2.2).2).2.2).2).1 = false
    · rw [c5] at t5
      simp only [c1, c2, c3, c4, c5, if_true, tf, if_false]
      refine ⟨e5, ?_, o5, q5, bad _ _ rfl⟩
      simp only [x_51_0, x_51_1, x_51_2, x_51_5, x_51_8, x_51_9, x_51_100, x_51_101, x_51_102, x_51_105, x_51_106, x_51_107, x_51_110, x_51_111, x_51_114, x_51_117, x_51_118, x_51_120, x_51_123, x_51_126, x_51_127, x_51_130, x_51_133, x_51_134, x_51_136, x_51_139, x_51_142, x_51_143, x_51_146, x_51_149, x_51_150, x_51_153, x_51_154, x_51_155, x_51_156, x_51_157, x_51_160, x_51_161, x_51_162, x_51_165, x_51_166, x_51_169, x_51_172, x_51_173, x_51_175, x_51_178, x_51_181, x_51_182, x_51_185, x_51_188, x_51_189, x_51_192, x_51_193, x_51_194, x_51_195, x_51_196, x_51_199, x_51_200, x_51_201, x_51_204, x_51_205, x_51_208, x_51_209, x_51_210, Option.bind_some, Option.bind_none, Option.toList_some, Option.toList_none, List.cons_append, List.nil_append, pNl_i, pNl_r, pNl_u, pNl_n, bI_0, bI_1, nn_or, or_nn, not_false_eq_true, not_true_eq_false, i1000, i1e0, true_or, or_true, Decidable.not_not, if_true, if_false, Bool.false_eq_true, Int32.zero_add, true_and, and_true, kTp, kq_2, kw_2, hp1, nI_1, t1, t2, t3, t4, t5, bB_t, bB_f]
    replace c5 : (nuP y P (sgP y P 64 (dgP y P (sgP y P 62 (nuP y P (p + 1)).2.2).2).2.2).2).1 = true := by simpa using c5
    rw [c5] at t5
    simp only [c1, c2, c3, c4, c5, tf, if_false]
    refine ⟨e5, ?_, o5, q5, fun _ => ⟨?_, fun z => ?_, fun z => ?_, fun z => ?_⟩⟩
    · simp only [x_51_0, x_51_1, x_51_2, x_51_5, x_51_8, x_51_9, x_51_100, x_51_101, x_51_102, x_51_105, x_51_106, x_51_107, x_51_110, x_51_111, x_51_114, x_51_117, x_51_118, x_51_120, x_51_123, x_51_126, x_51_127, x_51_130, x_51_133, x_51_134, x_51_136, x_51_139, x_51_142, x_51_143, x_51_146, x_51_149, x_51_150, x_51_153, x_51_154, x_51_155, x_51_156, x_51_157, x_51_160, x_51_161, x_51_162, x_51_165, x_51_166, x_51_169, x_51_172, x_51_173, x_51_175, x_51_178, x_51_181, x_51_182, x_51_185, x_51_188, x_51_189, x_51_192, x_51_193, x_51_194, x_51_195, x_51_196, x_51_199, x_51_200, x_51_201, x_51_204, x_51_205, x_51_208, x_51_209, x_51_210, Option.bind_some, Option.bind_none, Option.toList_some, Option.toList_none, List.cons_append, List.nil_append, pNl_i, pNl_r, pNl_u, pNl_n, bI_0, bI_1, nn_or, or_nn, not_false_eq_true, not_true_eq_false, i1000, i1e0, true_or, or_true, Decidable.not_not, if_true, if_false, Bool.false_eq_true, Int32.zero_add, true_and, and_true, kTp, kq_2, kw_2, hp1, nI_1, t1, t2, t3, t4, t5, bB_t]
    · rw [f54, f44, f34, f24, f14]; exact p14
    · exact ⟨by rw [f55, f45, f35, f25]; exact f15, by rw [f56, f46]; exact f36 c3, f57⟩
    · exact absurd z (by omega)
    · exact absurd z (by omega)
  rw [if_neg k3, if_neg k3]
  by_cases k2 : knP u = 2
  · rw [if_pos k2, if_pos k2]
    unfold o2P
    dsimp only
    have hlt2 := hlt (by omega)
    have b1 := @dg_le y P (p + 1) (by omega)
    obtain ⟨e1, t1, o1, q1, f14, f15, f16⟩ := rou (up d1 3 (nI (p + 1))) (p + 1) kp1 hpp (by omega)
    by_cases c1 : (dgP y P (p + 1)).1 = false
    · rw [c1] at t1
      simp only [c1, if_true, tf, if_false]
      refine ⟨e1, ?_, o1, q1, bad _ _ rfl⟩
      simp only [x_51_0, x_51_1, x_51_2, x_51_5, x_51_8, x_51_9, x_51_100, x_51_101, x_51_102, x_51_105, x_51_106, x_51_107, x_51_110, x_51_111, x_51_114, x_51_117, x_51_118, x_51_120, x_51_123, x_51_126, x_51_127, x_51_130, x_51_133, x_51_134, x_51_136, x_51_139, x_51_142, x_51_143, x_51_146, x_51_149, x_51_150, x_51_153, x_51_154, x_51_155, x_51_156, x_51_157, x_51_160, x_51_161, x_51_162, x_51_165, x_51_166, x_51_169, x_51_172, x_51_173, x_51_175, x_51_178, x_51_181, x_51_182, x_51_185, x_51_188, x_51_189, x_51_192, x_51_193, x_51_194, x_51_195, x_51_196, x_51_199, x_51_200, x_51_201, x_51_204, x_51_205, x_51_208, x_51_209, x_51_210, Option.bind_some, Option.bind_none, Option.toList_some, Option.toList_none, List.cons_append, List.nil_append, pNl_i, pNl_r, pNl_u, pNl_n, bI_0, bI_1, nn_or, or_nn, not_false_eq_true, not_true_eq_false, i1000, i1e0, true_or, or_true, Decidable.not_not, if_true, if_false, Bool.false_eq_true, Int32.zero_add, true_and, and_true, kTp, kq_2, kw_2, hp1, nI_1, t1, bB_t, bB_f]
    replace c1 : (dgP y P (p + 1)).1 = true := by simpa using c1
    rw [c1] at t1
    have b2 := @sg_le y P 61 (dgP y P (p + 1)).2.2 (by omega)
    obtain ⟨e2, t2, o2, q2, f24, f25, f26⟩ := sig e1 (dgP y P (p + 1)).2.2 61 o1 q1 (by omega) (by omega)
    rw [show nI 61 = 61 from rfl] at t2
    by_cases c2 : (sgP y P 61 (dgP y P (p + 1)).2.2).1 = false
    · rw [c2] at t2
      simp only [c1, c2, if_true, tf, if_false]
      refine ⟨e2, ?_, o2, q2, bad _ _ rfl⟩
      simp only [x_51_0, x_51_1, x_51_2, x_51_5, x_51_8, x_51_9, x_51_100, x_51_101, x_51_102, x_51_105, x_51_106, x_51_107, x_51_110, x_51_111, x_51_114, x_51_117, x_51_118, x_51_120, x_51_123, x_51_126, x_51_127, x_51_130, x_51_133, x_51_134, x_51_136, x_51_139, x_51_142, x_51_143, x_51_146, x_51_149, x_51_150, x_51_153, x_51_154, x_51_155, x_51_156, x_51_157, x_51_160, x_51_161, x_51_162, x_51_165, x_51_166, x_51_169, x_51_172, x_51_173, x_51_175, x_51_178, x_51_181, x_51_182, x_51_185, x_51_188, x_51_189, x_51_192, x_51_193, x_51_194, x_51_195, x_51_196, x_51_199, x_51_200, x_51_201, x_51_204, x_51_205, x_51_208, x_51_209, x_51_210, Option.bind_some, Option.bind_none, Option.toList_some, Option.toList_none, List.cons_append, List.nil_append, pNl_i, pNl_r, pNl_u, pNl_n, bI_0, bI_1, nn_or, or_nn, not_false_eq_true, not_true_eq_false, i1000, i1e0, true_or, or_true, Decidable.not_not, if_true, if_false, Bool.false_eq_true, Int32.zero_add, true_and, and_true, kTp, kq_2, kw_2, hp1, nI_1, t1, t2, bB_t, bB_f]
    replace c2 : (sgP y P 61 (dgP y P (p + 1)).2.2).1 = true := by simpa using c2
    rw [c2] at t2
    have b3 := @nu_le y P (sgP y P 61 (dgP y P (p + 1)).2.2).2 (by omega)
    obtain ⟨e3, t3, o3, q3, f34, f35, f36, f37⟩ := num e2 (sgP y P 61 (dgP y P (p + 1)).2.2).2 o2 q2 (by omega)
    by_cases c3 : (nuP y P (sgP y P 61 (dgP y P (p + 1)).2.2).2).1 = false
    · rw [c3] at t3
      simp only [c1, c2, c3, if_true, tf, if_false]
      refine ⟨e3, ?_, o3, q3, bad _ _ rfl⟩
      simp only [x_51_0, x_51_1, x_51_2, x_51_5, x_51_8, x_51_9, x_51_100, x_51_101, x_51_102, x_51_105, x_51_106, x_51_107, x_51_110, x_51_111, x_51_114, x_51_117, x_51_118, x_51_120, x_51_123, x_51_126, x_51_127, x_51_130, x_51_133, x_51_134, x_51_136, x_51_139, x_51_142, x_51_143, x_51_146, x_51_149, x_51_150, x_51_153, x_51_154, x_51_155, x_51_156, x_51_157, x_51_160, x_51_161, x_51_162, x_51_165, x_51_166, x_51_169, x_51_172, x_51_173, x_51_175, x_51_178, x_51_181, x_51_182, x_51_185, x_51_188, x_51_189, x_51_192, x_51_193, x_51_194, x_51_195, x_51_196, x_51_199, x_51_200, x_51_201, x_51_204, x_51_205, x_51_208, x_51_209, x_51_210, Option.bind_some, Option.bind_none, Option.toList_some, Option.toList_none, List.cons_append, List.nil_append, pNl_i, pNl_r, pNl_u, pNl_n, bI_0, bI_1, nn_or, or_nn, not_false_eq_true, not_true_eq_false, i1000, i1e0, true_or, or_true, Decidable.not_not, if_true, if_false, Bool.false_eq_true, Int32.zero_add, true_and, and_true, kTp, kq_2, kw_2, hp1, nI_1, t1, t2, t3, bB_t, bB_f]
    replace c3 : (nuP y P (sgP y P 61 (dgP y P (p + 1)).2.2).2).1 = true := by simpa using c3
    rw [c3] at t3
    simp only [c1, c2, c3, tf, if_false]
    refine ⟨e3, ?_, o3, q3, fun _ => ⟨?_, fun z => ?_, fun z => ?_, fun z => ?_⟩⟩
    · simp only [x_51_0, x_51_1, x_51_2, x_51_5, x_51_8, x_51_9, x_51_100, x_51_101, x_51_102, x_51_105, x_51_106, x_51_107, x_51_110, x_51_111, x_51_114, x_51_117, x_51_118, x_51_120, x_51_123, x_51_126, x_51_127, x_51_130, x_51_133, x_51_134, x_51_136, x_51_139, x_51_142, x_51_143, x_51_146, x_51_149, x_51_150, x_51_153, x_51_154, x_51_155, x_51_156, x_51_157, x_51_160, x_51_161, x_51_162, x_51_165, x_51_166, x_51_169, x_51_172, x_51_173, x_51_175, x_51_178, x_51_181, x_51_182, x_51_185, x_51_188, x_51_189, x_51_192, x_51_193, x_51_194, x_51_195, x_51_196, x_51_199, x_51_200, x_51_201, x_51_204, x_51_205, x_51_208, x_51_209, x_51_210, Option.bind_some, Option.bind_none, Option.toList_some, Option.toList_none, List.cons_append, List.nil_append, pNl_i, pNl_r, pNl_u, pNl_n, bI_0, bI_1, nn_or, or_nn, not_false_eq_true, not_true_eq_false, i1000, i1e0, true_or, or_true, Decidable.not_not, if_true, if_false, Bool.false_eq_true, Int32.zero_add, true_and, and_true, kTp, kq_2, kw_2, hp1, nI_1, t1, t2, t3, bB_t]
    · rw [f34, f24, f14]; exact p14
    · exact absurd z (by omega)
    · exact ⟨by rw [f36, f26]; exact f16 c1, f37⟩
    · exact absurd z (by omega)
  rw [if_neg k2, if_neg k2]
  by_cases k1x : knP u = 1
  · rw [if_pos k1x, if_pos k1x]
    unfold o1P
    dsimp only
    have hlt2 := hlt (by omega)
    have b1 := @nu_le y P (p + 1) (by omega)
    obtain ⟨e1, t1, o1, q1, f14, f15, f16, f17⟩ := num (up d1 3 (nI (p + 1))) (p + 1) kp1 hpp (by omega)
    by_cases c1 : (nuP y P (p + 1)).1 = false
    · rw [c1] at t1
      simp only [c1, if_true, tf, if_false]
      refine ⟨e1, ?_, o1, q1, bad _ _ rfl⟩
      simp only [x_51_0, x_51_1, x_51_2, x_51_5, x_51_8, x_51_9, x_51_100, x_51_101, x_51_102, x_51_105, x_51_106, x_51_107, x_51_110, x_51_111, x_51_114, x_51_117, x_51_118, x_51_120, x_51_123, x_51_126, x_51_127, x_51_130, x_51_133, x_51_134, x_51_136, x_51_139, x_51_142, x_51_143, x_51_146, x_51_149, x_51_150, x_51_153, x_51_154, x_51_155, x_51_156, x_51_157, x_51_160, x_51_161, x_51_162, x_51_165, x_51_166, x_51_169, x_51_172, x_51_173, x_51_175, x_51_178, x_51_181, x_51_182, x_51_185, x_51_188, x_51_189, x_51_192, x_51_193, x_51_194, x_51_195, x_51_196, x_51_199, x_51_200, x_51_201, x_51_204, x_51_205, x_51_208, x_51_209, x_51_210, Option.bind_some, Option.bind_none, Option.toList_some, Option.toList_none, List.cons_append, List.nil_append, pNl_i, pNl_r, pNl_u, pNl_n, bI_0, bI_1, nn_or, or_nn, not_false_eq_true, not_true_eq_false, i1000, i1e0, true_or, or_true, Decidable.not_not, if_true, if_false, Bool.false_eq_true, Int32.zero_add, true_and, and_true, kTp, kq_2, kw_2, hp1, nI_1, t1, bB_t, bB_f]
    replace c1 : (nuP y P (p + 1)).1 = true := by simpa using c1
    rw [c1] at t1
    simp only [c1, tf, if_false]
    refine ⟨e1, ?_, o1, q1, fun _ => ⟨?_, fun z => ?_, fun z => ?_, fun z => ?_⟩⟩
    · simp only [x_51_0, x_51_1, x_51_2, x_51_5, x_51_8, x_51_9, x_51_100, x_51_101, x_51_102, x_51_105, x_51_106, x_51_107, x_51_110, x_51_111, x_51_114, x_51_117, x_51_118, x_51_120, x_51_123, x_51_126, x_51_127, x_51_130, x_51_133, x_51_134, x_51_136, x_51_139, x_51_142, x_51_143, x_51_146, x_51_149, x_51_150, x_51_153, x_51_154, x_51_155, x_51_156, x_51_157, x_51_160, x_51_161, x_51_162, x_51_165, x_51_166, x_51_169, x_51_172, x_51_173, x_51_175, x_51_178, x_51_181, x_51_182, x_51_185, x_51_188, x_51_189, x_51_192, x_51_193, x_51_194, x_51_195, x_51_196, x_51_199, x_51_200, x_51_201, x_51_204, x_51_205, x_51_208, x_51_209, x_51_210, Option.bind_some, Option.bind_none, Option.toList_some, Option.toList_none, List.cons_append, List.nil_append, pNl_i, pNl_r, pNl_u, pNl_n, bI_0, bI_1, nn_or, or_nn, not_false_eq_true, not_true_eq_false, i1000, i1e0, true_or, or_true, Decidable.not_not, if_true, if_false, Bool.false_eq_true, Int32.zero_add, true_and, and_true, kTp, kq_2, kw_2, hp1, nI_1, t1, bB_t]
    · rw [f14]; exact p14
    · exact absurd z (by omega)
    · exact absurd z (by omega)
    · exact f17
  rw [if_neg k1x, if_neg k1x]
  refine ⟨d1, ?_, k1, hp1, bad _ _ rfl⟩
  simp only [x_51_0, x_51_1, x_51_2, x_51_5, x_51_8, x_51_9, x_51_100, x_51_101, x_51_102, x_51_105, x_51_106, x_51_107, x_51_110, x_51_111, x_51_114, x_51_117, x_51_118, x_51_120, x_51_123, x_51_126, x_51_127, x_51_130, x_51_133, x_51_134, x_51_136, x_51_139, x_51_142, x_51_143, x_51_146, x_51_149, x_51_150, x_51_153, x_51_154, x_51_155, x_51_156, x_51_157, x_51_160, x_51_161, x_51_162, x_51_165, x_51_166, x_51_169, x_51_172, x_51_173, x_51_175, x_51_178, x_51_181, x_51_182, x_51_185, x_51_188, x_51_189, x_51_192, x_51_193, x_51_194, x_51_195, x_51_196, x_51_199, x_51_200, x_51_201, x_51_204, x_51_205, x_51_208, x_51_209, x_51_210, Option.bind_some, Option.bind_none, Option.toList_some, Option.toList_none, List.cons_append, List.nil_append, pNl_i, pNl_r, pNl_u, pNl_n, bI_0, bI_1, nn_or, or_nn, not_false_eq_true, not_true_eq_false, i1000, i1e0, true_or, or_true, Decidable.not_not, if_true, if_false, Bool.false_eq_true, Int32.zero_add, true_and, and_true, bB_t, bB_f]
end KQ
