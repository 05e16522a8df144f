/-! the class: its constructor-/
section KF
variable {N : qHp} {S : Nat}
theorem s_63 (h1 : N.1 = (5, S)) (h2 : N.2 4 = some (6, [.null, .null, .null, .null, .null, .null])) (hs : stOK N) : ∃ N', qRun 63 [.ref 4] N = some (none, N') ∧ N' = kW N' (fun _ => iniS) (fun _ => 0) (fun _ => 0) (fun _ => 0) ∧ N'.1 = (627, S + 7768) ∧ ∀ q, q < 4 → N'.2 q = N.2 q := by
  have st : ∀ X : qHp, (∀ q, q < 4 → X.2 q = N.2 q) → stOK X := by
    intro X h
    unfold stOK
    rw [h 1 (by omega), h 2 (by omega), h 3 (by omega)]; exact hs
  obtain ⟨A1, r1, c1, n1, k1⟩ := @s_10n N 5 S h1 hs (by omega)
  generalize hB1 : hU A1 4 (6, [.ref 5, .null, .null, .null, .null, .null]) = B1
  have p1 : hP A1 4 6 0 (.object "LetterRuns$Centre") (.ref 5) = some B1 := by
    rw [hP_of (show A1.2 4 = some (6, [.null, .null, .null, .null, .null, .null]) from by rw [k1 4 (by omega)]; exact h2) (by simp) rfl, ← hB1]; rfl
  have m1 : ∀ q, q ≠ 4 → B1.2 q = A1.2 q := fun q hq => by rw [← hB1, hU_at, if_neg hq]
  have v1 : B1.2 4 = some (6, [.ref 5, .null, .null, .null, .null, .null]) := by rw [← hB1, hU_at, if_pos rfl]
  have w1 : B1.1 = (61, S + 697) := by rw [← hB1, hU_1, n1]
  obtain ⟨A2, r2, c2, n2x, k2⟩ := @s_10n B1 61 (S + 697) w1 (st B1 fun q hq => by rw [m1 q (by omega), k1 q (by omega)]) (by omega)
  generalize hB2 : hU A2 4 (6, [.ref 5, .ref 61, .null, .null, .null, .null]) = B2
  have p2 : hP A2 4 6 1 (.object "LetterRuns$Centre") (.ref 61) = some B2 := by
    rw [hP_of (show A2.2 4 = some (6, [.ref 5, .null, .null, .null, .null, .null]) from by rw [k2 4 (by omega)]; exact v1) (by simp) rfl, ← hB2]; rfl
  have m2 : ∀ q, q ≠ 4 → B2.2 q = A2.2 q := fun q hq => by rw [← hB2, hU_at, if_neg hq]
  have v2 : B2.2 4 = some (6, [.ref 5, .ref 61, .null, .null, .null, .null]) := by rw [← hB2, hU_at, if_pos rfl]
  have w2 : B2.1 = (117, S + 1394) := by rw [← hB2, hU_1, n2x]
  obtain ⟨B3, p3, w3, v3, x3, m3⟩ := @al_o B2 4 117 _ 13 6 2 (List.replicate ((2 : Int32).toNatClampNeg) .null) _ (.array (.object "LetterRuns$Centre")) w2 v2 (by omega) (by simp) rfl
  obtain ⟨B4, p4, w4, v4, x4, m4⟩ := @al_o B3 4 118 _ 9 6 3 (List.replicate ((2 : Int32).toNatClampNeg) (.int 0)) _ (.array .boolean) w3 v3 (by omega) (by simp) rfl
  have w4' : B4.1 = (119, S + 1398) := by rw [w4]; simp only [List.length_replicate]; rw [show (2 : Int32).toNatClampNeg = 2 from rfl]
  obtain ⟨u1, u2, u3⟩ := @hN_new B4 (2, qDf 2) _ _ w4'
  have k4 : ∀ q, q < 117 → q ≠ 4 → B4.2 q = A2.2 q := fun q h h' => by rw [m4 q h' (by omega), m3 q h' (by omega), m2 q h']
  have n4' : ∀ q, q < 4 → B4.2 q = N.2 q := fun q h => by rw [k4 q (by omega) (by omega), k2 q (by omega), m1 q (by omega), k1 q (by omega)]
  obtain ⟨A5, r5, w5, y5, z5, c5, k5⟩ := @s_37 (hN B4 (2, qDf 2)) 119 _ u1 u2 (st _ fun q hq => by rw [u3 q (by omega), n4' q hq]) (by omega)
  generalize hB5 : hU A5 4 (6, [.ref 5, .ref 61, .ref 117, .ref 118, .ref 119, .null]) = B5
  have p5 : hP A5 4 6 4 (.object "LetterRuns$History") (.ref 119) = some B5 := by
    rw [hP_of (show A5.2 4 = some (6, [.ref 5, .ref 61, .ref 117, .ref 118, .null, .null]) from by rw [k5 4 (by omega), u3 4 (by omega)]; exact v4) (by simp) rfl, ← hB5]; rfl
  have m5 : ∀ q, q ≠ 4 → B5.2 q = A5.2 q := fun q hq => by rw [← hB5, hU_at, if_neg hq]
  have v5 : B5.2 4 = some (6, [.ref 5, .ref 61, .ref 117, .ref 118, .ref 119, .null]) := by rw [← hB5, hU_at, if_pos rfl]
  have w5' : B5.1 = (513, S + 6287) := by rw [← hB5, hU_1, w5]; rfl
  obtain ⟨t1, t2, t3⟩ := @hN_new B5 (4, qDf 4) _ _ w5'
  obtain ⟨A6, r6, w6, y6, z6, k6⟩ := @s_46 (hN B5 (4, qDf 4)) 513 514 _ t1 t2 (by omega)
  generalize hB6 : hU A6 4 (6, [.ref 5, .ref 61, .ref 117, .ref 118, .ref 119, .ref 513]) = B6
  have p6 : hP A6 4 6 5 (.object "LetterRuns$Pad") (.ref 513) = some B6 := by
    rw [hP_of (show A6.2 4 = some (6, [.ref 5, .ref 61, .ref 117, .ref 118, .ref 119, .null]) from by rw [k6 4 (by omega) (by omega), t3 4 (by omega)]; exact v5) (by simp) rfl, ← hB6]; rfl
  have m6 : ∀ q, q ≠ 4 → B6.2 q = A6.2 q := fun q hq => by rw [← hB6, hU_at, if_neg hq]
  have v6 : B6.2 4 = some (6, [.ref 5, .ref 61, .ref 117, .ref 118, .ref 119, .ref 513]) := by rw [← hB6, hU_at, if_pos rfl]
  have w6' : B6.1 = (515, S + 6374) := by rw [← hB6, hU_1, w6]; rfl
  have k56 : ∀ q, q < 513 → q ≠ 4 → B6.2 q = A5.2 q := fun q h h' => by rw [m6 q h', k6 q (by omega) (by omega), t3 q (by omega), m5 q h']
  have k46 : ∀ q, q < 119 → q ≠ 4 → B6.2 q = B4.2 q := fun q h h' => by rw [k56 q (by omega) h', k5 q (by omega), u3 q (by omega)]
  obtain ⟨A7, r7, c7, n7, k7⟩ := @s_10n B6 515 _ w6' (st B6 fun q hq => by rw [k46 q (by omega) (by omega), n4' q hq]) (by omega)
  have l117 : B6.2 117 = some (13, nlR 0 515 2 0 56) := by rw [k46 117 (by omega) (by omega), m4 117 (by omega) (by omega), x3]; exact congrArg (fun l => some (13, l)) nlR_0
  have put : ∀ (X : qHp) (j : Nat), j < 2 → X.2 117 = some (13, nlR 0 515 2 j 56) → X = cB X (515 + 56 * j) iniS → hSA X 117 (nI j) (515 + 56 * j) = some (hU X 117 (13, nlR 0 515 2 (j + 1) 56)) := by
    intro X j hj h3 h4
    have yo := (congrArg (fun z => z.2 (515 + 56 * j)) h4).trans cb_0
    unfold hSA
    rw [h3, yo]
    simp only [Option.bind_some]
    rw [nI_clamp (by omega), if_pos ⟨rfl, nI_pos (by omega), by simp [nlR]; omega⟩]
    have := @nlR_s 0 515 2 j 56 hj
    rw [Nat.zero_add] at this
    rw [this]
  have s7 := put A7 0 (by omega) (by rw [k7 117 (by omega)]; exact l117) c7
  generalize hB7 : hU A7 117 (13, nlR 0 515 2 (0 + 1) 56) = B7 at s7
  have m7 : ∀ q, q ≠ 117 → B7.2 q = A7.2 q := fun q hq => by rw [← hB7, hU_at, if_neg hq]
  have w7' : B7.1 = (571, S + 7071) := by rw [← hB7, hU_1, n7]
  obtain ⟨A8, r8, c8, n8, k8⟩ := @s_10n B7 571 _ w7' (st B7 fun q hq => by rw [m7 q (by omega), k7 q (by omega), k46 q (by omega) (by omega), n4' q hq]) (by omega)
  have s8 := put A8 1 (by omega) (by rw [k8 117 (by omega), ← hB7, hU_at, if_pos rfl]) c8
  generalize hB8 : hU A8 117 (13, nlR 0 515 2 (1 + 1) 56) = B8 at s8
  have m8 : ∀ q, q ≠ 117 → B8.2 q = A8.2 q := fun q hq => by rw [← hB8, hU_at, if_neg hq]
  have w8' : B8.1 = (627, S + 7768) := by rw [← hB8, hU_1, n8]
  have g6 : ∀ q, q < 515 → q ≠ 117 → B8.2 q = B6.2 q := fun q h h' => by rw [m8 q h', k8 q (by omega), m7 q h', k7 q (by omega)]
  have g2 : ∀ q, q < 117 → q ≠ 4 → B8.2 q = A2.2 q := fun q h h' => by rw [g6 q (by omega) (by omega), k46 q (by omega) h', k4 q h h']
  have C0 : B8 = cB B8 5 iniS := cB_keep c1 fun q h h' => by rw [g2 q (by omega) (by omega), k2 q (by omega), m1 q (by omega)]
  have C1 : B8 = cB B8 61 iniS := cB_keep c2 fun q h h' => g2 q (by omega) (by omega)
  have CH : ∀ j, j < 7 → B8 = cB B8 (121 + 56 * j) iniS := fun j hj => cB_keep (c5 j hj) fun q h h' => by rw [g6 q (by omega) (by omega), k56 q (by omega) (by omega)]
  have C9 : B8 = cB B8 515 iniS := cB_keep c7 fun q h h' => by rw [m8 q (by omega), k8 q (by omega), m7 q (by omega)]
  have C10 : B8 = cB B8 571 iniS := cB_keep c8 fun q h h' => m8 q (by omega)
  have use : ∀ (o q : Nat), B8 = cB B8 o iniS → o ≤ q → q < o + 56 → B8.2 q = cbC o iniS (q - o) := by
    intro o q h h1 h2
    have := congrArg (fun z => z.2 q) h
    simp only [cB] at this
    rw [if_pos ⟨h1, h2⟩] at this
    exact this
  refine ⟨B8, ?_, ?_, w8', fun q hq => ?_⟩
  · refine qRun_of ?_ (by rw [w8', h1]; rfl)
    have i1 : N.1.1 = 5 := by rw [h1]
    have i2 : B1.1.1 = 61 := by rw [w1]
    have i5 : B4.1.1 = 119 := by rw [w4']
    have i6 : B5.1.1 = 513 := by rw [w5']
    have i7 : B6.1.1 = 515 := by rw [w6']
    have i8 : B7.1.1 = 571 := by rw [w7']
    rw [nl_0] at s7
    rw [nl_1] at s8
    have f4 : ∀ X : qHp, X.2 4 = some (6, [.ref 5, .ref 61, .ref 117, .ref 118, .ref 119, .ref 513]) → hG X 4 6 2 = some (.ref 117) := fun X h => hG_of h
    have f6 := f4 B6 v6
    have f7 := f4 B7 (by rw [m7 4 (by omega), k7 4 (by omega)]; exact v6)
    rw [en_63]
    rw [x_63_0, x_63_1, x_63_4, x_63_5, x_63_8, i1, x_63_9, r1, Option.bind_some]
    simp only [x_63_12, x_63_15, x_63_16, x_63_19, x_63_20, x_63_23, x_63_26, x_63_27, x_63_31, x_63_34, x_63_35, x_63_38, x_63_41, x_63_42, x_63_45, x_63_46, x_63_49, x_63_52, x_63_53, x_63_56, x_63_57, x_63_60, x_63_63, x_63_64, x_63_66, x_63_67, x_63_70, x_63_71, x_63_74, x_63_75, x_63_78, x_63_79, x_63_82, x_63_83, x_63_86, x_63_89, Option.bind_some, Option.bind_none, Option.toList_some, Option.toList_none, List.cons_append, List.nil_append, pNl_i, pNl_r, pNl_u, pNl_n, bI_0, bI_1, nn_or, or_nn, not_false_eq_true, not_true_eq_false, i1000, i1e0, true_or, or_true, Decidable.not_not, if_true, if_false, Bool.false_eq_true, Int32.zero_add, true_and, and_true, p1, i2, r2, p2]
    rw [x_63_28 (by decide), x_63_31, p3, Option.bind_some, x_63_34, x_63_35, x_63_36 (by decide), x_63_38, p4, Option.bind_some]
    simp only [x_63_12, x_63_15, x_63_16, x_63_19, x_63_20, x_63_23, x_63_26, x_63_27, x_63_31, x_63_34, x_63_35, x_63_38, x_63_41, x_63_42, x_63_45, x_63_46, x_63_49, x_63_52, x_63_53, x_63_56, x_63_57, x_63_60, x_63_63, x_63_64, x_63_66, x_63_67, x_63_70, x_63_71, x_63_74, x_63_75, x_63_78, x_63_79, x_63_82, x_63_83, x_63_86, x_63_89, Option.bind_some, Option.bind_none, Option.toList_some, Option.toList_none, List.cons_append, List.nil_append, pNl_i, pNl_r, pNl_u, pNl_n, bI_0, bI_1, nn_or, or_nn, not_false_eq_true, not_true_eq_false, i1000, i1e0, true_or, or_true, Decidable.not_not, if_true, if_false, Bool.false_eq_true, Int32.zero_add, true_and, and_true, i5, r5, p5, i6, r6, p6]
    have h20 : ((2 : Int32) ≤ 0) = False := eq_false (by decide)
    have h21 : ((2 : Int32) ≤ 1) = False := eq_false (by decide)
    have h22 : ((2 : Int32) ≤ 1 + 1) = True := eq_true (by decide)
    rw [x_63_65]
    simp only [x_63_12, x_63_15, x_63_16, x_63_19, x_63_20, x_63_23, x_63_26, x_63_27, x_63_31, x_63_34, x_63_35, x_63_38, x_63_41, x_63_42, x_63_45, x_63_46, x_63_49, x_63_52, x_63_53, x_63_56, x_63_57, x_63_60, x_63_63, x_63_64, x_63_66, x_63_67, x_63_70, x_63_71, x_63_74, x_63_75, x_63_78, x_63_79, x_63_82, x_63_83, x_63_86, x_63_89, Option.bind_some, Option.bind_none, Option.toList_some, Option.toList_none, List.cons_append, List.nil_append, pNl_i, pNl_r, pNl_u, pNl_n, bI_0, bI_1, nn_or, or_nn, not_false_eq_true, not_true_eq_false, i1000, i1e0, true_or, or_true, Decidable.not_not, if_true, if_false, Bool.false_eq_true, Int32.zero_add, true_and, and_true, h20, f6, i7, r7, s7]
    rw [x_63_65]
    simp only [x_63_12, x_63_15, x_63_16, x_63_19, x_63_20, x_63_23, x_63_26, x_63_27, x_63_31, x_63_34, x_63_35, x_63_38, x_63_41, x_63_42, x_63_45, x_63_46, x_63_49, x_63_52, x_63_53, x_63_56, x_63_57, x_63_60, x_63_63, x_63_64, x_63_66, x_63_67, x_63_70, x_63_71, x_63_74, x_63_75, x_63_78, x_63_79, x_63_82, x_63_83, x_63_86, x_63_89, Option.bind_some, Option.bind_none, Option.toList_some, Option.toList_none, List.cons_append, List.nil_append, pNl_i, pNl_r, pNl_u, pNl_n, bI_0, bI_1, nn_or, or_nn, not_false_eq_true, not_true_eq_false, i1000, i1e0, true_or, or_true, Decidable.not_not, if_true, if_false, Bool.false_eq_true, Int32.zero_add, true_and, and_true, h21, f7, i8, r8, s8]
    rw [x_63_65]
    simp only [x_63_12, x_63_15, x_63_16, x_63_19, x_63_20, x_63_23, x_63_26, x_63_27, x_63_31, x_63_34, x_63_35, x_63_38, x_63_41, x_63_42, x_63_45, x_63_46, x_63_49, x_63_52, x_63_53, x_63_56, x_63_57, x_63_60, x_63_63, x_63_64, x_63_66, x_63_67, x_63_70, x_63_71, x_63_74, x_63_75, x_63_78, x_63_79, x_63_82, x_63_83, x_63_86, x_63_89, Option.bind_some, Option.bind_none, Option.toList_some, Option.toList_none, List.cons_append, List.nil_append, pNl_i, pNl_r, pNl_u, pNl_n, bI_0, bI_1, nn_or, or_nn, not_false_eq_true, not_true_eq_false, i1000, i1e0, true_or, or_true, Decidable.not_not, if_true, if_false, Bool.false_eq_true, Int32.zero_add, true_and, and_true, h22]
  · refine Prod.ext rfl (funext fun q => ?_)
    simp only [kW]
    by_cases hr : 4 ≤ q ∧ q < 627
    · rw [if_pos hr]
      unfold kC
      by_cases a1 : q = 4
      · subst a1; rw [if_pos rfl, g6 4 (by omega) (by omega)]; exact v6
      rw [if_neg a1]
      by_cases a2 : q < 61
      · rw [if_pos a2]; exact use 5 q C0 (by omega) (by omega)
      rw [if_neg a2]
      by_cases a3 : q < 117
      · rw [if_pos a3]; exact use 61 q C1 (by omega) (by omega)
      rw [if_neg a3]
      by_cases a4 : q = 117
      · subst a4; rw [if_pos rfl, ← hB8, hU_at, if_pos rfl]; rfl
      rw [if_neg a4]
      by_cases a5 : q = 118
      · subst a5; rw [if_pos rfl, g6 118 (by omega) (by omega), k46 118 (by omega) (by omega), x4, ia_rep]; rfl
      rw [if_neg a5]
      by_cases a6 : q = 119
      · subst a6; rw [if_pos rfl, g6 119 (by omega) (by omega), k56 119 (by omega) (by omega)]; exact y5
      rw [if_neg a6]
      by_cases a7 : q = 120
      · subst a7
        rw [if_pos rfl, g6 120 (by omega) (by omega), k56 120 (by omega) (by omega)]
        exact z5
      rw [if_neg a7]
      by_cases a8 : q < 513
      · rw [if_pos a8]
        have := use (121 + 56 * ((q - 121) / 56)) q (CH ((q - 121) / 56) (by omega)) (by omega) (by omega)
        rw [this, show q - (121 + 56 * ((q - 121) / 56)) = (q - 121) % 56 by omega]
      rw [if_neg a8]
      by_cases a9 : q = 513
      · subst a9; rw [if_pos rfl, g6 513 (by omega) (by omega), m6 513 (by omega)]; exact y6
      rw [if_neg a9]
      by_cases a10 : q = 514
      · subst a10; rw [if_pos rfl, g6 514 (by omega) (by omega), m6 514 (by omega)]; exact z6
      rw [if_neg a10]
      obtain h | h : (q - 515) / 56 = 0 ∨ (q - 515) / 56 = 1 := by omega
      · rw [h, use 515 q C9 (by omega) (by omega), show q - 515 = (q - 515) % 56 by omega]
        rw [show (q - 515) % 56 % 56 = (q - 515) % 56 by omega]
      · rw [h, use 571 q C10 (by omega) (by omega), show q - 571 = (q - 515) % 56 by omega]
    · rw [if_neg hr]
  · rw [g6 q (by omega) (by omega), k46 q (by omega) (by omega), n4' q hq]
end KF
