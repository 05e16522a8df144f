/-! the class: the whole of carryOut -/
section KS
variable {M : qHp} {K : Nat → Sg} {d v x : Nat → Int32} {y : Nat → Nat} {P f z n : Nat}
theorem s_81 (I : Sg → Prop) (hI : ∀ s u a b e, I s → knP u ≠ 0 → (∃ n, s 0 1 = nI n ∧ n ≤ 40 ∧ (mdV s u (nI a) (nI b) (nI e) = 0 → clOK n s u (nI a))) ∧ (mdV s u (nI a) (nI b) (nI e) = 0 → I (clD s u (nI a) (nI b) (nI e)))) (H : hsOK M K d f z n) (hs : I (K 0)) (hy : pxOK d x y P) (h : (txL y P 81 0 0).1 = true) : ∃ d', qRun 81 [.ref 4] (kW M K d v x) = some (some (.int (nI (cyC y P (txL y P 81 0 0).2.2 0 (K 0)).1)), kW M (us (ntK K f z n) 0 (cyC y P (txL y P 81 0 0).2.2 0 (K 0)).2) d' v x) ∧ d' 0 = kpD d f z 0 ∧ d' 1 = kpD d f z 1 ∧ d' 2 = 0 := by
  obtain ⟨hst, hf, hz, f7, z6, hn, h40⟩ := H
  have hP := hy.1
  obtain ⟨t0, t1, t2, t3⟩ := @tx_spec y P 81 0 (by show 0 ≤ P; omega) h
  rw [show psP y P 0 = 0 from rfl] at t0 t1 t2 t3
  obtain ⟨d1, a50, o1⟩ := @s_50 M K d v x y P hy
  rw [if_pos h] at a50
  generalize (txL y P 81 0 0).2.2 = N at *
  have hN80 : ∀ k, k < N → 3 * k ≤ psP y P k := by
    intro k
    induction k with
    | zero => intro _; omega
    | succ k ih =>
      intro hk
      have i1 := ih (by omega)
      obtain ⟨q1, q2⟩ := t1 k (by omega) (by omega)
      have q3 := ((@or_le y P (psP y P k) q1).2.2 q2).1
      show 3 * (k + 1) ≤ (orP y P (psP y P k)).2.2.2.2 + 1
      omega
  have o1f : d1 0 = nI f := o1.1.trans hf
  have o1z : d1 1 = nI z := o1.2.1.trans hz
  have a38 := @s_38 M K d1 v x f z n o1f o1z f7 z6 hn h40
  have a39 := @s_39 M (ntK K f z n) d1 v x f z o1f o1z f7 z6
  have k2 : kpD d1 f z 2 = d 2 := by
    unfold kpD
    split
    · exact (up_n (by omega)).trans o1.2.2
    · exact (up_n (by omega)).trans o1.2.2
  have k01 : kpD d1 f z 0 = kpD d f z 0 ∧ kpD d1 f z 1 = kpD d f z 1 := by
    unfold kpD
    by_cases c : z < 6
    · rw [if_pos c, if_pos c]
      exact ⟨(up_n (by omega)).trans (o1.1.trans (up_n (by omega)).symm), up_at.trans up_at.symm⟩
    · rw [if_neg c, if_neg c]
      exact ⟨up_at.trans up_at.symm, (up_n (by omega)).trans (o1.2.1.trans (up_n (by omega)).symm)⟩
  generalize hdk : kpD d1 f z = dk at *
  have e6 : ((-6 : Int32) = -6) = True := eq_true rfl
  have fin : ∀ (w : Int32) (K2 : Nat → Sg) (e : Nat → Int32), qEx 81 (87, [some (.ref 4), some (.int w)], [], kW M K2 e v x) = some (some (.int w), kW M K2 (up e 2 0) v x) := by
    intro w K2 e
    simp only [x_81_0, x_81_1, x_81_4, x_81_7, x_81_9, x_81_12, x_81_14, x_81_15, x_81_16, x_81_19, x_81_20, x_81_23, x_81_26, x_81_27, x_81_30, x_81_33, x_81_34, x_81_35, x_81_36, x_81_39, x_81_40, x_81_44, x_81_46, x_81_49, x_81_50, x_81_53, x_81_56, x_81_59, x_81_60, x_81_63, x_81_66, x_81_69, x_81_72, x_81_73, x_81_76, x_81_78, x_81_81, x_81_84, x_81_87, x_81_88, x_81_91, x_81_94, x_81_95, x_81_96, Option.bind_some, Option.bind_none, Option.toList_some, Option.toList_none, List.cons_append, List.nil_append, pNl_i, pNl_r, pNl_u, pNl_n, bI_0, bI_1, nn_or, or_nn, not_false_eq_true, not_true_eq_false, i1000, i1e0, true_or, or_true, Decidable.not_not, if_true, if_false, Bool.false_eq_true, Int32.zero_add, true_and, and_true, k4_5, kTp, s_49]
  have loop : ∀ (g k : Nat) (s : Sg) (e : Nat → Int32), (g + 1) + k = N → I s → odK dk e → e 3 = nI (psP y P k) → ∃ e', qEx 81 (43, [some (.ref 4), some (.int (nI k))], [], kW M (us (ntK K f z n) 0 s) e v x) = some (some (.int (nI (cyC y P (g + 1) k s).1)), kW M (us (ntK K f z n) 0 (cyC y P (g + 1) k s).2) e' v x) ∧ e' 0 = dk 0 ∧ e' 1 = dk 1 ∧ e' 2 = 0 := by
    intro g
    induction g with
    | zero =>
      intro k s e hk hs he h3
      obtain ⟨q1, q2⟩ := t1 k (by omega) (by omega)
      have q3 := hN80 k (by omega)
      have ql := (@or_le y P (psP y P k) q1).2.2 q2
      have qP := (@or_le y P (psP y P k) q1).2.1
      have q5 := t3 k (by omega)
      have e80 : ((80 : Int32) ≤ nI k) = False := eq_false (by rw [show (80 : Int32) = nI 80 from rfl, nI_le_iff (by omega) (by omega)]; omega)
      obtain ⟨e1, a51, o51, p51, r51⟩ := @s_51 M (us (ntK K f z n) 0 s) e v x y P (psP y P k) (px_up hy (he.2.2.trans k2)) h3 q1
      have on := on_of r51 q2
      have a52 := fun K2 => @s_52 M K2 e1 v x y P (orP y P (psP y P k)).2.2.2.2 59 (px_up hy (o51.2.2.trans (he.2.2.trans k2))) p51 (by omega) (by omega)
      rw [q2] at a51
      rw [q5, show nI 59 = 59 from rfl] at a52
      obtain ⟨⟨n1, i1, i2, i3⟩, i4⟩ := hI s (srP y P (psP y P k)) (orP y P (psP y P k)).2.1 (orP y P (psP y P k)).2.2.1 (orP y P (psP y P k)).2.2.2.1 hs ql.2.1
      unfold cyC
      by_cases cz : mdV s (srP y P (psP y P k)) (nI (orP y P (psP y P k)).2.1) (nI (orP y P (psP y P k)).2.2.1) (nI (orP y P (psP y P k)).2.2.2.1) = 0
      · rw [if_pos cz]
        obtain ⟨w, w1, w2⟩ := @s_82 M (us (ntK K f z n) 0 s) e1 v x _ n1 _ _ _ hst ql.2.1 on (by rw [us_s]; exact i3 cz) (by rw [us_s]; exact cz)
        rw [us_s, us_us] at w2
        have w1' : (0 ≤ w) = True := eq_true (Int32.not_lt.mp w1)
        refine ⟨up (up e1 3 (nI (sgP y P 59 (orP y P (psP y P k)).2.2.2.2).2)) 2 0, ?_, ?_⟩
        · rw [x_81_43]
          simp only [x_81_0, x_81_1, x_81_4, x_81_7, x_81_9, x_81_12, x_81_14, x_81_15, x_81_16, x_81_19, x_81_20, x_81_23, x_81_26, x_81_27, x_81_30, x_81_33, x_81_34, x_81_35, x_81_36, x_81_39, x_81_40, x_81_44, x_81_46, x_81_49, x_81_50, x_81_53, x_81_56, x_81_59, x_81_60, x_81_63, x_81_66, x_81_69, x_81_72, x_81_73, x_81_76, x_81_78, x_81_81, x_81_84, x_81_88, x_81_91, x_81_94, x_81_95, x_81_96, Option.bind_some, Option.bind_none, Option.toList_some, Option.toList_none, List.cons_append, List.nil_append, pNl_i, pNl_r, pNl_u, pNl_n, bI_0, bI_1, nn_or, or_nn, not_false_eq_true, not_true_eq_false, i1000, i1e0, true_or, or_true, Decidable.not_not, if_true, if_false, Bool.false_eq_true, Int32.zero_add, true_and, and_true, k4_5, kT4, kTp, e80, a51, bB_t, bB_f, w2, w1', a52, nI_1]
          rw [fin]
          rfl
        · exact ⟨(up_n (by omega)).trans ((up_n (by omega)).trans (o51.1.trans he.1)), (up_n (by omega)).trans ((up_n (by omega)).trans (o51.2.1.trans he.2.1)), up_at⟩
      · rw [if_neg cz]
        obtain ⟨w, w1, w2⟩ := @s_82_0 M (us (ntK K f z n) 0 s) e1 v x _ n1 _ _ _ hst ql.2.1 on (by rw [us_s]; exact i1) i2 (by rw [us_s]; exact cz)
        have w1' : (0 ≤ w) = False := eq_false (Int32.not_le.mpr w1)
        refine ⟨up e1 2 0, ?_, ?_⟩
        · rw [x_81_43]
          simp only [x_81_0, x_81_1, x_81_4, x_81_7, x_81_9, x_81_12, x_81_14, x_81_15, x_81_16, x_81_19, x_81_20, x_81_23, x_81_26, x_81_27, x_81_30, x_81_33, x_81_34, x_81_35, x_81_36, x_81_39, x_81_40, x_81_44, x_81_46, x_81_49, x_81_50, x_81_53, x_81_56, x_81_59, x_81_60, x_81_63, x_81_66, x_81_69, x_81_72, x_81_73, x_81_76, x_81_78, x_81_81, x_81_84, x_81_88, x_81_91, x_81_94, x_81_95, x_81_96, Option.bind_some, Option.bind_none, Option.toList_some, Option.toList_none, List.cons_append, List.nil_append, pNl_i, pNl_r, pNl_u, pNl_n, bI_0, bI_1, nn_or, or_nn, not_false_eq_true, not_true_eq_false, i1000, i1e0, true_or, or_true, Decidable.not_not, if_true, if_false, Bool.false_eq_true, Int32.zero_add, true_and, and_true, k4_5, kT4, kTp, e80, a51, bB_t, w2, w1']
          rw [fin]
        · exact ⟨(up_n (by omega)).trans (o51.1.trans he.1), (up_n (by omega)).trans (o51.2.1.trans he.2.1), up_at⟩
    | succ g ih =>
      intro k s e hk hs he h3
      obtain ⟨q1, q2⟩ := t1 k (by omega) (by omega)
      have q3 := hN80 k (by omega)
      have ql := (@or_le y P (psP y P k) q1).2.2 q2
      have qP := (@or_le y P (psP y P k) q1).2.1
      have q5 := t2 k (by omega) (by omega)
      have q6 := sg_t (y := y) (P := P) (ch := 59) (p := (orP y P (psP y P k)).2.2.2.2) (by rw [q5]; simp)
      have e80 : ((80 : Int32) ≤ nI k) = False := eq_false (by rw [show (80 : Int32) = nI 80 from rfl, nI_le_iff (by omega) (by omega)]; omega)
      obtain ⟨e1, a51, o51, p51, r51⟩ := @s_51 M (us (ntK K f z n) 0 s) e v x y P (psP y P k) (px_up hy (he.2.2.trans k2)) h3 q1
      have on := on_of r51 q2
      have a52 := fun K2 => @s_52 M K2 e1 v x y P (orP y P (psP y P k)).2.2.2.2 59 (px_up hy (o51.2.2.trans (he.2.2.trans k2))) p51 (by omega) (by omega)
      rw [q2] at a51
      rw [q5, q6, show nI 59 = 59 from rfl] at a52
      obtain ⟨⟨n1, i1, i2, i3⟩, i4⟩ := hI s (srP y P (psP y P k)) (orP y P (psP y P k)).2.1 (orP y P (psP y P k)).2.2.1 (orP y P (psP y P k)).2.2.2.1 hs ql.2.1
      rw [show cyC y P (g + 1 + 1) k s = if mdV s (srP y P (psP y P k)) (nI (orP y P (psP y P k)).2.1) (nI (orP y P (psP y P k)).2.2.1) (nI (orP y P (psP y P k)).2.2.2.1) = 0 then cyC y P (g + 1) (k + 1) (clD s (srP y P (psP y P k)) (nI (orP y P (psP y P k)).2.1) (nI (orP y P (psP y P k)).2.2.1) (nI (orP y P (psP y P k)).2.2.2.1)) else (k, s) from rfl]
      by_cases cz : mdV s (srP y P (psP y P k)) (nI (orP y P (psP y P k)).2.1) (nI (orP y P (psP y P k)).2.2.1) (nI (orP y P (psP y P k)).2.2.2.1) = 0
      · rw [if_pos cz]
        obtain ⟨w, w1, w2⟩ := @s_82 M (us (ntK K f z n) 0 s) e1 v x _ n1 _ _ _ hst ql.2.1 on (by rw [us_s]; exact i3 cz) (by rw [us_s]; exact cz)
        rw [us_s, us_us] at w2
        have w1' : (0 ≤ w) = True := eq_true (Int32.not_lt.mp w1)
        have oe : odK dk (up e1 3 (nI ((orP y P (psP y P k)).2.2.2.2 + 1))) := ⟨(up_n (by omega)).trans (o51.1.trans he.1), (up_n (by omega)).trans (o51.2.1.trans he.2.1), (up_n (by omega)).trans (o51.2.2.trans he.2.2)⟩
        obtain ⟨e', j1, j2⟩ := ih (k + 1) _ (up e1 3 (nI ((orP y P (psP y P k)).2.2.2.2 + 1))) (by omega) (i4 cz) oe up_at
        refine ⟨e', ?_, j2⟩
        rw [x_81_43]
        simp only [x_81_0, x_81_1, x_81_4, x_81_7, x_81_9, x_81_12, x_81_14, x_81_15, x_81_16, x_81_19, x_81_20, x_81_23, x_81_26, x_81_27, x_81_30, x_81_33, x_81_34, x_81_35, x_81_36, x_81_39, x_81_40, x_81_44, x_81_46, x_81_49, x_81_50, x_81_53, x_81_56, x_81_59, x_81_60, x_81_63, x_81_66, x_81_69, x_81_72, x_81_73, x_81_76, x_81_78, x_81_81, x_81_84, x_81_88, x_81_91, x_81_94, x_81_95, x_81_96, Option.bind_some, Option.bind_none, Option.toList_some, Option.toList_none, List.cons_append, List.nil_append, pNl_i, pNl_r, pNl_u, pNl_n, bI_0, bI_1, nn_or, or_nn, not_false_eq_true, not_true_eq_false, i1000, i1e0, true_or, or_true, Decidable.not_not, if_true, if_false, Bool.false_eq_true, Int32.zero_add, true_and, and_true, k4_5, kT4, kTp, e80, a51, bB_t, w2, w1', a52, nI_1]
        exact j1
      · rw [if_neg cz]
        obtain ⟨w, w1, w2⟩ := @s_82_0 M (us (ntK K f z n) 0 s) e1 v x _ n1 _ _ _ hst ql.2.1 on (by rw [us_s]; exact i1) i2 (by rw [us_s]; exact cz)
        have w1' : (0 ≤ w) = False := eq_false (Int32.not_le.mpr w1)
        refine ⟨up e1 2 0, ?_, ?_⟩
        · rw [x_81_43]
          simp only [x_81_0, x_81_1, x_81_4, x_81_7, x_81_9, x_81_12, x_81_14, x_81_15, x_81_16, x_81_19, x_81_20, x_81_23, x_81_26, x_81_27, x_81_30, x_81_33, x_81_34, x_81_35, x_81_36, x_81_39, x_81_40, x_81_44, x_81_46, x_81_49, x_81_50, x_81_53, x_81_56, x_81_59, x_81_60, x_81_63, x_81_66, x_81_69, x_81_72, x_81_73, x_81_76, x_81_78, x_81_81, x_81_84, x_81_88, x_81_91, x_81_94, x_81_95, x_81_96, Option.bind_some, Option.bind_none, Option.toList_some, Option.toList_none, List.cons_append, List.nil_append, pNl_i, pNl_r, pNl_u, pNl_n, bI_0, bI_1, nn_or, or_nn, not_false_eq_true, not_true_eq_false, i1000, i1e0, true_or, or_true, Decidable.not_not, if_true, if_false, Bool.false_eq_true, Int32.zero_add, true_and, and_true, k4_5, kT4, kTp, e80, a51, bB_t, w2, w1']
          rw [fin]
        · exact ⟨(up_n (by omega)).trans (o51.1.trans he.1), (up_n (by omega)).trans (o51.2.1.trans he.2.1), up_at⟩
  obtain ⟨g, rfl⟩ : ∃ g, N = g + 1 := ⟨N - 1, by omega⟩
  have odk : odK dk (up dk 3 0) := ⟨up_n (by omega), up_n (by omega), up_n (by omega)⟩
  obtain ⟨e', l1, l2, l3, l4⟩ := loop g 0 (K 0) (up dk 3 0) (by omega) hs odk up_at
  have us0 : us (ntK K f z n) 0 (K 0) = ntK K f z n := by rw [← nt_0 (K := K) (f := f) (z := z) (n := n)]; exact us_id
  rw [us0] at l1
  refine ⟨e', ?_, l2.trans k01.1, l3.trans k01.2, l4⟩
  refine qRun_of ?_ rfl
  rw [en_81, ← l1]
  simp only [x_81_0, x_81_1, x_81_4, x_81_7, x_81_9, x_81_12, x_81_14, x_81_15, x_81_16, x_81_19, x_81_20, x_81_23, x_81_26, x_81_27, x_81_30, x_81_33, x_81_34, x_81_35, x_81_36, x_81_39, x_81_40, x_81_44, x_81_46, x_81_49, x_81_50, x_81_53, x_81_56, x_81_59, x_81_60, x_81_63, x_81_66, x_81_69, x_81_72, x_81_73, x_81_76, x_81_78, x_81_81, x_81_84, x_81_87, x_81_88, x_81_91, x_81_94, x_81_95, x_81_96, Option.bind_some, Option.bind_none, Option.toList_some, Option.toList_none, List.cons_append, List.nil_append, pNl_i, pNl_r, pNl_u, pNl_n, bI_0, bI_1, nn_or, or_nn, not_false_eq_true, not_true_eq_false, i1000, i1e0, true_or, or_true, Decidable.not_not, if_true, if_false, Bool.false_eq_true, Int32.zero_add, true_and, and_true, k4_0, k4_4, k4_5, kTp, kT119, a50, e6, a38, a39, kw_2]
  rfl
end KS
