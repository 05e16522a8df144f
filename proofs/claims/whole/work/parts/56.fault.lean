/-! the class: faults of a text, wiping, orders that are obeyed -/
section KR
variable {M : qHp} {K : Nat → Sg} {d v x : Nat → Int32} {y : Nat → Nat} {P : Nat}
theorem s_50 (hy : pxOK d x y P) : ∃ d', qRun 50 [.ref 513] (kW M K d v x) = some (some (.int (if (txL y P 81 0 0).1 = true then -6 else nI (txL y P 81 0 0).2.1)), kW M K d' v x) ∧ odK d d' := by
  have hP := hy.1
  have loop : ∀ (f p i : Nat) (e : Nat → Int32), P < p + f → p ≤ P → 3 * i ≤ p → odK d e → e 3 = nI p → ∃ d', qEx 50 (7, [some (.ref 513), some (.int (nI i))], [], kW M K e v x) = some (some (.int (if (txL y P f p i).1 = true then -6 else nI (txL y P f p i).2.1)), kW M K d' v x) ∧ odK d d' := by
    intro f
    induction f with
    | zero => intro p i e h1 h2; omega
    | succ f ih =>
      intro p i e h1 h2 h3 he hp
      have e80 : ((80 : Int32) ≤ nI i) = False := eq_false (by rw [show (80 : Int32) = nI 80 from rfl, nI_le_iff (by omega) (by omega)]; omega)
      obtain ⟨e1, t1, o1, p1, r1⟩ := @s_51 M K e v x y P p (px_up hy he.2.2) hp h2
      have o1' : odK d e1 := ⟨o1.1.trans he.1, o1.2.1.trans he.2.1, o1.2.2.trans he.2.2⟩
      have hl := @or_le y P p h2
      unfold txL
      by_cases f1 : (orP y P p).1 = false
      · rw [if_pos f1]
        rw [f1] at t1
        refine ⟨e1, ?_, o1'⟩
        rw [x_50_7]
        simp only [x_50_0, x_50_1, x_50_2, x_50_5, x_50_6, x_50_8, x_50_10, x_50_13, x_50_14, x_50_17, x_50_20, x_50_23, x_50_24, x_50_27, x_50_28, x_50_31, x_50_34, x_50_36, x_50_37, x_50_38, x_50_40, x_50_43, x_50_46, x_50_49, x_50_52, x_50_55, x_50_56, x_50_59, Option.bind_some, Option.bind_none, Option.toList_some, Option.toList_none, List.cons_append, List.nil_append, pNl_i, pNl_r, pNl_u, pNl_n, bI_0, bI_1, nn_or, or_nn, not_false_eq_true, not_true_eq_false, i1000, i1e0, true_or, or_true, Decidable.not_not, if_true, if_false, Bool.false_eq_true, Int32.zero_add, true_and, and_true, kTp, e80, t1, bB_f, kq_2, p1]
      · rw [if_neg f1]
        have f1' : (orP y P p).1 = true := by simpa using f1
        rw [f1'] at t1
        have hl2 := hl.2.2 f1'
        have e12 : e1 2 = nI P := o1'.2.2.trans hy.2.1
        have eqP : (nI (orP y P p).2.2.2.2 = nI P) = ((orP y P p).2.2.2.2 = P) := nI_eq_iff (by omega) (by omega)
        have t2 := @s_52 M K e1 v x y P (orP y P p).2.2.2.2 59 (px_up hy o1'.2.2) p1 (by omega) (by omega)
        rw [show nI 59 = 59 from rfl] at t2
        have o2 : odK d (up e1 3 (nI (sgP y P 59 (orP y P p).2.2.2.2).2)) := ⟨(up_n (by omega)).trans o1'.1, (up_n (by omega)).trans o1'.2.1, (up_n (by omega)).trans o1'.2.2⟩
        by_cases cP : (orP y P p).2.2.2.2 = P
        · have f2 : (sgP y P 59 (orP y P p).2.2.2.2).1 = false := by
            unfold sgP
            have : inB y P (orP y P p).2.2.2.2 59 59 = false := by rw [inB_f]; omega
            rw [this]; rfl
          rw [if_pos f2, decide_eq_true cP]
          have cP' := eq_true cP
          rw [cP'] at eqP
          refine ⟨e1, ?_, o1'⟩
          rw [x_50_7]
          simp only [x_50_0, x_50_1, x_50_2, x_50_5, x_50_6, x_50_8, x_50_10, x_50_13, x_50_14, x_50_17, x_50_20, x_50_23, x_50_24, x_50_27, x_50_28, x_50_31, x_50_34, x_50_36, x_50_37, x_50_38, x_50_40, x_50_43, x_50_46, x_50_49, x_50_52, x_50_55, x_50_56, x_50_59, Option.bind_some, Option.bind_none, Option.toList_some, Option.toList_none, List.cons_append, List.nil_append, pNl_i, pNl_r, pNl_u, pNl_n, bI_0, bI_1, nn_or, or_nn, not_false_eq_true, not_true_eq_false, i1000, i1e0, true_or, or_true, Decidable.not_not, if_true, if_false, Bool.false_eq_true, Int32.zero_add, true_and, and_true, kTp, e80, t1, bB_t, kq_1, kq_2, p1, e12, eqP]
        · have cP' := eq_false cP
          rw [cP'] at eqP
          by_cases f2 : (sgP y P 59 (orP y P p).2.2.2.2).1 = false
          · have f3 := sg_f f2
            rw [f2, f3] at t2
            rw [f3] at o2
            rw [if_pos f2, decide_eq_false cP]
            have p2 : up e1 3 (nI (orP y P p).2.2.2.2) 3 = nI (orP y P p).2.2.2.2 := up_at
            refine ⟨_, ?_, o2⟩
            rw [x_50_7]
            simp only [x_50_0, x_50_1, x_50_2, x_50_5, x_50_6, x_50_8, x_50_10, x_50_13, x_50_14, x_50_17, x_50_20, x_50_23, x_50_24, x_50_27, x_50_28, x_50_31, x_50_34, x_50_36, x_50_37, x_50_38, x_50_40, x_50_43, x_50_46, x_50_49, x_50_52, x_50_55, x_50_56, x_50_59, Option.bind_some, Option.bind_none, Option.toList_some, Option.toList_none, List.cons_append, List.nil_append, pNl_i, pNl_r, pNl_u, pNl_n, bI_0, bI_1, nn_or, or_nn, not_false_eq_true, not_true_eq_false, i1000, i1e0, true_or, or_true, Decidable.not_not, if_true, if_false, Bool.false_eq_true, Int32.zero_add, true_and, and_true, kTp, e80, t1, bB_t, bB_f, kq_1, kq_2, p1, e12, eqP, t2, p2]
          · have f2' : (sgP y P 59 (orP y P p).2.2.2.2).1 = true := by simpa using f2
            have f4 := sg_t f2
            have b1 := @sg_le y P 59 (orP y P p).2.2.2.2 hl.2.1
            rw [f2'] at t2
            rw [if_neg f2]
            obtain ⟨d', i1, i2⟩ := ih (sgP y P 59 (orP y P p).2.2.2.2).2 (i + 1) _ (by omega) b1.2.1 (by omega) o2 up_at
            refine ⟨d', ?_, i2⟩
            rw [x_50_7]
            simp only [x_50_0, x_50_1, x_50_2, x_50_5, x_50_6, x_50_8, x_50_10, x_50_13, x_50_14, x_50_17, x_50_20, x_50_23, x_50_24, x_50_27, x_50_28, x_50_31, x_50_34, x_50_36, x_50_37, x_50_38, x_50_40, x_50_43, x_50_46, x_50_49, x_50_52, x_50_55, x_50_56, x_50_59, Option.bind_some, Option.bind_none, Option.toList_some, Option.toList_none, List.cons_append, List.nil_append, pNl_i, pNl_r, pNl_u, pNl_n, bI_0, bI_1, nn_or, or_nn, not_false_eq_true, not_true_eq_false, i1000, i1e0, true_or, or_true, Decidable.not_not, if_true, if_false, Bool.false_eq_true, Int32.zero_add, true_and, and_true, kTp, e80, t1, bB_t, kq_1, kq_2, p1, e12, eqP, t2, nI_1]
            exact i1
  have o0 : odK d (up d 3 0) := ⟨up_n (by omega), up_n (by omega), up_n (by omega)⟩
  obtain ⟨d', h1, h2⟩ := loop 81 0 0 (up d 3 0) (by omega) (by omega) (by omega) o0 up_at
  refine ⟨d', ?_, h2⟩
  refine qRun_of ?_ rfl
  rw [en_50, ← h1]
  simp only [x_50_0, x_50_1, x_50_2, x_50_5, x_50_6, x_50_8, x_50_10, x_50_13, x_50_14, x_50_17, x_50_20, x_50_23, x_50_24, x_50_27, x_50_28, x_50_31, x_50_34, x_50_36, x_50_37, x_50_38, x_50_40, x_50_43, x_50_46, x_50_49, x_50_52, x_50_55, x_50_56, x_50_59, Option.bind_some, Option.bind_none, Option.toList_some, Option.toList_none, List.cons_append, List.nil_append, pNl_i, pNl_r, pNl_u, pNl_n, bI_0, bI_1, nn_or, or_nn, not_false_eq_true, not_true_eq_false, i1000, i1e0, true_or, or_true, Decidable.not_not, if_true, if_false, Bool.false_eq_true, Int32.zero_add, true_and, and_true, kw_2]
  rfl
theorem s_80 (hy : pxOK d x y P) : ∃ d', qRun 80 [.ref 4] (kW M K d v x) = some (some (.int (if (txL y P 81 0 0).1 = true then -6 else nI (txL y P 81 0 0).2.1)), kW M K d' v x) ∧ odK d d' := by
  obtain ⟨d', h1, h2⟩ := @s_50 M K d v x y P hy
  refine ⟨d', ?_, h2⟩
  refine qRun_of ?_ rfl
  rw [en_80]
  simp only [x_80_0, x_80_1, x_80_4, x_80_7, Option.bind_some, Option.bind_none, Option.toList_some, Option.toList_none, List.cons_append, List.nil_append, pNl_i, pNl_r, pNl_u, pNl_n, bI_0, bI_1, nn_or, or_nn, not_false_eq_true, not_true_eq_false, i1000, i1e0, true_or, or_true, Decidable.not_not, if_true, if_false, Bool.false_eq_true, Int32.zero_add, true_and, and_true, k4_5, kTp, h1]
theorem s_49 : qRun 49 [.ref 513] (kW M K d v x) = some (some (.int (d 2)), kW M K (up d 2 0) v x) := by
  refine qRun_of ?_ rfl
  rw [en_49]
  simp only [x_49_0, x_49_1, x_49_4, x_49_5, x_49_6, x_49_7, x_49_10, x_49_11, Option.bind_some, Option.bind_none, Option.toList_some, Option.toList_none, List.cons_append, List.nil_append, pNl_i, pNl_r, pNl_u, pNl_n, bI_0, bI_1, nn_or, or_nn, not_false_eq_true, not_true_eq_false, i1000, i1e0, true_or, or_true, Decidable.not_not, if_true, if_false, Bool.false_eq_true, Int32.zero_add, true_and, and_true, kq_1, kw_1]
theorem s_79 : qRun 79 [.ref 4] (kW M K d v x) = some (some (.int (d 2)), kW M K (up d 2 0) v x) := by
  refine qRun_of ?_ rfl
  rw [en_79]
  simp only [x_79_0, x_79_1, x_79_4, x_79_7, Option.bind_some, Option.bind_none, Option.toList_some, Option.toList_none, List.cons_append, List.nil_append, pNl_i, pNl_r, pNl_u, pNl_n, bI_0, bI_1, nn_or, or_nn, not_false_eq_true, not_true_eq_false, i1000, i1e0, true_or, or_true, Decidable.not_not, if_true, if_false, Bool.false_eq_true, Int32.zero_add, true_and, and_true, k4_5, kTp, s_49]
/-- of a text: how its orders follow each other -/
theorem tx_spec : ∀ (f o : Nat), psP y P o ≤ P → (txL y P f (psP y P o) o).1 = true → o < (txL y P f (psP y P o) o).2.2 ∧ (∀ k, o ≤ k → k < (txL y P f (psP y P o) o).2.2 → psP y P k ≤ P ∧ (orP y P (psP y P k)).1 = true) ∧ (∀ k, o ≤ k → k + 1 < (txL y P f (psP y P o) o).2.2 → (sgP y P 59 (orP y P (psP y P k)).2.2.2.2).1 = true) ∧ ∀ k, k + 1 = (txL y P f (psP y P o) o).2.2 → (sgP y P 59 (orP y P (psP y P k)).2.2.2.2).1 = false := by
  intro f
  induction f with
  | zero => intro o h0 h; unfold txL at h; exact absurd h (by simp)
  | succ f ih =>
    intro o h0 h
    unfold txL at h ⊢
    have hl := @or_le y P (psP y P o) h0
    by_cases f1 : (orP y P (psP y P o)).1 = false
    · rw [if_pos f1] at h; exact absurd h (by simp)
    · rw [if_neg f1] at h ⊢
      have f1' : (orP y P (psP y P o)).1 = true := by simpa using f1
      by_cases f2 : (sgP y P 59 (orP y P (psP y P o)).2.2.2.2).1 = false
      · rw [if_pos f2]
        refine ⟨by dsimp only; omega, fun k k1 k2 => ?_, fun k k1 k2 => ?_, fun k k1 => ?_⟩
        · have : k = o := by dsimp only at k2; omega
          subst this; exact ⟨h0, f1'⟩
        · dsimp only at k2; omega
        · have : k = o := by dsimp only at k1; omega
          subst this; exact f2
      · rw [if_neg f2] at h ⊢
        have f4 := sg_t f2
        have b1 := @sg_le y P 59 (orP y P (psP y P o)).2.2.2.2 hl.2.1
        have e : (sgP y P 59 (orP y P (psP y P o)).2.2.2.2).2 = psP y P (o + 1) := by rw [f4]; rfl
        rw [e] at h b1 ⊢
        obtain ⟨i1, i2, i3, i4⟩ := ih (o + 1) b1.2.1 h
        refine ⟨by omega, fun k k1 k2 => ?_, fun k k1 k2 => ?_, i4⟩
        · rcases Nat.lt_or_ge o k with q | q
          · exact i2 k q k2
          · have : k = o := by omega
            subst this; exact ⟨h0, f1'⟩
        · rcases Nat.lt_or_ge o k with q | q
          · exact i3 k q k2
          · have : k = o := by omega
            subst this
            simpa using f2
/-- an order that is obeyed: the day after it -/
def clD (s : Sg) (u : Nat) (a b e : Int32) : Sg := if u = 99 then u2 (u2 s 2 (nN a) b) 0 6 (s 0 0) else if u = 116 then lpF (s 0 0 + a) (nN a) s else if u = 115 then u2 s 1 2 a else u2 (u2 (bgF s (nN (s 0 1)) (shP1 u) a b e) 0 6 (s 0 0)) 0 1 (s 0 1 + 1)
/-- what an order wants of a class's day -/
def clOK (n : Nat) (s : Sg) (u : Nat) (a : Int32) : Prop := s 0 1 = nI n ∧ n ≤ 40 ∧ (∀ r, r < 8 → ¬ s 2 r < 0) ∧ ¬ s 1 2 < 0 ∧ (u = 116 → ∃ k, k ≤ 1440 ∧ a = nI k ∧ lpOK n (s 0 0 + nI k) k s ∧ ¬ lpF (s 0 0 + nI k) k s 0 0 < 0)
theorem ma_sh {s : Sg} {u : Nat} {p r w : Int32} : maM s (shP1 u) p r w = maM s 0 p r w := by
  have h : ∀ m : Int32, (0 ≤ m ∧ m ≤ 2) → maM s m p r w = maM s 0 p r w := by
    intro m hm
    have h0 : (0 : Int32) ≤ 0 ∧ (0 : Int32) ≤ 2 := by decide
    unfold maM
    simp only [hm, h0, true_and, and_self]
  refine h _ ?_
  unfold shP1
  by_cases c1 : u = 108
  · rw [if_pos c1]; decide
  · rw [if_neg c1]
    by_cases c2 : u = 102
    · rw [if_pos c2]; decide
    · rw [if_neg c2]; decide
theorem sw_82 {u : Nat} {l0 : Option Value} {N : qHp} (hu : knP u ≠ 0) : qEx 82 (7, [l0], [.int (nI u)], N) = if u = 99 then qEx 82 (146, [l0], [], N) else if u = 102 then qEx 82 (86, [l0], [], N) else if u = 108 then qEx 82 (56, [l0], [], N) else if u = 112 then qEx 82 (116, [l0], [], N) else if u = 116 then qEx 82 (168, [l0], [], N) else qEx 82 (183, [l0], [], N) := by
  rw [x_82_7]
  rcases kn_6 hu with rfl | rfl | rfl | rfl | rfl | rfl
  all_goals simp (config := {decide := true}) only [if_true, if_false]
end KR
