/-! the class: rows, machines, batches and pads when they are made -/
theorem al_o {N : qHp} {a n S t c f : Nat} {l vs : List Value} {ty : FieldType} (h1 : N.1 = (n, S)) (h2 : N.2 a = some (c, vs)) (h3 : n ≠ a) (h4 : f < vs.length) (h5 : qFit ty (.ref n) = true) : ∃ N', hP (hN N (t, l)) a c f ty (.ref N.1.1) = some N' ∧ N'.1 = (n + 1, S + l.length) ∧ N'.2 a = some (c, vs.set f (.ref n)) ∧ N'.2 n = some (t, l) ∧ ∀ q, q ≠ a → q ≠ n → N'.2 q = N.2 q := by
  have h1' : N.1.1 = n := by rw [h1]
  refine ⟨hU (hN N (t, l)) a (c, vs.set f (.ref n)), ?_, ?_, ?_, ?_, ?_⟩
  · rw [h1']
    refine hP_of ?_ h4 h5
    simp only [hN]
    rw [if_neg (by omega)]; exact h2
  · simp only [hU, hN, h1]
  · simp only [hU]; rw [if_pos trivial]
  · simp only [hU, hN]
    rw [if_neg h3, if_pos h1'.symm]
  · intro q ha hb
    simp only [hU, hN]
    rw [if_neg ha, if_neg (by omega)]
theorem s_0 {N : qHp} {a : Nat} : qRun 0 [.ref a] N = some (none, N) := by
  refine qRun_of ?_ rfl
  rw [en_0]
  simp only [x_0_0, x_0_1, x_0_4, Option.bind_some, Option.bind_none, Option.toList_some, Option.toList_none, List.cons_append, List.nil_append, pNl_i, pNl_r, pNl_u, pNl_n, bI_0, bI_1, nn_or, or_nn, not_false_eq_true, not_true_eq_false, i1000, i1e0, true_or, or_true, Decidable.not_not, if_true, if_false, Bool.false_eq_true, Int32.zero_add, true_and, and_true]
theorem s_58 {N : qHp} {a n S : Nat} (h1 : N.1 = (n, S)) (h2 : N.2 a = some (5, [.null, .int 0])) (h3 : a < n) : ∃ N', qRun 58 [.ref a] N = some (none, N') ∧ N'.1 = (n + 1, S + 40) ∧ N'.2 a = some (5, [.ref n, .int 0]) ∧ N'.2 n = some (8, ia 40 fun _ => 0) ∧ ∀ q, q ≠ a → q ≠ n → N'.2 q = N.2 q := by
  obtain ⟨N1, e1, a1, b1, c1, d1⟩ := @al_o N a n S 8 5 0 (List.replicate ((40 : Int32).toNatClampNeg) (.int 0)) _ (.array .int) h1 h2 (by omega) (by simp) rfl
  have a1' : N1.1 = (n + 1, S + 40) := by
    rw [a1, List.length_replicate]; rfl
  refine ⟨N1, ?_, a1', b1, ?_, d1⟩
  · refine qRun_of ?_ (by rw [a1', h1]; rfl)
    rw [en_58]
    rw [x_58_0, x_58_1, x_58_4, x_58_5, x_58_7 (by decide), x_58_9, e1, Option.bind_some, x_58_12]
  · rw [c1, ia_rep]; rfl
theorem s_46 {N : qHp} {a n S : Nat} (h1 : N.1 = (n, S)) (h2 : N.2 a = some (4, [.null, .int 0, .int 0, .int 0, .int 0, .int 0, .int 0])) (h3 : a < n) : ∃ N', qRun 46 [.ref a] N = some (none, N') ∧ N'.1 = (n + 1, S + 80) ∧ N'.2 a = some (4, [.ref n, .int 0, .int 0, .int 0, .int 0, .int 0, .int 0]) ∧ N'.2 n = some (10, ia 80 fun _ => 0) ∧ ∀ q, q ≠ a → q ≠ n → N'.2 q = N.2 q := by
  obtain ⟨N1, e1, a1, b1, c1, d1⟩ := @al_o N a n S 10 4 0 (List.replicate ((80 : Int32).toNatClampNeg) (.int 0)) _ (.array .char) h1 h2 (by omega) (by simp) rfl
  have a1' : N1.1 = (n + 1, S + 80) := by
    rw [a1, List.length_replicate]; rfl
  refine ⟨N1, ?_, a1', b1, ?_, d1⟩
  · refine qRun_of ?_ (by rw [a1', h1]; rfl)
    rw [en_46]
    rw [x_46_0, x_46_1, x_46_4, x_46_5, x_46_7 (by decide), x_46_9, e1, Option.bind_some, x_46_12]
  · rw [c1, ia_rep]; rfl
theorem hN_new {N : qHp} {c : qCel} {n S : Nat} (h1 : N.1 = (n, S)) : (hN N c).1 = (n + 1, S + c.2.length) ∧ (hN N c).2 n = some c ∧ ∀ q, q ≠ n → (hN N c).2 q = N.2 q := by
  have h1' : N.1.1 = n := by rw [h1]
  refine ⟨by simp only [hN, h1], ?_, fun q hq => ?_⟩
  · simp only [hN]; rw [if_pos h1'.symm]
  · simp only [hN]; rw [if_neg (by omega)]
theorem s_42 {N : qHp} {a n S : Nat} (h1 : N.1 = (n, S)) (h2 : N.2 a = some (3, [.null, .int 0, .int 0, .int 0, .int 0, .int 0])) (h3 : a < n) : ∃ N', qRun 42 [.ref a] N = some (none, N') ∧ N'.1 = (n + 2, S + 42) ∧ N'.2 a = some (3, [.ref n, .int (-6), .int 0, .int (-6), .int 0, .int 0]) ∧ N'.2 n = some (5, [.ref (n + 1), .int 0]) ∧ N'.2 (n + 1) = some (8, ia 40 fun _ => 0) ∧ ∀ q, q ≠ a → q ≠ n → q ≠ n + 1 → N'.2 q = N.2 q := by
  have h1' : N.1.1 = n := by rw [h1]
  obtain ⟨u1, u2, u3⟩ := @hN_new N (5, qDf 5) n S h1
  obtain ⟨N1, e1, a1, b1, c1, d1⟩ := @s_58 (hN N (5, qDf 5)) n (n + 1) (S + 2) u1 u2 (by omega)
  have o1 : N1.2 a = some (3, [.null, .int 0, .int 0, .int 0, .int 0, .int 0]) := by rw [d1 a (by omega) (by omega), u3 a (by omega)]; exact h2
  have p1 : hP N1 a 3 0 (.object "LetterRuns$Row") (.ref n) = some (hU N1 a (3, [.ref n, .int 0, .int 0, .int 0, .int 0, .int 0])) := hP_of o1 (by simp) rfl
  have p2 : hP (hU N1 a (3, [.ref n, .int 0, .int 0, .int 0, .int 0, .int 0])) a 3 1 .int (.int (-6)) = some (hU N1 a (3, [.ref n, .int (-6), .int 0, .int 0, .int 0, .int 0])) := by
    rw [hP_of (by rw [hU_at, if_pos rfl]) (by simp) rfl, hU_hU]; rfl
  have p3 : hP (hU N1 a (3, [.ref n, .int (-6), .int 0, .int 0, .int 0, .int 0])) a 3 3 .int (.int (-6)) = some (hU N1 a (3, [.ref n, .int (-6), .int 0, .int (-6), .int 0, .int 0])) := by
    rw [hP_of (by rw [hU_at, if_pos rfl]) (by simp) rfl, hU_hU]; rfl
  have f1 : (hU N1 a (3, [.ref n, .int (-6), .int 0, .int (-6), .int 0, .int 0])).1 = (n + 2, S + 42) := by rw [hU_1, a1]
  refine ⟨hU N1 a (3, [.ref n, .int (-6), .int 0, .int (-6), .int 0, .int 0]), ?_, f1, ?_, ?_, ?_, fun q q1 q2 q3 => ?_⟩
  · refine qRun_of ?_ (by rw [f1, h1]; rfl)
    rw [en_42]
    rw [x_42_0, x_42_1, x_42_4, x_42_5, x_42_8, h1', x_42_9, e1, Option.bind_some]
    simp only [x_42_12, x_42_15, x_42_16, x_42_18, x_42_21, x_42_22, x_42_24, x_42_27, Option.bind_some, Option.bind_none, Option.toList_some, Option.toList_none, List.cons_append, List.nil_append, pNl_i, pNl_r, pNl_u, pNl_n, bI_0, bI_1, nn_or, or_nn, not_false_eq_true, not_true_eq_false, i1000, i1e0, true_or, or_true, Decidable.not_not, if_true, if_false, Bool.false_eq_true, Int32.zero_add, true_and, and_true, p1, p2, p3]
  · rw [hU_at, if_pos rfl]
  · rw [hU_at, if_neg (by omega)]; exact b1
  · rw [hU_at, if_neg (by omega)]; exact c1
  · rw [hU_at, if_neg q1, d1 q q2 q3, u3 q q2]
