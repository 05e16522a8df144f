/-! the class: the history's constructor-/
section KE
variable {N : qHp} {a n S : Nat}
theorem s_10n (h1 : N.1 = (n, S)) (hs : stOK N) (h4 : 4 ≤ n) : ∃ N', qRun 10 [.ref n] (hN N (1, qDf 1)) = some (none, N') ∧ N' = cB N' n iniS ∧ N'.1 = (n + 56, S + 697) ∧ ∀ q, q < n → N'.2 q = N.2 q := by
  obtain ⟨u1, u2, u3⟩ := @hN_new N (1, qDf 1) n S h1
  have hs' : stOK (hN N (1, qDf 1)) := by
    unfold stOK
    rw [u3 1 (by omega), u3 2 (by omega), u3 3 (by omega)]; exact hs
  obtain ⟨N', r1, r2, r3, r4⟩ := @s_10 (hN N (1, qDf 1)) n (S + 11) u1 u2 hs' h4
  exact ⟨N', r1, r2, r3, fun q hq => by rw [r4 q hq, u3 q (by omega)]⟩
/-- centres that stand stay, under what is done elsewhere -/
theorem cB_keep {X Y : qHp} {o : Nat} {s : Sg} (h : X = cB X o s) (hk : ∀ q, o ≤ q → q < o + 56 → Y.2 q = X.2 q) : Y = cB Y o s := by
  refine Prod.ext rfl (funext fun q => ?_)
  simp only [cB]
  by_cases hr : o ≤ q ∧ q < o + 56
  · rw [if_pos hr, hk q hr.1 hr.2]
    have := congrArg (fun z => z.2 q) h
    simp only [cB] at this
    rw [if_pos hr] at this
    exact this
  · rw [if_neg hr]
theorem s_37 (h1 : N.1 = (a + 1, S)) (h2 : N.2 a = some (2, [.null, .int 0, .int 0])) (hs : stOK N) (h4 : 4 ≤ a) : ∃ N', qRun 37 [.ref a] N = some (none, N') ∧ N'.1 = (a + 394, S + 4886) ∧ N'.2 a = some (2, [.ref (a + 1), .int 0, .int 0]) ∧ N'.2 (a + 1) = some (13, nlR a 2 7 7 56) ∧ (∀ j, j < 7 → N' = cB N' (a + 2 + 56 * j) iniS) ∧ ∀ q, q < a → N'.2 q = N.2 q := by
  obtain ⟨N1, e1, a1, b1, c1, d1⟩ := @al_o N a (a + 1) S 13 2 0 (List.replicate ((7 : Int32).toNatClampNeg) .null) _ (.array (.object "LetterRuns$Centre")) h1 h2 (by omega) (by simp) rfl
  have a1' : N1.1 = (a + 2, S + 7) := by rw [a1, List.length_replicate]; rfl
  have loop : ∀ (k j : Nat) (X : qHp), j + k = 7 → X.1 = (a + 2 + 56 * j, S + 7 + 697 * j) → X.2 a = some (2, [.ref (a + 1), .int 0, .int 0]) → X.2 (a + 1) = some (13, nlR a 2 7 j 56) → (∀ i, i < j → X = cB X (a + 2 + 56 * i) iniS) → (∀ q, q < a → X.2 q = N.2 q) → ∃ N', qEx 37 (15, [some (.ref a), some (.int (nI j))], [], X) = some (none, N') ∧ N'.1 = (a + 394, S + 4886) ∧ N'.2 a = some (2, [.ref (a + 1), .int 0, .int 0]) ∧ N'.2 (a + 1) = some (13, nlR a 2 7 7 56) ∧ (∀ j, j < 7 → N' = cB N' (a + 2 + 56 * j) iniS) ∧ ∀ q, q < a → N'.2 q = N.2 q := by
    intro k
    induction k with
    | zero =>
      intro j X hj x1 x2 x3 x4 x5
      have : j = 7 := by omega
      subst this
      have e : ((6 : Int32) < nI 7) = True := eq_true (by decide)
      refine ⟨X, ?_, by rw [x1], x2, x3, x4, x5⟩
      rw [x_37_15]
      simp only [x_37_0, x_37_1, x_37_4, x_37_5, x_37_7, x_37_10, x_37_13, x_37_14, x_37_16, x_37_18, x_37_21, x_37_22, x_37_25, x_37_26, x_37_29, x_37_30, x_37_33, x_37_34, x_37_37, x_37_40, Option.bind_some, Option.bind_none, Option.toList_some, Option.toList_none, List.cons_append, List.nil_append, pNl_i, pNl_r, pNl_u, pNl_n, bI_0, bI_1, nn_or, or_nn, not_false_eq_true, not_true_eq_false, i1000, i1e0, true_or, or_true, Decidable.not_not, if_true, if_false, Bool.false_eq_true, Int32.zero_add, true_and, and_true, e]
    | succ k ih =>
      intro j X hj x1 x2 x3 x4 x5
      have e : ((6 : Int32) < nI j) = False := eq_false (by rw [show (6 : Int32) = nI 6 from rfl, nI_lt_iff (by omega) (by omega)]; omega)
      have hsX : stOK X := by unfold stOK; rw [x5 1 (by omega), x5 2 (by omega), x5 3 (by omega)]; exact hs
      obtain ⟨Y, y1, y2, y3, y4⟩ := @s_10n X (a + 2 + 56 * j) _ x1 hsX (by omega)
      have hg : hG X a 2 0 = some (.ref (a + 1)) := hG_of x2
      have hX1 : X.1.1 = a + 2 + 56 * j := by rw [x1]
      have ya1 : Y.2 (a + 1) = some (13, nlR a 2 7 j 56) := by rw [y4 _ (by omega)]; exact x3
      have yo : Y.2 (a + 2 + 56 * j) = some (1, [.ref (a + 2 + 56 * j + 1), .ref (a + 2 + 56 * j + 2), .ref (a + 2 + 56 * j + 3), .ref (a + 2 + 56 * j + 4), .ref (a + 2 + 56 * j + 5), .int (iniS 0 1), .int (iniS 0 0), .int (iniS 0 5), .int (iniS 0 2), .int (iniS 0 3), .int (iniS 0 6)]) := by
        have := congrArg (fun z => z.2 (a + 2 + 56 * j)) y2
        exact this.trans cb_0
      have hsa : hSA Y (a + 1) (nI j) (a + 2 + 56 * j) = some (hU Y (a + 1) (13, nlR a 2 7 (j + 1) 56)) := by
        unfold hSA
        rw [ya1, yo]
        simp only [Option.bind_some]
        rw [nI_clamp (by omega), if_pos ⟨rfl, nI_pos (by omega), by simp [nlR]; omega⟩, nlR_s (by omega)]
      obtain ⟨N', r1, r2⟩ := ih (j + 1) (hU Y (a + 1) (13, nlR a 2 7 (j + 1) 56)) (by omega) (by rw [hU_1, y3, show a + 2 + 56 * j + 56 = a + 2 + 56 * (j + 1) by omega, show S + 7 + 697 * j + 697 = S + 7 + 697 * (j + 1) by omega]) (by rw [hU_at, if_neg (by omega), y4 _ (by omega)]; exact x2) (by rw [hU_at, if_pos rfl]) (fun i hi => by
        rcases Nat.lt_or_ge i j with z | z
        · exact cB_keep (x4 i z) fun q q1 q2 => by rw [hU_at, if_neg (by omega), y4 _ (by omega)]
        · have : i = j := by omega
          subst this
          exact cB_keep y2 fun q q1 q2 => by rw [hU_at, if_neg (by omega)]) (fun q hq => by rw [hU_at, if_neg (by omega), y4 _ (by omega)]; exact x5 q hq)
      refine ⟨N', ?_, r2⟩
      rw [← r1, x_37_15]
      simp only [x_37_0, x_37_1, x_37_4, x_37_5, x_37_7, x_37_10, x_37_13, x_37_14, x_37_16, x_37_18, x_37_21, x_37_22, x_37_25, x_37_26, x_37_29, x_37_30, x_37_33, x_37_34, x_37_37, x_37_40, Option.bind_some, Option.bind_none, Option.toList_some, Option.toList_none, List.cons_append, List.nil_append, pNl_i, pNl_r, pNl_u, pNl_n, bI_0, bI_1, nn_or, or_nn, not_false_eq_true, not_true_eq_false, i1000, i1e0, true_or, or_true, Decidable.not_not, if_true, if_false, Bool.false_eq_true, Int32.zero_add, true_and, and_true, e, hg, hX1, y1, hsa, nI_1]
  obtain ⟨N', r1, r2, r3⟩ := loop 7 0 N1 (by omega) a1' b1 (by rw [c1]; exact congrArg (fun l => some (13, l)) nlR_0) (fun i hi => by omega) (fun q hq => d1 q (by omega) (by omega))
  refine ⟨N', ?_, r2, r3⟩
  refine qRun_of ?_ (by rw [r2, h1]; rfl)
  rw [en_37, ← r1]
  rw [x_37_0, x_37_1, x_37_4, x_37_5, x_37_7 (by decide), x_37_10, e1, Option.bind_some, x_37_13, x_37_14 pNl_r]
  rfl
end KE
