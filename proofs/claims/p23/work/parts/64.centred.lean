/-! the class: a centre's constructor -/
theorem fi_at {i : Nat} (hi : i < 9) : (([3, 20, 2, 5, 480, 0, 50, 30, 10] : List Int32).map Value.int)[i]? = some (.int (iniF i)) := by
  match i, hi with
  | 0, _ | 1, _ | 2, _ | 3, _ | 4, _ | 5, _ | 6, _ | 7, _ | 8, _ => rfl
section KD
variable {N : qHp} {o S : Nat}
def fU (i : Nat) : Nat → Int32 := fun k => if k < i then iniF k else 0
def gU (i : Nat) : Nat → Int32 := fun k => if k < i then 720 else 0
theorem fU_s {i : Nat} : up (fU i) i (iniF i) = fU (i + 1) := by
  funext k; unfold up fU
  by_cases h : k = i
  · rw [if_pos h, if_pos (by omega), h]
  · rw [if_neg h]
    by_cases h2 : k < i
    · rw [if_pos h2, if_pos (by omega)]
    · rw [if_neg h2, if_neg (by omega)]
theorem gU_s {i : Nat} : up (gU i) i 720 = gU (i + 1) := by
  funext k; unfold up gU
  by_cases h : k = i
  · rw [if_pos h, if_pos (by omega)]
  · rw [if_neg h]
    by_cases h2 : k < i
    · rw [if_pos h2, if_pos (by omega)]
    · rw [if_neg h2, if_neg (by omega)]
/-- when all stands, it is a centre of the first day -/
theorem bd_end {B : qHp} (h : bdQ B N o S (fU 9) (gU 8) 40 3) : N = cB N o iniS := by
  obtain ⟨h1, h2, h3, h4, h5, h6, h7, h8, h9, h10, h11⟩ := h
  refine Prod.ext rfl (funext fun q => ?_)
  simp only [cB]
  by_cases hr : o ≤ q ∧ q < o + 56
  · rw [if_pos hr]
    obtain ⟨j, rfl⟩ : ∃ j, q = o + j := ⟨q - o, by omega⟩
    rw [Nat.add_sub_cancel_left]
    unfold cbC
    by_cases j0 : j = 0
    · subst j0; rw [if_pos rfl, Nat.add_zero, h2]; rfl
    rw [if_neg j0]
    by_cases j1 : j = 1
    · subst j1
      rw [if_pos rfl, h3, ia_ext (g := iniS 1) fun k hk => by unfold fU; rw [if_pos hk]; rfl]
    rw [if_neg j1]
    by_cases j2 : j = 2
    · subst j2
      rw [if_pos rfl, h4, ia_ext (g := iniS 2) fun k hk => by unfold gU iniS ini1; rw [if_pos hk, if_neg (by omega), if_pos ⟨rfl, hk⟩]]
    rw [if_neg j2]
    by_cases j3 : j = 3
    · subst j3
      rw [if_pos rfl, h5]
      unfold nlR
      congr 2
    rw [if_neg j3]
    by_cases j4 : j = 4
    · subst j4
      rw [if_pos rfl, h6]
      unfold nlR
      congr 2
    rw [if_neg j4]
    by_cases j5 : j = 5
    · subst j5; rw [if_pos rfl, h7]; rfl
    rw [if_neg j5]
    by_cases j6 : j = 6
    · subst j6; rw [if_pos rfl, h8]; rfl
    rw [if_neg j6]
    by_cases j7 : j < 47
    · rw [if_pos j7]
      have := h9 (j - 7) (by omega)
      rw [show o + 7 + (j - 7) = o + j by omega] at this
      rw [this, ia_ext (g := iniS (11 + (j - 7))) fun k hk => by unfold iniS ini1; rw [if_neg (by omega), if_neg (by omega), if_neg (by omega)]]
    rw [if_neg j7]
    obtain ⟨m, hm⟩ : ∃ m, (j - 47) / 3 = m := ⟨_, rfl⟩
    obtain ⟨x1, x2, x3⟩ := h10 m (by omega)
    by_cases j8 : (j - 47) % 3 = 0
    · rw [if_pos j8, hm]
      have e : j = 47 + 3 * m := by omega
      rw [e, show o + (47 + 3 * m) = o + 47 + 3 * m by omega, x1, show o + 47 + 3 * m + 1 = o + 48 + 3 * m by omega]
      obtain rfl | rfl | rfl : m = 0 ∨ m = 1 ∨ m = 2 := by omega
      · rfl
      · rfl
      · rfl
    rw [if_neg j8]
    by_cases j9 : (j - 47) % 3 = 1
    · rw [if_pos j9, hm]
      have e : j = 48 + 3 * m := by omega
      rw [e, show o + (48 + 3 * m) = o + 48 + 3 * m by omega, x2]
      obtain rfl | rfl | rfl : m = 0 ∨ m = 1 ∨ m = 2 := by omega
      · rfl
      · rfl
      · rfl
    rw [if_neg j9, hm]
    have e : j = 49 + 3 * m := by omega
    rw [e, show o + (49 + 3 * m) = o + 48 + 3 * m + 1 by omega, x3, ia_ext (g := iniS (7 + m)) fun k hk => by unfold iniS ini1; rw [if_neg (by omega), if_neg (by omega), if_neg (by omega)]]
  · rw [if_neg hr]
theorem s_10 (h1 : N.1 = (o + 1, S)) (h2 : N.2 o = some (1, [.null, .null, .null, .null, .null, .int 0, .int 0, .int 0, .int 0, .int 0, .int 0])) (hs : stOK N) (ho : 4 ≤ o) : ∃ N', qRun 10 [.ref o] N = some (none, N') ∧ N' = cB N' o iniS ∧ N'.1 = (o + 56, S + 686) ∧ ∀ q, q < o → N'.2 q = N.2 q := by
  obtain ⟨N1, e1, a1, b1, c1, d1⟩ := @al_o N o (o + 1) S 8 1 0 (List.replicate ((9 : Int32).toNatClampNeg) (.int 0)) _ (.array .int) h1 h2 (by omega) (by simp) rfl
  obtain ⟨N2, e2, a2, b2, c2, d2⟩ := @al_o N1 o (o + 2) _ 8 1 1 (List.replicate ((8 : Int32).toNatClampNeg) (.int 0)) _ (.array .int) a1 b1 (by omega) (by simp) rfl
  obtain ⟨N3, e3, a3, b3, c3, d3⟩ := @al_o N2 o (o + 3) _ 11 1 2 (List.replicate ((40 : Int32).toNatClampNeg) .null) _ (.array (.object "LetterRuns$Batch")) a2 b2 (by omega) (by simp) rfl
  obtain ⟨N4, e4, a4, b4, c4, d4⟩ := @al_o N3 o (o + 4) _ 12 1 3 (List.replicate ((3 : Int32).toNatClampNeg) .null) _ (.array (.object "LetterRuns$Machine")) a3 b3 (by omega) (by simp) rfl
  have a4' : N4.1 = (o + 5, S + 60) := by
    rw [a4]
    simp only [List.length_replicate]
    rw [show (9 : Int32).toNatClampNeg = 9 from rfl, show (8 : Int32).toNatClampNeg = 8 from rfl, show (40 : Int32).toNatClampNeg = 40 from rfl, show (3 : Int32).toNatClampNeg = 3 from rfl]
  obtain ⟨u1, u2, u3⟩ := @hN_new N4 (5, qDf 5) _ _ a4'
  obtain ⟨N5, e5, a5, b5, c5, d5⟩ := @s_58 (hN N4 (5, qDf 5)) (o + 5) (o + 6) _ u1 u2 (by omega)
  have o5 : N5.2 o = some (1, [.ref (o + 1), .ref (o + 2), .ref (o + 3), .ref (o + 4), .null, .int 0, .int 0, .int 0, .int 0, .int 0, .int 0]) := by
    rw [d5 o (by omega) (by omega), u3 o (by omega)]; exact b4
  have p5 : hP N5 o 1 4 (.object "LetterRuns$Row") (.ref (o + 5)) = some (hU N5 o (1, [.ref (o + 1), .ref (o + 2), .ref (o + 3), .ref (o + 4), .ref (o + 5), .int 0, .int 0, .int 0, .int 0, .int 0, .int 0])) := hP_of o5 (by simp) rfl
  generalize hN6 : hU N5 o (1, [.ref (o + 1), .ref (o + 2), .ref (o + 3), .ref (o + 4), .ref (o + 5), .int 0, .int 0, .int 0, .int 0, .int 0, .int 0]) = N6 at p5
  have z9 : ∀ n, ia n (fun _ => 0) = ia n (fU 0) := fun n => ia_ext fun k hk => by unfold fU; rw [if_neg (by omega)]
  have z8 : ∀ n, ia n (fun _ => 0) = ia n (gU 0) := fun n => ia_ext fun k hk => by unfold gU; rw [if_neg (by omega)]
  have q6 : bdQ N N6 o (S + 102) (fU 0) (gU 0) 0 0 := by
    rw [← hN6]
    refine ⟨?_, ?_, ?_, ?_, ?_, ?_, ?_, ?_, fun b hb => by omega, fun m hm => by omega, fun q hq => ?_⟩
    · rw [hU_1, a5]; rfl
    · rw [hU_at, if_pos rfl]
    · rw [hU_at, if_neg (by omega), d5 _ (by omega) (by omega), u3 _ (by omega), d4 _ (by omega) (by omega), d3 _ (by omega) (by omega), d2 _ (by omega) (by omega), c1, ia_rep, ← z9]; rfl
    · rw [hU_at, if_neg (by omega), d5 _ (by omega) (by omega), u3 _ (by omega), d4 _ (by omega) (by omega), d3 _ (by omega) (by omega), c2, ia_rep, ← z8]; rfl
    · rw [hU_at, if_neg (by omega), d5 _ (by omega) (by omega), u3 _ (by omega), d4 _ (by omega) (by omega), c3]
      exact congrArg (fun l => some (11, l)) nlR_0
    · rw [hU_at, if_neg (by omega), d5 _ (by omega) (by omega), u3 _ (by omega), c4]
      exact congrArg (fun l => some (12, l)) nlR_0
    · rw [hU_at, if_neg (by omega), b5]
    · rw [hU_at, if_neg (by omega), c5]
    · rw [hU_at, if_neg (by omega), d5 _ (by omega) (by omega), u3 _ (by omega), d4 _ (by omega) (by omega), d3 _ (by omega) (by omega), d2 _ (by omega) (by omega), d1 _ (by omega) (by omega)]
  have mac : ∀ (k m : Nat) (X : qHp) (T : Nat), m + k = 3 → bdQ N X o T (fU 9) (gU 8) 40 m → ∃ X', qEx 10 (125, [some (.ref o), some (.int (nI m))], [], X) = some (none, X') ∧ bdQ N X' o (T + 48 * k) (fU 9) (gU 8) 40 3 := by
    intro k
    induction k with
    | zero =>
      intro m X T hm hX
      have : m = 3 := by omega
      subst this
      have e : ((3 : Int32) ≤ nI 3) = True := eq_true (by decide)
      refine ⟨X, ?_, hX⟩
      rw [x_10_125]
      simp only [x_10_0, x_10_1, x_10_4, x_10_5, x_10_7, x_10_9, x_10_12, x_10_13, x_10_15, x_10_17, x_10_20, x_10_21, x_10_23, x_10_26, x_10_29, x_10_30, x_10_31, x_10_34, x_10_37, x_10_38, x_10_41, x_10_42, x_10_45, x_10_48, x_10_49, x_10_50, x_10_51, x_10_53, x_10_56, x_10_57, x_10_60, x_10_61, x_10_64, x_10_65, x_10_66, x_10_67, x_10_70, x_10_73, x_10_74, x_10_75, x_10_76, x_10_78, x_10_81, x_10_82, x_10_85, x_10_86, x_10_89, x_10_90, x_10_93, x_10_96, x_10_97, x_10_98, x_10_99, x_10_101, x_10_104, x_10_105, x_10_108, x_10_109, x_10_112, x_10_113, x_10_116, x_10_117, x_10_120, x_10_123, x_10_124, x_10_126, x_10_127, x_10_130, x_10_131, x_10_134, x_10_135, x_10_138, x_10_139, x_10_142, x_10_143, x_10_146, x_10_149, Option.bind_some, Option.bind_none, Option.toList_some, Option.toList_none, List.cons_append, List.nil_append, pNl_i, pNl_r, pNl_u, pNl_n, bI_0, bI_1, nn_or, or_nn, not_false_eq_true, not_true_eq_false, i1000, i1e0, true_or, or_true, Decidable.not_not, if_true, if_false, Bool.false_eq_true, Int32.zero_add, true_and, and_true, e]
    | succ k ih =>
      intro m X T hm hX
      have e : ((3 : Int32) ≤ nI m) = False := by rw [show (3 : Int32) = nI 3 from rfl, nI_le_iff (by omega) (by omega)]; simp; omega
      obtain ⟨X1, X2, r1, r2, r3⟩ := bd_m hX (by omega)
      obtain ⟨X3, r4, r5⟩ := ih (m + 1) X2 (T + 48) (by omega) r3
      have hg : hG X o 1 3 = some (.ref (o + 4)) := hG_of hX.2.1
      refine ⟨X3, ?_, by rw [show T + 48 * (k + 1) = T + 48 + 48 * k by omega]; exact r5⟩
      rw [← r4, x_10_125]
      simp only [x_10_0, x_10_1, x_10_4, x_10_5, x_10_7, x_10_9, x_10_12, x_10_13, x_10_15, x_10_17, x_10_20, x_10_21, x_10_23, x_10_26, x_10_29, x_10_30, x_10_31, x_10_34, x_10_37, x_10_38, x_10_41, x_10_42, x_10_45, x_10_48, x_10_49, x_10_50, x_10_51, x_10_53, x_10_56, x_10_57, x_10_60, x_10_61, x_10_64, x_10_65, x_10_66, x_10_67, x_10_70, x_10_73, x_10_74, x_10_75, x_10_76, x_10_78, x_10_81, x_10_82, x_10_85, x_10_86, x_10_89, x_10_90, x_10_93, x_10_96, x_10_97, x_10_98, x_10_99, x_10_101, x_10_104, x_10_105, x_10_108, x_10_109, x_10_112, x_10_113, x_10_116, x_10_117, x_10_120, x_10_123, x_10_124, x_10_126, x_10_127, x_10_130, x_10_131, x_10_134, x_10_135, x_10_138, x_10_139, x_10_142, x_10_143, x_10_146, x_10_149, Option.bind_some, Option.bind_none, Option.toList_some, Option.toList_none, List.cons_append, List.nil_append, pNl_i, pNl_r, pNl_u, pNl_n, bI_0, bI_1, nn_or, or_nn, not_false_eq_true, not_true_eq_false, i1000, i1e0, true_or, or_true, Decidable.not_not, if_true, if_false, Bool.false_eq_true, Int32.zero_add, true_and, and_true, e, hg, r1, r2, nI_1]
  have bat : ∀ (k b : Nat) (X : qHp) (T : Nat), b + k = 40 → bdQ N X o T (fU 9) (gU 8) b 0 → ∃ X', qEx 10 (98, [some (.ref o), some (.int (nI b))], [], X) = some (none, X') ∧ bdQ N X' o (T + 11 * k + 144) (fU 9) (gU 8) 40 3 := by
    intro k
    induction k with
    | zero =>
      intro b X T hb hX
      have : b = 40 := by omega
      subst this
      have e : ((40 : Int32) ≤ nI 40) = True := eq_true (by decide)
      obtain ⟨X', r1, r2⟩ := mac 3 0 X T (by omega) hX
      refine ⟨X', ?_, r2⟩
      rw [x_10_98]
      simp only [x_10_0, x_10_1, x_10_4, x_10_5, x_10_7, x_10_9, x_10_12, x_10_13, x_10_15, x_10_17, x_10_20, x_10_21, x_10_23, x_10_26, x_10_29, x_10_30, x_10_31, x_10_34, x_10_37, x_10_38, x_10_41, x_10_42, x_10_45, x_10_48, x_10_49, x_10_50, x_10_51, x_10_53, x_10_56, x_10_57, x_10_60, x_10_61, x_10_64, x_10_65, x_10_66, x_10_67, x_10_70, x_10_73, x_10_74, x_10_75, x_10_76, x_10_78, x_10_81, x_10_82, x_10_85, x_10_86, x_10_89, x_10_90, x_10_93, x_10_96, x_10_97, x_10_99, x_10_101, x_10_104, x_10_105, x_10_108, x_10_109, x_10_112, x_10_113, x_10_116, x_10_117, x_10_120, x_10_123, x_10_124, x_10_126, x_10_127, x_10_130, x_10_131, x_10_134, x_10_135, x_10_138, x_10_139, x_10_142, x_10_143, x_10_146, x_10_149, Option.bind_some, Option.bind_none, Option.toList_some, Option.toList_none, List.cons_append, List.nil_append, pNl_i, pNl_r, pNl_u, pNl_n, bI_0, bI_1, nn_or, or_nn, not_false_eq_true, not_true_eq_false, i1000, i1e0, true_or, or_true, Decidable.not_not, if_true, if_false, Bool.false_eq_true, Int32.zero_add, true_and, and_true, e]
      exact r1
    | succ k ih =>
      intro b X T hb hX
      have e : ((40 : Int32) ≤ nI b) = False := by rw [show (40 : Int32) = nI 40 from rfl, nI_le_iff (by omega) (by omega)]; simp; omega
      obtain ⟨X2, r2, r3⟩ := bd_b hX (by omega)
      obtain ⟨X3, r4, r5⟩ := ih (b + 1) X2 (T + 11) (by omega) r3
      have hg : hG X o 1 2 = some (.ref (o + 3)) := hG_of hX.2.1
      refine ⟨X3, ?_, by rw [show T + 11 * (k + 1) + 144 = T + 11 + 11 * k + 144 by omega]; exact r5⟩
      rw [← r4, x_10_98]
      simp only [x_10_0, x_10_1, x_10_4, x_10_5, x_10_7, x_10_9, x_10_12, x_10_13, x_10_15, x_10_17, x_10_20, x_10_21, x_10_23, x_10_26, x_10_29, x_10_30, x_10_31, x_10_34, x_10_37, x_10_38, x_10_41, x_10_42, x_10_45, x_10_48, x_10_49, x_10_50, x_10_51, x_10_53, x_10_56, x_10_57, x_10_60, x_10_61, x_10_64, x_10_65, x_10_66, x_10_67, x_10_70, x_10_73, x_10_74, x_10_75, x_10_76, x_10_78, x_10_81, x_10_82, x_10_85, x_10_86, x_10_89, x_10_90, x_10_93, x_10_96, x_10_97, x_10_99, x_10_101, x_10_104, x_10_105, x_10_108, x_10_109, x_10_112, x_10_113, x_10_116, x_10_117, x_10_120, x_10_123, x_10_124, x_10_126, x_10_127, x_10_130, x_10_131, x_10_134, x_10_135, x_10_138, x_10_139, x_10_142, x_10_143, x_10_146, x_10_149, Option.bind_some, Option.bind_none, Option.toList_some, Option.toList_none, List.cons_append, List.nil_append, pNl_i, pNl_r, pNl_u, pNl_n, bI_0, bI_1, nn_or, or_nn, not_false_eq_true, not_true_eq_false, i1000, i1e0, true_or, or_true, Decidable.not_not, if_true, if_false, Bool.false_eq_true, Int32.zero_add, true_and, and_true, e, hg, s_0, r2, nI_1]
  have cut : ∀ (k i : Nat) (X : qHp) (T : Nat), i + k = 8 → bdQ N X o T (fU 9) (gU i) 0 0 → ∃ X', qEx 10 (75, [some (.ref o), some (.int (nI i))], [], X) = some (none, X') ∧ bdQ N X' o (T + 584) (fU 9) (gU 8) 40 3 := by
    intro k
    induction k with
    | zero =>
      intro i X T hi hX
      have : i = 8 := by omega
      subst this
      have e : ((8 : Int32) ≤ nI 8) = True := eq_true (by decide)
      obtain ⟨X', r1, r2⟩ := bat 40 0 X T (by omega) hX
      refine ⟨X', ?_, r2⟩
      rw [x_10_75]
      simp only [x_10_0, x_10_1, x_10_4, x_10_5, x_10_7, x_10_9, x_10_12, x_10_13, x_10_15, x_10_17, x_10_20, x_10_21, x_10_23, x_10_26, x_10_29, x_10_30, x_10_31, x_10_34, x_10_37, x_10_38, x_10_41, x_10_42, x_10_45, x_10_48, x_10_49, x_10_50, x_10_51, x_10_53, x_10_56, x_10_57, x_10_60, x_10_61, x_10_64, x_10_65, x_10_66, x_10_67, x_10_70, x_10_73, x_10_74, x_10_76, x_10_78, x_10_81, x_10_82, x_10_85, x_10_86, x_10_89, x_10_90, x_10_93, x_10_96, x_10_97, x_10_99, x_10_101, x_10_104, x_10_105, x_10_108, x_10_109, x_10_112, x_10_113, x_10_116, x_10_117, x_10_120, x_10_123, x_10_124, x_10_126, x_10_127, x_10_130, x_10_131, x_10_134, x_10_135, x_10_138, x_10_139, x_10_142, x_10_143, x_10_146, x_10_149, Option.bind_some, Option.bind_none, Option.toList_some, Option.toList_none, List.cons_append, List.nil_append, pNl_i, pNl_r, pNl_u, pNl_n, bI_0, bI_1, nn_or, or_nn, not_false_eq_true, not_true_eq_false, i1000, i1e0, true_or, or_true, Decidable.not_not, if_true, if_false, Bool.false_eq_true, Int32.zero_add, true_and, and_true, e]
      exact r1
    | succ k ih =>
      intro i X T hi hX
      have e : ((8 : Int32) ≤ nI i) = False := by rw [show (8 : Int32) = nI 8 from rfl, nI_le_iff (by omega) (by omega)]; simp; omega
      have hw := @hS_nI X (o + 2) 8 i (gU i) 720 hX.2.2.2.1 (by omega) (by omega)
      rw [gU_s] at hw
      obtain ⟨X3, r4, r5⟩ := ih (i + 1) _ T (by omega) (bd_g hX)
      have hg : hG X o 1 1 = some (.ref (o + 2)) := hG_of hX.2.1
      refine ⟨X3, ?_, r5⟩
      rw [← r4, x_10_75]
      simp only [x_10_0, x_10_1, x_10_4, x_10_5, x_10_7, x_10_9, x_10_12, x_10_13, x_10_15, x_10_17, x_10_20, x_10_21, x_10_23, x_10_26, x_10_29, x_10_30, x_10_31, x_10_34, x_10_37, x_10_38, x_10_41, x_10_42, x_10_45, x_10_48, x_10_49, x_10_50, x_10_51, x_10_53, x_10_56, x_10_57, x_10_60, x_10_61, x_10_64, x_10_65, x_10_66, x_10_67, x_10_70, x_10_73, x_10_74, x_10_76, x_10_78, x_10_81, x_10_82, x_10_85, x_10_86, x_10_89, x_10_90, x_10_93, x_10_96, x_10_97, x_10_99, x_10_101, x_10_104, x_10_105, x_10_108, x_10_109, x_10_112, x_10_113, x_10_116, x_10_117, x_10_120, x_10_123, x_10_124, x_10_126, x_10_127, x_10_130, x_10_131, x_10_134, x_10_135, x_10_138, x_10_139, x_10_142, x_10_143, x_10_146, x_10_149, Option.bind_some, Option.bind_none, Option.toList_some, Option.toList_none, List.cons_append, List.nil_append, pNl_i, pNl_r, pNl_u, pNl_n, bI_0, bI_1, nn_or, or_nn, not_false_eq_true, not_true_eq_false, i1000, i1e0, true_or, or_true, Decidable.not_not, if_true, if_false, Bool.false_eq_true, Int32.zero_add, true_and, and_true, e, hg, hw, nI_1]
  have sett : ∀ (k i : Nat) (X : qHp) (T : Nat), i + k = 9 → bdQ N X o T (fU i) (gU 0) 0 0 → ∃ X', qEx 10 (50, [some (.ref o), some (.int (nI i))], [], X) = some (none, X') ∧ bdQ N X' o (T + 584) (fU 9) (gU 8) 40 3 := by
    intro k
    induction k with
    | zero =>
      intro i X T hi hX
      have : i = 9 := by omega
      subst this
      have e : ((9 : Int32) ≤ nI 9) = True := eq_true (by decide)
      obtain ⟨X', r1, r2⟩ := cut 8 0 X T (by omega) hX
      refine ⟨X', ?_, r2⟩
      rw [x_10_50]
      simp only [x_10_0, x_10_1, x_10_4, x_10_5, x_10_7, x_10_9, x_10_12, x_10_13, x_10_15, x_10_17, x_10_20, x_10_21, x_10_23, x_10_26, x_10_29, x_10_30, x_10_31, x_10_34, x_10_37, x_10_38, x_10_41, x_10_42, x_10_45, x_10_48, x_10_49, x_10_51, x_10_53, x_10_56, x_10_57, x_10_60, x_10_61, x_10_64, x_10_65, x_10_66, x_10_67, x_10_70, x_10_73, x_10_74, x_10_76, x_10_78, x_10_81, x_10_82, x_10_85, x_10_86, x_10_89, x_10_90, x_10_93, x_10_96, x_10_97, x_10_99, x_10_101, x_10_104, x_10_105, x_10_108, x_10_109, x_10_112, x_10_113, x_10_116, x_10_117, x_10_120, x_10_123, x_10_124, x_10_126, x_10_127, x_10_130, x_10_131, x_10_134, x_10_135, x_10_138, x_10_139, x_10_142, x_10_143, x_10_146, x_10_149, Option.bind_some, Option.bind_none, Option.toList_some, Option.toList_none, List.cons_append, List.nil_append, pNl_i, pNl_r, pNl_u, pNl_n, bI_0, bI_1, nn_or, or_nn, not_false_eq_true, not_true_eq_false, i1000, i1e0, true_or, or_true, Decidable.not_not, if_true, if_false, Bool.false_eq_true, Int32.zero_add, true_and, and_true, e]
      exact r1
    | succ k ih =>
      intro i X T hi hX
      have e : ((9 : Int32) ≤ nI i) = False := by rw [show (9 : Int32) = nI 9 from rfl, nI_le_iff (by omega) (by omega)]; simp; omega
      have hl : hLI X 1 (nI i) = some (.int (iniF i)) := by
        refine hLI_of (t := 14) ?_ (Or.inr rfl) (nI_pos (by omega)) (by rw [nI_clamp (by omega)]; exact fi_at (by omega))
        rw [hX.2.2.2.2.2.2.2.2.2.2 1 (by omega)]; exact hs.1
      have hw := @hS_nI X (o + 1) 9 i (fU i) (iniF i) hX.2.2.1 (by omega) (by omega)
      rw [fU_s] at hw
      obtain ⟨X3, r4, r5⟩ := ih (i + 1) _ T (by omega) (bd_f hX)
      have hg : hG X o 1 0 = some (.ref (o + 1)) := hG_of hX.2.1
      refine ⟨X3, ?_, r5⟩
      rw [← r4, x_10_50]
      simp only [x_10_0, x_10_1, x_10_4, x_10_5, x_10_7, x_10_9, x_10_12, x_10_13, x_10_15, x_10_17, x_10_20, x_10_21, x_10_23, x_10_26, x_10_29, x_10_30, x_10_31, x_10_34, x_10_37, x_10_38, x_10_41, x_10_42, x_10_45, x_10_48, x_10_49, x_10_51, x_10_53, x_10_56, x_10_57, x_10_60, x_10_61, x_10_64, x_10_65, x_10_66, x_10_67, x_10_70, x_10_73, x_10_74, x_10_76, x_10_78, x_10_81, x_10_82, x_10_85, x_10_86, x_10_89, x_10_90, x_10_93, x_10_96, x_10_97, x_10_99, x_10_101, x_10_104, x_10_105, x_10_108, x_10_109, x_10_112, x_10_113, x_10_116, x_10_117, x_10_120, x_10_123, x_10_124, x_10_126, x_10_127, x_10_130, x_10_131, x_10_134, x_10_135, x_10_138, x_10_139, x_10_142, x_10_143, x_10_146, x_10_149, Option.bind_some, Option.bind_none, Option.toList_some, Option.toList_none, List.cons_append, List.nil_append, pNl_i, pNl_r, pNl_u, pNl_n, bI_0, bI_1, nn_or, or_nn, not_false_eq_true, not_true_eq_false, i1000, i1e0, true_or, or_true, Decidable.not_not, if_true, if_false, Bool.false_eq_true, Int32.zero_add, true_and, and_true, e, hg, hl, hw, nI_1]
  obtain ⟨N', r1, r2⟩ := sett 9 0 N6 (S + 102) (by omega) q6
  have n1' : N4.1.1 = o + 5 := by rw [a4']
  have c1' : N'.1 = (o + 56, S + 686) := r2.1
  refine ⟨N', ?_, bd_end r2, c1', r2.2.2.2.2.2.2.2.2.2.2⟩
  refine qRun_of ?_ (by rw [c1', h1]; rfl)
  rw [en_10, ← r1]
  rw [x_10_0, x_10_1, x_10_4, x_10_5, x_10_7 (by decide), x_10_9, e1, Option.bind_some]
  rw [x_10_12, x_10_13, x_10_15 (by decide), x_10_17, e2, Option.bind_some]
  rw [x_10_20, x_10_21, x_10_23 (by decide), x_10_26, e3, Option.bind_some]
  rw [x_10_29, x_10_30, x_10_31 (by decide), x_10_34, e4, Option.bind_some]
  rw [x_10_37, x_10_38, x_10_41, n1', x_10_42, e5, Option.bind_some]
  simp only [x_10_45, x_10_48, x_10_49, x_10_51, x_10_53, x_10_56, x_10_57, x_10_60, x_10_61, x_10_64, x_10_65, x_10_66, x_10_67, x_10_70, x_10_73, x_10_74, x_10_75, x_10_76, x_10_78, x_10_81, x_10_82, x_10_85, x_10_86, x_10_89, x_10_90, x_10_93, x_10_96, x_10_97, x_10_98, x_10_99, x_10_101, x_10_104, x_10_105, x_10_108, x_10_109, x_10_112, x_10_113, x_10_116, x_10_117, x_10_120, x_10_123, x_10_124, x_10_125, x_10_126, x_10_127, x_10_130, x_10_131, x_10_134, x_10_135, x_10_138, x_10_139, x_10_142, x_10_143, x_10_146, x_10_149, Option.bind_some, Option.bind_none, Option.toList_some, Option.toList_none, List.cons_append, List.nil_append, pNl_i, pNl_r, pNl_u, pNl_n, bI_0, bI_1, nn_or, or_nn, not_false_eq_true, not_true_eq_false, i1000, i1e0, true_or, or_true, Decidable.not_not, if_true, if_false, Bool.false_eq_true, Int32.zero_add, true_and, and_true, p5]
  rfl
end KD
