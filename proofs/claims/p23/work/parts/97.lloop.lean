/-! the law: its start, its loop, its end -/
section LZ
variable {N M : qHp} {K : Nat → Sg} {d v x : Nat → Int32} {f z n u : Nat} {xs : List Int32} {l3 l4 : Int32} {l5 l6 l7 l8 l9 : Option Value}
theorem wq_76 (h : rV n u (K 0)) : ∃ (w : Int32) (S : Sg), qRun 76 [.ref 4] (kW N K d v x) = some (some (.int w), kW N (us K 1 S) d v x) ∧ (w < smF (K 0) 8 (-6) n) = False ∧ (smF (K 0) 1 (-6) n < w) = False := by
  obtain ⟨h00, hn, h40, hu⟩ := rV_00 h
  obtain ⟨m1, m2, m3⟩ := wm_f (s0 := K 1) h
  exact ⟨_, _, s_76 (v := v) (x := x) (d := d) hn h40 m1, m2, m3⟩
theorem wq_75 (h : rV n u (K 0)) : ∃ (a : Int32) (S : Sg), qRun 75 [.ref 4] (kW N K d v x) = some (some (.int a), kW N (us K 1 S) d v x) ∧ (a < -6) = False ∧ (1440 < a) = False ∧ (a = -6 ∨ (a < K 0 0 0) = False) := by
  obtain ⟨h00, hn, h40, hu⟩ := rV_00 h
  obtain ⟨T, m1, m2, m3, m4, a, ea, m5, m6, m7⟩ := sa_f (s0 := K 1) h
  have r1 := s_75 (M := N) (v := v) (x := x) (d := d) hn h40 m2 m3 m1 m4
  rw [show (if alB (pmN (trF K n) T) n = true then pmN (trF K n) T 0 0 else -6) = a from ea] at r1
  exact ⟨a, _, r1, m5, m6, m7⟩
theorem lz_end (h : rV n u (K 0)) : ∃ K' : Nat → Sg, qEx 150 (154, [some (.ref 0), some (.ref 4), some (.int 1), some (.int l3), some (.int l4), l5, l6, l7, l8, l9], [], kW N K d v x) = some (some (.int 1), kW N K' d v x) := by
  obtain ⟨a, S, r1, a1, a2, a3⟩ := wq_75 (N := N) (d := d) (v := v) (x := x) h
  have e1 : us K 1 S 0 = K 0 := us_ne (by omega)
  have h1 : rV n u (us K 1 S 0) := by rw [e1]; exact h
  obtain ⟨w, S1, r2, b1, b2⟩ := wq_76 (N := N) (d := d) (v := v) (x := x) h1
  have e2 : us (us K 1 S) 1 S1 0 = K 0 := (us_ne (by omega)).trans e1
  have h2 : rV n u (us (us K 1 S) 1 S1 0) := by rw [e2]; exact h
  obtain ⟨w2, S2, r3, c1, c2⟩ := wq_76 (N := N) (d := d) (v := v) (x := x) h2
  have e3 : us (us (us K 1 S) 1 S1) 1 S2 0 = K 0 := (us_ne (by omega)).trans e2
  obtain ⟨h00, hn, h40, hu⟩ := rV_00 h
  have q0 := @cq_0 N (us K 1 S) d v x n (by rw [e1]; exact hn) h40
  have q7 := @cq_7 N (us (us K 1 S) 1 S1) d v x n (by rw [e2]; exact hn) h40
  have q2 := @cq_2 N (us (us (us K 1 S) 1 S1) 1 S2) d v x n (by rw [e3]; exact hn) h40
  rw [e1] at q0 b1
  rw [e2] at q7 c2
  rw [e3] at q2
  refine ⟨us (us (us K 1 S) 1 S1) 1 S2, ?_⟩
  rw [x_150_154]
  rcases a3 with a3 | a3
  · have t : (a = -6) = True := eq_true a3
    simp only [x_150_0, x_150_3, x_150_4, x_150_7, x_150_8, x_150_9, x_150_10, x_150_11, x_150_12, x_150_13, x_150_14, x_150_16, x_150_19, x_150_21, x_150_24, x_150_25, x_150_26, x_150_27, x_150_28, x_150_29, x_150_30, x_150_32, x_150_34, x_150_35, x_150_38, x_150_39, x_150_42, x_150_43, x_150_45, x_150_48, x_150_50, x_150_51, x_150_52, x_150_55, x_150_57, x_150_58, x_150_59, x_150_62, x_150_64, x_150_65, x_150_66, x_150_69, x_150_71, x_150_72, x_150_73, x_150_74, x_150_76, x_150_77, x_150_80, x_150_82, x_150_84, x_150_87, x_150_88, x_150_90, x_150_93, x_150_95, x_150_98, x_150_99, x_150_100, x_150_103, x_150_105, x_150_108, x_150_109, x_150_110, x_150_113, x_150_115, x_150_118, x_150_119, x_150_120, x_150_123, x_150_125, x_150_128, x_150_129, x_150_132, x_150_135, x_150_136, x_150_139, x_150_142, x_150_143, x_150_146, x_150_147, x_150_148, x_150_151, x_150_155, x_150_158, x_150_160, x_150_161, x_150_164, x_150_166, x_150_168, x_150_171, x_150_173, x_150_176, x_150_179, x_150_181, x_150_183, x_150_186, x_150_188, x_150_189, x_150_190, x_150_193, x_150_196, x_150_197, x_150_200, x_150_201, x_150_203, x_150_206, x_150_209, x_150_210, x_150_213, x_150_214, x_150_215, x_150_218, x_150_221, x_150_222, x_150_225, x_150_226, Option.bind_some, Option.bind_none, Option.toList_some, Option.toList_none, List.cons_append, List.nil_append, pNl_i, pNl_r, pNl_u, pNl_n, bI_0, bI_1, nn_or, or_nn, not_false_eq_true, not_true_eq_false, i1000, i1e0, true_or, or_true, Decidable.not_not, if_true, if_false, Bool.false_eq_true, Int32.zero_add, true_and, and_true, kT4, i_10, i_00, r1, r2, r3, q0, q7, q2, a1, a2, t, b1, c2]
  · by_cases c : a = -6
    · simp only [x_150_0, x_150_3, x_150_4, x_150_7, x_150_8, x_150_9, x_150_10, x_150_11, x_150_12, x_150_13, x_150_14, x_150_16, x_150_19, x_150_21, x_150_24, x_150_25, x_150_26, x_150_27, x_150_28, x_150_29, x_150_30, x_150_32, x_150_34, x_150_35, x_150_38, x_150_39, x_150_42, x_150_43, x_150_45, x_150_48, x_150_50, x_150_51, x_150_52, x_150_55, x_150_57, x_150_58, x_150_59, x_150_62, x_150_64, x_150_65, x_150_66, x_150_69, x_150_71, x_150_72, x_150_73, x_150_74, x_150_76, x_150_77, x_150_80, x_150_82, x_150_84, x_150_87, x_150_88, x_150_90, x_150_93, x_150_95, x_150_98, x_150_99, x_150_100, x_150_103, x_150_105, x_150_108, x_150_109, x_150_110, x_150_113, x_150_115, x_150_118, x_150_119, x_150_120, x_150_123, x_150_125, x_150_128, x_150_129, x_150_132, x_150_135, x_150_136, x_150_139, x_150_142, x_150_143, x_150_146, x_150_147, x_150_148, x_150_151, x_150_155, x_150_158, x_150_160, x_150_161, x_150_164, x_150_166, x_150_168, x_150_171, x_150_173, x_150_176, x_150_179, x_150_181, x_150_183, x_150_186, x_150_188, x_150_189, x_150_190, x_150_193, x_150_196, x_150_197, x_150_200, x_150_201, x_150_203, x_150_206, x_150_209, x_150_210, x_150_213, x_150_214, x_150_215, x_150_218, x_150_221, x_150_222, x_150_225, x_150_226, Option.bind_some, Option.bind_none, Option.toList_some, Option.toList_none, List.cons_append, List.nil_append, pNl_i, pNl_r, pNl_u, pNl_n, bI_0, bI_1, nn_or, or_nn, not_false_eq_true, not_true_eq_false, i1000, i1e0, true_or, or_true, Decidable.not_not, if_true, if_false, Bool.false_eq_true, Int32.zero_add, true_and, and_true, kT4, i_10, i_00, r1, r2, r3, q0, q7, q2, a1, a2, eq_true c, b1, c2]
    · simp only [x_150_0, x_150_3, x_150_4, x_150_7, x_150_8, x_150_9, x_150_10, x_150_11, x_150_12, x_150_13, x_150_14, x_150_16, x_150_19, x_150_21, x_150_24, x_150_25, x_150_26, x_150_27, x_150_28, x_150_29, x_150_30, x_150_32, x_150_34, x_150_35, x_150_38, x_150_39, x_150_42, x_150_43, x_150_45, x_150_48, x_150_50, x_150_51, x_150_52, x_150_55, x_150_57, x_150_58, x_150_59, x_150_62, x_150_64, x_150_65, x_150_66, x_150_69, x_150_71, x_150_72, x_150_73, x_150_74, x_150_76, x_150_77, x_150_80, x_150_82, x_150_84, x_150_87, x_150_88, x_150_90, x_150_93, x_150_95, x_150_98, x_150_99, x_150_100, x_150_103, x_150_105, x_150_108, x_150_109, x_150_110, x_150_113, x_150_115, x_150_118, x_150_119, x_150_120, x_150_123, x_150_125, x_150_128, x_150_129, x_150_132, x_150_135, x_150_136, x_150_139, x_150_142, x_150_143, x_150_146, x_150_147, x_150_148, x_150_151, x_150_155, x_150_158, x_150_160, x_150_161, x_150_164, x_150_166, x_150_168, x_150_171, x_150_173, x_150_176, x_150_179, x_150_181, x_150_183, x_150_186, x_150_188, x_150_189, x_150_190, x_150_193, x_150_196, x_150_197, x_150_200, x_150_201, x_150_203, x_150_206, x_150_209, x_150_210, x_150_213, x_150_214, x_150_215, x_150_218, x_150_221, x_150_222, x_150_225, x_150_226, Option.bind_some, Option.bind_none, Option.toList_some, Option.toList_none, List.cons_append, List.nil_append, pNl_i, pNl_r, pNl_u, pNl_n, bI_0, bI_1, nn_or, or_nn, not_false_eq_true, not_true_eq_false, i1000, i1e0, true_or, or_true, Decidable.not_not, if_true, if_false, Bool.false_eq_true, Int32.zero_add, true_and, and_true, kT4, i_10, i_00, r1, r2, r3, q0, q7, q2, a1, a2, eq_false c, a3, b1, c2]
/-- one round of the law's loop -/
theorem lz_step {T k : Nat} (hN : stOK N) (h0 : N.2 0 = some (14, xs.map .int)) (hl : xs.length ≤ 260) (hT : 4 * T ≤ xs.length) (hk : k < T) (H : RP K d f z) : ∃ (K' : Nat → Sg) (d' : Nat → Int32) (f' z' : Nat) (m5 m6 m7 m8 m9 : Option Value), RP K' d' f' z' ∧ qEx 150 (32, [some (.ref 0), some (.ref 4), some (.int 1), some (.int (nI T)), some (.int (nI k)), l5, l6, l7, l8, l9], [], kW N K d v x) =
    qEx 150 (32, [some (.ref 0), some (.ref 4), some (.int 1), some (.int (nI T)), some (.int (nI (k + 1))), m5, m6, m7, m8, m9], [], kW N K' d' v x) := by
  obtain ⟨n, u, hr⟩ := H.2.1
  obtain ⟨h00, hn, h40, hu⟩ := rV_00 hr
  have hlt : (nI T ≤ nI k) = False := by rw [nI_le_iff (by omega) (by omega)]; exact eq_false (by omega)
  have e4 : (4 : Int32) * nI k = nI (4 * k) := pk_mul 4 k
  obtain ⟨told, K', d', f', z', ea, H', hc⟩ := s_90 (v := v) (x := x) (j := 4 * k) hN h0 hl (by omega) H
  obtain ⟨n', u', hr'⟩ := H'.2.1
  obtain ⟨h00', hn', h40', hu'⟩ := rV_00 hr'
  have rm := s_88 (N := N) (d := d') (v := v) (x := x) hr'
  have rn := s_89 (N := N) (d := d') (v := v) (x := x) hr'
  refine ⟨K', d', f', z', some (.int (d 1)), some (.int (K 0 0 0)), some (.int (K 0 0 1)), some (.int (K 0 0 3)), some (.int told), H', ?_⟩
  rw [x_150_32]
  rcases hc with hc | ⟨hc, hz, hK⟩
  · simp only [x_150_0, x_150_3, x_150_4, x_150_7, x_150_8, x_150_9, x_150_10, x_150_11, x_150_12, x_150_13, x_150_14, x_150_16, x_150_19, x_150_21, x_150_24, x_150_25, x_150_26, x_150_27, x_150_28, x_150_29, x_150_30, x_150_34, x_150_35, x_150_38, x_150_39, x_150_42, x_150_43, x_150_45, x_150_48, x_150_50, x_150_51, x_150_52, x_150_55, x_150_57, x_150_58, x_150_59, x_150_62, x_150_64, x_150_65, x_150_66, x_150_69, x_150_71, x_150_72, x_150_73, x_150_74, x_150_76, x_150_77, x_150_80, x_150_82, x_150_84, x_150_87, x_150_88, x_150_90, x_150_93, x_150_95, x_150_98, x_150_99, x_150_100, x_150_103, x_150_105, x_150_108, x_150_109, x_150_110, x_150_113, x_150_115, x_150_118, x_150_119, x_150_120, x_150_123, x_150_125, x_150_128, x_150_129, x_150_132, x_150_135, x_150_136, x_150_139, x_150_142, x_150_143, x_150_146, x_150_147, x_150_148, x_150_151, x_150_155, x_150_158, x_150_160, x_150_161, x_150_164, x_150_166, x_150_168, x_150_171, x_150_173, x_150_176, x_150_179, x_150_181, x_150_183, x_150_186, x_150_188, x_150_189, x_150_190, x_150_193, x_150_196, x_150_197, x_150_200, x_150_201, x_150_203, x_150_206, x_150_209, x_150_210, x_150_213, x_150_214, x_150_215, x_150_218, x_150_221, x_150_222, x_150_225, x_150_226, Option.bind_some, Option.bind_none, Option.toList_some, Option.toList_none, List.cons_append, List.nil_append, pNl_i, pNl_r, pNl_u, pNl_n, bI_0, bI_1, nn_or, or_nn, not_false_eq_true, not_true_eq_false, i1000, i1e0, true_or, or_true, Decidable.not_not, if_true, if_false, Bool.false_eq_true, Int32.zero_add, true_and, and_true, kT4, i_10, i_00, hlt, e4, cq_18 hn h40, cq_0 hn h40, cq_1 hn h40, cq_5 hn h40, ea, hc, rm, rn, nI_1]
  · have t1 : (d' 1 = d 1) = True := eq_true (by rw [H'.1.2.1, H.1.2.1, hz])
    have t2 : (K 0 0 0 = K 0 0 0) = True := eq_true rfl
    have t3 : (K 0 0 1 = K 0 0 1) = True := eq_true rfl
    have t4 : (K 0 0 3 = K 0 0 3) = True := eq_true rfl
    simp only [x_150_0, x_150_3, x_150_4, x_150_7, x_150_8, x_150_9, x_150_10, x_150_11, x_150_12, x_150_13, x_150_14, x_150_16, x_150_19, x_150_21, x_150_24, x_150_25, x_150_26, x_150_27, x_150_28, x_150_29, x_150_30, x_150_34, x_150_35, x_150_38, x_150_39, x_150_42, x_150_43, x_150_45, x_150_48, x_150_50, x_150_51, x_150_52, x_150_55, x_150_57, x_150_58, x_150_59, x_150_62, x_150_64, x_150_65, x_150_66, x_150_69, x_150_71, x_150_72, x_150_73, x_150_74, x_150_76, x_150_77, x_150_80, x_150_82, x_150_84, x_150_87, x_150_88, x_150_90, x_150_93, x_150_95, x_150_98, x_150_99, x_150_100, x_150_103, x_150_105, x_150_108, x_150_109, x_150_110, x_150_113, x_150_115, x_150_118, x_150_119, x_150_120, x_150_123, x_150_125, x_150_128, x_150_129, x_150_132, x_150_135, x_150_136, x_150_139, x_150_142, x_150_143, x_150_146, x_150_147, x_150_148, x_150_151, x_150_155, x_150_158, x_150_160, x_150_161, x_150_164, x_150_166, x_150_168, x_150_171, x_150_173, x_150_176, x_150_179, x_150_181, x_150_183, x_150_186, x_150_188, x_150_189, x_150_190, x_150_193, x_150_196, x_150_197, x_150_200, x_150_201, x_150_203, x_150_206, x_150_209, x_150_210, x_150_213, x_150_214, x_150_215, x_150_218, x_150_221, x_150_222, x_150_225, x_150_226, Option.bind_some, Option.bind_none, Option.toList_some, Option.toList_none, List.cons_append, List.nil_append, pNl_i, pNl_r, pNl_u, pNl_n, bI_0, bI_1, nn_or, or_nn, not_false_eq_true, not_true_eq_false, i1000, i1e0, true_or, or_true, Decidable.not_not, if_true, if_false, Bool.false_eq_true, Int32.zero_add, true_and, and_true, kT4, i_10, i_00, hlt, e4, cq_18 hn h40, cq_0 hn h40, cq_1 hn h40, cq_5 hn h40, ea, hc, cq_18 hn' h40', cq_0 hn' h40', cq_1 hn' h40', cq_5 hn' h40', hK, t1, t2, t3, t4, rm, rn, nI_1]
theorem lz_loop {T : Nat} (hN : stOK N) (h0 : N.2 0 = some (14, xs.map .int)) (hl : xs.length ≤ 260) (hT : 4 * T ≤ xs.length) : ∀ q k, k + q = T → ∀ (K : Nat → Sg) (d : Nat → Int32) (f z : Nat) (l5 l6 l7 l8 l9 : Option Value), RP K d f z → ∃ M' : qHp, qEx 150 (32, [some (.ref 0), some (.ref 4), some (.int 1), some (.int (nI T)), some (.int (nI k)), l5, l6, l7, l8, l9], [], kW N K d v x) = some (some (.int 1), M') ∧ M'.1 = N.1 := by
  intro q
  induction q with
  | zero =>
    intro k hk K d f z l5 l6 l7 l8 l9 H
    obtain rfl : k = T := by omega
    obtain ⟨n, u, hr⟩ := H.2.1
    obtain ⟨K', e⟩ := lz_end (N := N) (d := d) (v := v) (x := x) (l3 := nI k) (l4 := nI k) (l5 := l5) (l6 := l6) (l7 := l7) (l8 := l8) (l9 := l9) hr
    refine ⟨_, Eq.trans ?_ e, rfl⟩
    rw [x_150_32]
    simp only [x_150_0, x_150_3, x_150_4, x_150_7, x_150_8, x_150_9, x_150_10, x_150_11, x_150_12, x_150_13, x_150_14, x_150_16, x_150_19, x_150_21, x_150_24, x_150_25, x_150_26, x_150_27, x_150_28, x_150_29, x_150_30, x_150_34, x_150_35, x_150_38, x_150_39, x_150_42, x_150_43, x_150_45, x_150_48, x_150_50, x_150_51, x_150_52, x_150_55, x_150_57, x_150_58, x_150_59, x_150_62, x_150_64, x_150_65, x_150_66, x_150_69, x_150_71, x_150_72, x_150_73, x_150_74, x_150_76, x_150_77, x_150_80, x_150_82, x_150_84, x_150_87, x_150_88, x_150_90, x_150_93, x_150_95, x_150_98, x_150_99, x_150_100, x_150_103, x_150_105, x_150_108, x_150_109, x_150_110, x_150_113, x_150_115, x_150_118, x_150_119, x_150_120, x_150_123, x_150_125, x_150_128, x_150_129, x_150_132, x_150_135, x_150_136, x_150_139, x_150_142, x_150_143, x_150_146, x_150_147, x_150_148, x_150_151, x_150_155, x_150_158, x_150_160, x_150_161, x_150_164, x_150_166, x_150_168, x_150_171, x_150_173, x_150_176, x_150_179, x_150_181, x_150_183, x_150_186, x_150_188, x_150_189, x_150_190, x_150_193, x_150_196, x_150_197, x_150_200, x_150_201, x_150_203, x_150_206, x_150_209, x_150_210, x_150_213, x_150_214, x_150_215, x_150_218, x_150_221, x_150_222, x_150_225, x_150_226, Option.bind_some, Option.bind_none, Option.toList_some, Option.toList_none, List.cons_append, List.nil_append, pNl_i, pNl_r, pNl_u, pNl_n, bI_0, bI_1, nn_or, or_nn, not_false_eq_true, not_true_eq_false, i1000, i1e0, true_or, or_true, Decidable.not_not, if_true, if_false, Bool.false_eq_true, Int32.zero_add, true_and, and_true, Int32.le_refl]
  | succ q ih =>
    intro k hk K d f z l5 l6 l7 l8 l9 H
    obtain ⟨K', d', f', z', m5, m6, m7, m8, m9, H', e⟩ := lz_step (v := v) (x := x) (l5 := l5) (l6 := l6) (l7 := l7) (l8 := l8) (l9 := l9) hN h0 hl hT (show k < T by omega) H
    rw [e]
    exact ih (k + 1) (by omega) K' d' f' z' m5 m6 m7 m8 m9 H'
theorem RP_ini : RP (fun _ => iniS) (fun _ => 0) 0 0 := ⟨⟨rfl, rfl, by omega, by omega⟩, ⟨0, 0, rV_ini⟩, fun j hj => by omega⟩
theorem lz_start (h1 : M.1 = (4, 0)) (hs : stOK M) (h0 : M.2 0 = some (14, xs.map .int)) (hl : xs.length ≤ 260) : ∃ (N : qHp) (T : Nat), 4 * T ≤ xs.length ∧ qEx 150 (0, [some (.ref 0), none, none, none, none, none, none, none, none, none], [], M) = qEx 150 (32, [some (.ref 0), some (.ref 4), some (.int 1), some (.int (nI T)), some (.int (nI 0)), none, none, none, none, none], [], kW N (fun _ => iniS) (fun _ => 0) (fun _ => 0) (fun _ => 0)) ∧ N.1 = (627, 7774) ∧ N.2 0 = M.2 0 ∧ stOK N := by
  obtain ⟨u1, u2, u3⟩ := @hN_new M (6, qDf 6) _ _ h1
  have hs1 : stOK (hN M (6, qDf 6)) := by
    unfold stOK
    rw [u3 1 (by omega), u3 2 (by omega), u3 3 (by omega)]; exact hs
  obtain ⟨N1, r1, k1, w1, o1⟩ := @s_63 (hN M (6, qDf 6)) _ u1 u2 hs1
  have i1 : M.1.1 = 4 := by rw [h1]
  have o3 : ∀ q, q < 4 → N1.2 q = M.2 q := fun q hq => by rw [o1 q hq, u3 q (by omega)]
  have hW : (kW N1 (fun _ => iniS) (fun _ => 0) (fun _ => 0) (fun _ => 0)).2 0 = some (14, xs.map .int) := by rw [kW_out (by omega), o3 0 (by omega)]; exact h0
  rw [k1] at r1
  have hlen : Int32.ofNat (xs.map Value.int).length = nI xs.length := by rw [List.length_map]; rfl
  have hd4 : nI xs.length / 4 = nI (xs.length / 4) := by
    rw [show (4 : Int32) = nI 4 from rfl, pk_div (by omega) (by omega) (by omega)]
  have i4 : ¬ (4 : Int32) = 0 := by decide
  obtain ⟨T, hT, eT⟩ : ∃ T, 4 * T ≤ xs.length ∧ (if nI (xs.length / 4) ≤ 40 then nI (xs.length / 4) else 40) = nI T := by
    have e : (nI (xs.length / 4) ≤ (40 : Int32)) = (xs.length / 4 ≤ 40) := nI_le_iff (b := 40) (by omega) (by omega)
    by_cases c : xs.length / 4 ≤ 40
    · exact ⟨xs.length / 4, by omega, if_pos (e.mpr c)⟩
    · exact ⟨40, by omega, (if_neg (fun q => c (e.mp q))).trans rfl⟩
  refine ⟨N1, T, hT, ?_, w1, o3 0 (by omega), ?_⟩
  · rw [x_150_0, x_150_3, i1, x_150_4, r1, Option.bind_some]
    rw [← k1] at hW ⊢
    by_cases c : nI (xs.length / 4) ≤ 40
    · rw [if_pos c] at eT
      rw [← eT]
      simp only [x_150_0, x_150_3, x_150_4, x_150_7, x_150_8, x_150_9, x_150_10, x_150_11, x_150_12, x_150_13, x_150_14, x_150_16, x_150_19, x_150_21, x_150_24, x_150_25, x_150_26, x_150_27, x_150_28, x_150_29, x_150_30, x_150_34, x_150_35, x_150_38, x_150_39, x_150_42, x_150_43, x_150_45, x_150_48, x_150_50, x_150_51, x_150_52, x_150_55, x_150_57, x_150_58, x_150_59, x_150_62, x_150_64, x_150_65, x_150_66, x_150_69, x_150_71, x_150_72, x_150_73, x_150_74, x_150_76, x_150_77, x_150_80, x_150_82, x_150_84, x_150_87, x_150_88, x_150_90, x_150_93, x_150_95, x_150_98, x_150_99, x_150_100, x_150_103, x_150_105, x_150_108, x_150_109, x_150_110, x_150_113, x_150_115, x_150_118, x_150_119, x_150_120, x_150_123, x_150_125, x_150_128, x_150_129, x_150_132, x_150_135, x_150_136, x_150_139, x_150_142, x_150_143, x_150_146, x_150_147, x_150_148, x_150_151, x_150_154, x_150_155, x_150_158, x_150_160, x_150_161, x_150_164, x_150_166, x_150_168, x_150_171, x_150_173, x_150_176, x_150_179, x_150_181, x_150_183, x_150_186, x_150_188, x_150_189, x_150_190, x_150_193, x_150_196, x_150_197, x_150_200, x_150_201, x_150_203, x_150_206, x_150_209, x_150_210, x_150_213, x_150_214, x_150_215, x_150_218, x_150_221, x_150_222, x_150_225, x_150_226, Option.bind_some, Option.bind_none, Option.toList_some, Option.toList_none, List.cons_append, List.nil_append, pNl_i, pNl_r, pNl_u, pNl_n, bI_0, bI_1, nn_or, or_nn, not_false_eq_true, not_true_eq_false, i1000, i1e0, true_or, or_true, Decidable.not_not, if_true, if_false, Bool.false_eq_true, Int32.zero_add, true_and, and_true, x_150_11 hW, x_150_25 hW, hlen, hd4, i4, c]
      rfl
    · rw [if_neg c] at eT
      rw [← eT]
      simp only [x_150_0, x_150_3, x_150_4, x_150_7, x_150_8, x_150_9, x_150_10, x_150_11, x_150_12, x_150_13, x_150_14, x_150_16, x_150_19, x_150_21, x_150_24, x_150_25, x_150_26, x_150_27, x_150_28, x_150_29, x_150_30, x_150_34, x_150_35, x_150_38, x_150_39, x_150_42, x_150_43, x_150_45, x_150_48, x_150_50, x_150_51, x_150_52, x_150_55, x_150_57, x_150_58, x_150_59, x_150_62, x_150_64, x_150_65, x_150_66, x_150_69, x_150_71, x_150_72, x_150_73, x_150_74, x_150_76, x_150_77, x_150_80, x_150_82, x_150_84, x_150_87, x_150_88, x_150_90, x_150_93, x_150_95, x_150_98, x_150_99, x_150_100, x_150_103, x_150_105, x_150_108, x_150_109, x_150_110, x_150_113, x_150_115, x_150_118, x_150_119, x_150_120, x_150_123, x_150_125, x_150_128, x_150_129, x_150_132, x_150_135, x_150_136, x_150_139, x_150_142, x_150_143, x_150_146, x_150_147, x_150_148, x_150_151, x_150_154, x_150_155, x_150_158, x_150_160, x_150_161, x_150_164, x_150_166, x_150_168, x_150_171, x_150_173, x_150_176, x_150_179, x_150_181, x_150_183, x_150_186, x_150_188, x_150_189, x_150_190, x_150_193, x_150_196, x_150_197, x_150_200, x_150_201, x_150_203, x_150_206, x_150_209, x_150_210, x_150_213, x_150_214, x_150_215, x_150_218, x_150_221, x_150_222, x_150_225, x_150_226, Option.bind_some, Option.bind_none, Option.toList_some, Option.toList_none, List.cons_append, List.nil_append, pNl_i, pNl_r, pNl_u, pNl_n, bI_0, bI_1, nn_or, or_nn, not_false_eq_true, not_true_eq_false, i1000, i1e0, true_or, or_true, Decidable.not_not, if_true, if_false, Bool.false_eq_true, Int32.zero_add, true_and, and_true, x_150_11 hW, x_150_25 hW, hlen, hd4, i4, c]
      rfl
  · unfold stOK
    rw [o3 1 (by omega), o3 2 (by omega), o3 3 (by omega)]; exact hs
/-- the whole run of the law -/
theorem lw_all {M : qHp} (h1 : M.1 = (4, 0)) (hs : stOK M) (h0 : M.2 0 = some (14, xs.map .int)) (hl : xs.length ≤ 260) : ∃ M' : qHp, qEx 150 (0, [some (.ref 0), none, none, none, none, none, none, none, none, none], [], M) = some (some (.int 1), M') ∧ M'.1 = (627, 7774) := by
  obtain ⟨N, T, hT, e, n1, n0, ns⟩ := lz_start h1 hs h0 hl
  obtain ⟨M', e2, w⟩ := lz_loop (v := fun _ => 0) (x := fun _ => 0) ns (n0.trans h0) hl hT T 0 (by omega) _ _ 0 0 none none none none none RP_ini
  exact ⟨M', e.trans e2, w.trans n1⟩
end LZ
