/-! the class: a text that is carried out-/
section KO
variable {M : qHp} {K : Nat → Sg} {d v x : Nat → Int32} {y : Nat → Nat} {P : Nat}
theorem k0u {z : Nat} {As : List Value} {r : Option Value} {s' : Sg} (h : qRun z As (cB (kW M K d v x) 5 (K 0)) = some (r, cB (kW M K d v x) 5 s')) : qRun z As (kW M K d v x) = some (r, kW M (us K 0 s') d v x) := kW_run (i := 0) (by omega) h
/-- the numbers on the pad are those of an order -/
def onP (d : Nat → Int32) (u : Nat) (a b e : Int32) : Prop := d 4 = nI u ∧ (knP u = 3 → d 5 = a ∧ d 6 = b ∧ d 7 = e) ∧ (knP u = 2 → d 6 = a ∧ d 7 = b) ∧ (knP u = 1 → d 7 = a)
theorem s_82_0 {u n : Nat} {a b e : Int32} (hs : stOK M) (hu : knP u ≠ 0) (ho : onP d u a b e) (hn : K 0 0 1 = nI n) (h40 : n ≤ 40) (hz : mdV (K 0) u a b e ≠ 0) : ∃ w : Int32, w < 0 ∧ qRun 82 [.ref 4] (kW M K d v x) = some (some (.int w), kW M K d v x) := by
  obtain ⟨o4, o3, o2, o1⟩ := ho
  have st : qEx 82 (0, [some (.ref 4)], [], kW M K d v x) = qEx 82 (7, [some (.ref 4)], [.int (nI u)], kW M K d v x) := by
    simp only [x_82_0, x_82_1, x_82_4, x_82_56, x_82_57, x_82_60, x_82_61, x_82_62, x_82_65, x_82_68, x_82_69, x_82_72, x_82_75, x_82_76, x_82_79, x_82_82, x_82_85, x_82_86, x_82_87, x_82_90, x_82_91, x_82_92, x_82_95, x_82_98, x_82_99, x_82_102, x_82_105, x_82_106, x_82_109, x_82_112, x_82_115, x_82_116, x_82_117, x_82_120, x_82_121, x_82_122, x_82_125, x_82_128, x_82_129, x_82_132, x_82_135, x_82_136, x_82_139, x_82_142, x_82_145, x_82_146, x_82_147, x_82_150, x_82_151, x_82_154, x_82_157, x_82_158, x_82_161, x_82_164, x_82_167, x_82_168, x_82_169, x_82_172, x_82_173, x_82_176, x_82_179, x_82_182, x_82_183, x_82_184, x_82_187, x_82_188, x_82_189, x_82_192, x_82_195, x_82_198, Option.bind_some, Option.bind_none, Option.toList_some, Option.toList_none, List.cons_append, List.nil_append, pNl_i, pNl_r, pNl_u, pNl_n, bI_0, bI_1, nn_or, or_nn, not_false_eq_true, not_true_eq_false, i1000, i1e0, true_or, or_true, Decidable.not_not, if_true, if_false, Bool.false_eq_true, Int32.zero_add, true_and, and_true, k4_5, kq_3, o4]
  unfold mdV at hz
  rcases kn_6 hu with h | h | h | h | h | h
  · have hz' : maM (K 0) 0 a b e ≠ 0 := by subst h; exact hz
    have sh := @ma_sh (K 0) u a b e
    have a14 := k0 (@s_14_0 (kW M K d v x) 5 (K 0) n (shP1 u) a b e hn h40 (by rw [sh]; exact hz'))
    obtain ⟨q5, q6, q7⟩ := o3 (by subst h; decide)
    rw [sh] at a14
    refine ⟨_, ma_neg hz', ?_⟩
    refine qRun_of ?_ rfl
    rw [en_82, st, sw_82 hu]
    subst h
    rw [show shP1 108 = 0 from rfl] at a14
    simp (config := {decide := true}) only [x_82_0, x_82_1, x_82_4, x_82_56, x_82_57, x_82_60, x_82_61, x_82_62, x_82_65, x_82_68, x_82_69, x_82_72, x_82_75, x_82_76, x_82_79, x_82_82, x_82_85, x_82_86, x_82_87, x_82_90, x_82_91, x_82_92, x_82_95, x_82_98, x_82_99, x_82_102, x_82_105, x_82_106, x_82_109, x_82_112, x_82_115, x_82_116, x_82_117, x_82_120, x_82_121, x_82_122, x_82_125, x_82_128, x_82_129, x_82_132, x_82_135, x_82_136, x_82_139, x_82_142, x_82_145, x_82_146, x_82_147, x_82_150, x_82_151, x_82_154, x_82_157, x_82_158, x_82_161, x_82_164, x_82_167, x_82_168, x_82_169, x_82_172, x_82_173, x_82_176, x_82_179, x_82_182, x_82_183, x_82_184, x_82_187, x_82_188, x_82_189, x_82_192, x_82_195, x_82_198, Option.bind_some, Option.bind_none, Option.toList_some, Option.toList_none, List.cons_append, List.nil_append, pNl_i, pNl_r, pNl_u, pNl_n, bI_0, bI_1, nn_or, or_nn, not_false_eq_true, not_true_eq_false, i1000, i1e0, true_or, or_true, Decidable.not_not, if_true, if_false, Bool.false_eq_true, Int32.zero_add, true_and, and_true, k4_0, k4_5, kT0, kq_4, kq_5, kq_6, q5, q6, q7, a14, if_true, if_false]
  · have hz' : maM (K 0) 0 a b e ≠ 0 := by subst h; exact hz
    have sh := @ma_sh (K 0) u a b e
    have a14 := k0 (@s_14_0 (kW M K d v x) 5 (K 0) n (shP1 u) a b e hn h40 (by rw [sh]; exact hz'))
    obtain ⟨q5, q6, q7⟩ := o3 (by subst h; decide)
    rw [sh] at a14
    refine ⟨_, ma_neg hz', ?_⟩
    refine qRun_of ?_ rfl
    rw [en_82, st, sw_82 hu]
    subst h
    rw [show shP1 102 = 1 from rfl] at a14
    simp (config := {decide := true}) only [x_82_0, x_82_1, x_82_4, x_82_56, x_82_57, x_82_60, x_82_61, x_82_62, x_82_65, x_82_68, x_82_69, x_82_72, x_82_75, x_82_76, x_82_79, x_82_82, x_82_85, x_82_86, x_82_87, x_82_90, x_82_91, x_82_92, x_82_95, x_82_98, x_82_99, x_82_102, x_82_105, x_82_106, x_82_109, x_82_112, x_82_115, x_82_116, x_82_117, x_82_120, x_82_121, x_82_122, x_82_125, x_82_128, x_82_129, x_82_132, x_82_135, x_82_136, x_82_139, x_82_142, x_82_145, x_82_146, x_82_147, x_82_150, x_82_151, x_82_154, x_82_157, x_82_158, x_82_161, x_82_164, x_82_167, x_82_168, x_82_169, x_82_172, x_82_173, x_82_176, x_82_179, x_82_182, x_82_183, x_82_184, x_82_187, x_82_188, x_82_189, x_82_192, x_82_195, x_82_198, Option.bind_some, Option.bind_none, Option.toList_some, Option.toList_none, List.cons_append, List.nil_append, pNl_i, pNl_r, pNl_u, pNl_n, bI_0, bI_1, nn_or, or_nn, not_false_eq_true, not_true_eq_false, i1000, i1e0, true_or, or_true, Decidable.not_not, if_true, if_false, Bool.false_eq_true, Int32.zero_add, true_and, and_true, k4_0, k4_5, kT0, kq_4, kq_5, kq_6, q5, q6, q7, a14, if_true, if_false]
  · have hz' : maM (K 0) 0 a b e ≠ 0 := by subst h; exact hz
    have sh := @ma_sh (K 0) u a b e
    have a14 := k0 (@s_14_0 (kW M K d v x) 5 (K 0) n (shP1 u) a b e hn h40 (by rw [sh]; exact hz'))
    obtain ⟨q5, q6, q7⟩ := o3 (by subst h; decide)
    rw [sh] at a14
    refine ⟨_, ma_neg hz', ?_⟩
    refine qRun_of ?_ rfl
    rw [en_82, st, sw_82 hu]
    subst h
    rw [show shP1 112 = 2 from rfl] at a14
    simp (config := {decide := true}) only [x_82_0, x_82_1, x_82_4, x_82_56, x_82_57, x_82_60, x_82_61, x_82_62, x_82_65, x_82_68, x_82_69, x_82_72, x_82_75, x_82_76, x_82_79, x_82_82, x_82_85, x_82_86, x_82_87, x_82_90, x_82_91, x_82_92, x_82_95, x_82_98, x_82_99, x_82_102, x_82_105, x_82_106, x_82_109, x_82_112, x_82_115, x_82_116, x_82_117, x_82_120, x_82_121, x_82_122, x_82_125, x_82_128, x_82_129, x_82_132, x_82_135, x_82_136, x_82_139, x_82_142, x_82_145, x_82_146, x_82_147, x_82_150, x_82_151, x_82_154, x_82_157, x_82_158, x_82_161, x_82_164, x_82_167, x_82_168, x_82_169, x_82_172, x_82_173, x_82_176, x_82_179, x_82_182, x_82_183, x_82_184, x_82_187, x_82_188, x_82_189, x_82_192, x_82_195, x_82_198, Option.bind_some, Option.bind_none, Option.toList_some, Option.toList_none, List.cons_append, List.nil_append, pNl_i, pNl_r, pNl_u, pNl_n, bI_0, bI_1, nn_or, or_nn, not_false_eq_true, not_true_eq_false, i1000, i1e0, true_or, or_true, Decidable.not_not, if_true, if_false, Bool.false_eq_true, Int32.zero_add, true_and, and_true, k4_0, k4_5, kT0, kq_4, kq_5, kq_6, q5, q6, q7, a14, if_true, if_false]
  · subst h
    rw [if_pos rfl] at hz
    obtain ⟨q6, q7⟩ := o2 (by decide)
    by_cases c1 : 0 ≤ a ∧ a ≤ 7
    · rw [if_pos c1] at hz
      have c2 : ¬ mtOK (K 0) b := fun q => hz (if_pos q)
      have a13 := k0 (@s_13_1 (kW M K d v x) 5 (K 0) a b c1 c2)
      refine ⟨-2, n2, ?_⟩
      refine qRun_of ?_ rfl
      rw [en_82, st, sw_82 hu]
      simp (config := {decide := true}) only [x_82_0, x_82_1, x_82_4, x_82_56, x_82_57, x_82_60, x_82_61, x_82_62, x_82_65, x_82_68, x_82_69, x_82_72, x_82_75, x_82_76, x_82_79, x_82_82, x_82_85, x_82_86, x_82_87, x_82_90, x_82_91, x_82_92, x_82_95, x_82_98, x_82_99, x_82_102, x_82_105, x_82_106, x_82_109, x_82_112, x_82_115, x_82_116, x_82_117, x_82_120, x_82_121, x_82_122, x_82_125, x_82_128, x_82_129, x_82_132, x_82_135, x_82_136, x_82_139, x_82_142, x_82_145, x_82_146, x_82_147, x_82_150, x_82_151, x_82_154, x_82_157, x_82_158, x_82_161, x_82_164, x_82_167, x_82_168, x_82_169, x_82_172, x_82_173, x_82_176, x_82_179, x_82_182, x_82_183, x_82_184, x_82_187, x_82_188, x_82_189, x_82_192, x_82_195, x_82_198, Option.bind_some, Option.bind_none, Option.toList_some, Option.toList_none, List.cons_append, List.nil_append, pNl_i, pNl_r, pNl_u, pNl_n, bI_0, bI_1, nn_or, or_nn, not_false_eq_true, not_true_eq_false, i1000, i1e0, true_or, or_true, Decidable.not_not, if_true, if_false, Bool.false_eq_true, Int32.zero_add, true_and, and_true, k4_0, k4_5, kT0, kq_5, kq_6, q6, q7, a13, if_true, if_false]
    · have a13 := k0 (@s_13_0 (kW M K d v x) 5 (K 0) a b c1)
      refine ⟨-1, n1, ?_⟩
      refine qRun_of ?_ rfl
      rw [en_82, st, sw_82 hu]
      simp (config := {decide := true}) only [x_82_0, x_82_1, x_82_4, x_82_56, x_82_57, x_82_60, x_82_61, x_82_62, x_82_65, x_82_68, x_82_69, x_82_72, x_82_75, x_82_76, x_82_79, x_82_82, x_82_85, x_82_86, x_82_87, x_82_90, x_82_91, x_82_92, x_82_95, x_82_98, x_82_99, x_82_102, x_82_105, x_82_106, x_82_109, x_82_112, x_82_115, x_82_116, x_82_117, x_82_120, x_82_121, x_82_122, x_82_125, x_82_128, x_82_129, x_82_132, x_82_135, x_82_136, x_82_139, x_82_142, x_82_145, x_82_146, x_82_147, x_82_150, x_82_151, x_82_154, x_82_157, x_82_158, x_82_161, x_82_164, x_82_167, x_82_168, x_82_169, x_82_172, x_82_173, x_82_176, x_82_179, x_82_182, x_82_183, x_82_184, x_82_187, x_82_188, x_82_189, x_82_192, x_82_195, x_82_198, Option.bind_some, Option.bind_none, Option.toList_some, Option.toList_none, List.cons_append, List.nil_append, pNl_i, pNl_r, pNl_u, pNl_n, bI_0, bI_1, nn_or, or_nn, not_false_eq_true, not_true_eq_false, i1000, i1e0, true_or, or_true, Decidable.not_not, if_true, if_false, Bool.false_eq_true, Int32.zero_add, true_and, and_true, k4_0, k4_5, kT0, kq_5, kq_6, q6, q7, a13, if_true, if_false]
  · subst h
    have q7 := o1 (by decide)
    rw [if_neg (by omega), if_neg (by omega), if_pos rfl] at hz
    have c1 : ¬ isF 2 a = true := fun q => hz (if_pos q)
    have a12 := k0 (@s_12_0 (kW M K d v x) 5 (K 0) 2 a (kW_st hs) (by omega) (fun q => c1 q.2))
    refine ⟨-2, n2, ?_⟩
    refine qRun_of ?_ rfl
    rw [en_82, st, sw_82 hu]
    simp (config := {decide := true}) only [x_82_0, x_82_1, x_82_4, x_82_56, x_82_57, x_82_60, x_82_61, x_82_62, x_82_65, x_82_68, x_82_69, x_82_72, x_82_75, x_82_76, x_82_79, x_82_82, x_82_85, x_82_86, x_82_87, x_82_90, x_82_91, x_82_92, x_82_95, x_82_98, x_82_99, x_82_102, x_82_105, x_82_106, x_82_109, x_82_112, x_82_115, x_82_116, x_82_117, x_82_120, x_82_121, x_82_122, x_82_125, x_82_128, x_82_129, x_82_132, x_82_135, x_82_136, x_82_139, x_82_142, x_82_145, x_82_146, x_82_147, x_82_150, x_82_151, x_82_154, x_82_157, x_82_158, x_82_161, x_82_164, x_82_167, x_82_168, x_82_169, x_82_172, x_82_173, x_82_176, x_82_179, x_82_182, x_82_183, x_82_184, x_82_187, x_82_188, x_82_189, x_82_192, x_82_195, x_82_198, Option.bind_some, Option.bind_none, Option.toList_some, Option.toList_none, List.cons_append, List.nil_append, pNl_i, pNl_r, pNl_u, pNl_n, bI_0, bI_1, nn_or, or_nn, not_false_eq_true, not_true_eq_false, i1000, i1e0, true_or, or_true, Decidable.not_not, if_true, if_false, Bool.false_eq_true, Int32.zero_add, true_and, and_true, k4_0, k4_5, kT0, kq_6, q7, a12, if_true, if_false]
  · subst h
    have q7 := o1 (by decide)
    rw [if_neg (by omega), if_pos rfl] at hz
    have a15 := k0 (@s_15_0 (kW M K d v x) 5 (K 0) a hz)
    refine ⟨_, mp_neg hz, ?_⟩
    refine qRun_of ?_ rfl
    rw [en_82, st, sw_82 hu]
    simp (config := {decide := true}) only [x_82_0, x_82_1, x_82_4, x_82_56, x_82_57, x_82_60, x_82_61, x_82_62, x_82_65, x_82_68, x_82_69, x_82_72, x_82_75, x_82_76, x_82_79, x_82_82, x_82_85, x_82_86, x_82_87, x_82_90, x_82_91, x_82_92, x_82_95, x_82_98, x_82_99, x_82_102, x_82_105, x_82_106, x_82_109, x_82_112, x_82_115, x_82_116, x_82_117, x_82_120, x_82_121, x_82_122, x_82_125, x_82_128, x_82_129, x_82_132, x_82_135, x_82_136, x_82_139, x_82_142, x_82_145, x_82_146, x_82_147, x_82_150, x_82_151, x_82_154, x_82_157, x_82_158, x_82_161, x_82_164, x_82_167, x_82_168, x_82_169, x_82_172, x_82_173, x_82_176, x_82_179, x_82_182, x_82_183, x_82_184, x_82_187, x_82_188, x_82_189, x_82_192, x_82_195, x_82_198, Option.bind_some, Option.bind_none, Option.toList_some, Option.toList_none, List.cons_append, List.nil_append, pNl_i, pNl_r, pNl_u, pNl_n, bI_0, bI_1, nn_or, or_nn, not_false_eq_true, not_true_eq_false, i1000, i1e0, true_or, or_true, Decidable.not_not, if_true, if_false, Bool.false_eq_true, Int32.zero_add, true_and, and_true, k4_0, k4_5, kT0, kq_6, q7, a15, if_true, if_false]
theorem s_82 {u n : Nat} {a b e : Int32} (hs : stOK M) (hu : knP u ≠ 0) (ho : onP d u a b e) (hok : clOK n (K 0) u a) (hz : mdV (K 0) u a b e = 0) : ∃ w : Int32, ¬ w < 0 ∧ qRun 82 [.ref 4] (kW M K d v x) = some (some (.int w), kW M (us K 0 (clD (K 0) u a b e)) d v x) := by
  obtain ⟨o4, o3, o2, o1⟩ := ho
  obtain ⟨hn, h40, hc, ht, hp⟩ := hok
  have st : qEx 82 (0, [some (.ref 4)], [], kW M K d v x) = qEx 82 (7, [some (.ref 4)], [.int (nI u)], kW M K d v x) := by
    simp only [x_82_0, x_82_1, x_82_4, x_82_56, x_82_57, x_82_60, x_82_61, x_82_62, x_82_65, x_82_68, x_82_69, x_82_72, x_82_75, x_82_76, x_82_79, x_82_82, x_82_85, x_82_86, x_82_87, x_82_90, x_82_91, x_82_92, x_82_95, x_82_98, x_82_99, x_82_102, x_82_105, x_82_106, x_82_109, x_82_112, x_82_115, x_82_116, x_82_117, x_82_120, x_82_121, x_82_122, x_82_125, x_82_128, x_82_129, x_82_132, x_82_135, x_82_136, x_82_139, x_82_142, x_82_145, x_82_146, x_82_147, x_82_150, x_82_151, x_82_154, x_82_157, x_82_158, x_82_161, x_82_164, x_82_167, x_82_168, x_82_169, x_82_172, x_82_173, x_82_176, x_82_179, x_82_182, x_82_183, x_82_184, x_82_187, x_82_188, x_82_189, x_82_192, x_82_195, x_82_198, Option.bind_some, Option.bind_none, Option.toList_some, Option.toList_none, List.cons_append, List.nil_append, pNl_i, pNl_r, pNl_u, pNl_n, bI_0, bI_1, nn_or, or_nn, not_false_eq_true, not_true_eq_false, i1000, i1e0, true_or, or_true, Decidable.not_not, if_true, if_false, Bool.false_eq_true, Int32.zero_add, true_and, and_true, k4_5, kq_3, o4]
  unfold mdV at hz
  have mail : knP u = 3 → maM (K 0) 0 a b e = 0 → qRun 14 [.ref 5, .int (shP1 u), .int a, .int b, .int e] (kW M K d v x) = some (some (.int (nI n)), kW M (us K 0 (u2 (u2 (bgF (K 0) (nN (K 0 0 1)) (shP1 u) a b e) 0 6 (K 0 0 0)) 0 1 (K 0 0 1 + 1))) d v x) := by
    intro _ hz'
    have n40 : n < 40 := by have := md_n hn hz'; omega
    have a14 := k0u (@s_14 (kW M K d v x) 5 (K 0) n (shP1 u) a b e hn n40 (by rw [ma_sh]; exact hz'))
    rw [hn, nN_nI (by omega), nI_1]
    exact a14
  have n0 : ¬ nI n < 0 := nI_pos (by omega)
  rcases kn_6 hu with h | h | h | h | h | h
  · have a14 := mail (by subst h; decide) (by subst h; exact hz)
    obtain ⟨q5, q6, q7⟩ := o3 (by subst h; decide)
    refine ⟨_, n0, ?_⟩
    refine qRun_of ?_ rfl
    rw [en_82, st, sw_82 hu]
    subst h
    unfold clD
    rw [show shP1 108 = 0 from rfl] at a14 ⊢
    simp (config := {decide := true}) only [x_82_0, x_82_1, x_82_4, x_82_56, x_82_57, x_82_60, x_82_61, x_82_62, x_82_65, x_82_68, x_82_69, x_82_72, x_82_75, x_82_76, x_82_79, x_82_82, x_82_85, x_82_86, x_82_87, x_82_90, x_82_91, x_82_92, x_82_95, x_82_98, x_82_99, x_82_102, x_82_105, x_82_106, x_82_109, x_82_112, x_82_115, x_82_116, x_82_117, x_82_120, x_82_121, x_82_122, x_82_125, x_82_128, x_82_129, x_82_132, x_82_135, x_82_136, x_82_139, x_82_142, x_82_145, x_82_146, x_82_147, x_82_150, x_82_151, x_82_154, x_82_157, x_82_158, x_82_161, x_82_164, x_82_167, x_82_168, x_82_169, x_82_172, x_82_173, x_82_176, x_82_179, x_82_182, x_82_183, x_82_184, x_82_187, x_82_188, x_82_189, x_82_192, x_82_195, x_82_198, Option.bind_some, Option.bind_none, Option.toList_some, Option.toList_none, List.cons_append, List.nil_append, pNl_i, pNl_r, pNl_u, pNl_n, bI_0, bI_1, nn_or, or_nn, not_false_eq_true, not_true_eq_false, i1000, i1e0, true_or, or_true, Decidable.not_not, if_true, if_false, Bool.false_eq_true, Int32.zero_add, true_and, and_true, k4_0, k4_5, kT0, kq_4, kq_5, kq_6, q5, q6, q7, a14, if_true, if_false]
  · have a14 := mail (by subst h; decide) (by subst h; exact hz)
    obtain ⟨q5, q6, q7⟩ := o3 (by subst h; decide)
    refine ⟨_, n0, ?_⟩
    refine qRun_of ?_ rfl
    rw [en_82, st, sw_82 hu]
    subst h
    unfold clD
    rw [show shP1 102 = 1 from rfl] at a14 ⊢
    simp (config := {decide := true}) only [x_82_0, x_82_1, x_82_4, x_82_56, x_82_57, x_82_60, x_82_61, x_82_62, x_82_65, x_82_68, x_82_69, x_82_72, x_82_75, x_82_76, x_82_79, x_82_82, x_82_85, x_82_86, x_82_87, x_82_90, x_82_91, x_82_92, x_82_95, x_82_98, x_82_99, x_82_102, x_82_105, x_82_106, x_82_109, x_82_112, x_82_115, x_82_116, x_82_117, x_82_120, x_82_121, x_82_122, x_82_125, x_82_128, x_82_129, x_82_132, x_82_135, x_82_136, x_82_139, x_82_142, x_82_145, x_82_146, x_82_147, x_82_150, x_82_151, x_82_154, x_82_157, x_82_158, x_82_161, x_82_164, x_82_167, x_82_168, x_82_169, x_82_172, x_82_173, x_82_176, x_82_179, x_82_182, x_82_183, x_82_184, x_82_187, x_82_188, x_82_189, x_82_192, x_82_195, x_82_198, Option.bind_some, Option.bind_none, Option.toList_some, Option.toList_none, List.cons_append, List.nil_append, pNl_i, pNl_r, pNl_u, pNl_n, bI_0, bI_1, nn_or, or_nn, not_false_eq_true, not_true_eq_false, i1000, i1e0, true_or, or_true, Decidable.not_not, if_true, if_false, Bool.false_eq_true, Int32.zero_add, true_and, and_true, k4_0, k4_5, kT0, kq_4, kq_5, kq_6, q5, q6, q7, a14, if_true, if_false]
  · have a14 := mail (by subst h; decide) (by subst h; exact hz)
    obtain ⟨q5, q6, q7⟩ := o3 (by subst h; decide)
    refine ⟨_, n0, ?_⟩
    refine qRun_of ?_ rfl
    rw [en_82, st, sw_82 hu]
    subst h
    unfold clD
    rw [show shP1 112 = 2 from rfl] at a14 ⊢
    simp (config := {decide := true}) only [x_82_0, x_82_1, x_82_4, x_82_56, x_82_57, x_82_60, x_82_61, x_82_62, x_82_65, x_82_68, x_82_69, x_82_72, x_82_75, x_82_76, x_82_79, x_82_82, x_82_85, x_82_86, x_82_87, x_82_90, x_82_91, x_82_92, x_82_95, x_82_98, x_82_99, x_82_102, x_82_105, x_82_106, x_82_109, x_82_112, x_82_115, x_82_116, x_82_117, x_82_120, x_82_121, x_82_122, x_82_125, x_82_128, x_82_129, x_82_132, x_82_135, x_82_136, x_82_139, x_82_142, x_82_145, x_82_146, x_82_147, x_82_150, x_82_151, x_82_154, x_82_157, x_82_158, x_82_161, x_82_164, x_82_167, x_82_168, x_82_169, x_82_172, x_82_173, x_82_176, x_82_179, x_82_182, x_82_183, x_82_184, x_82_187, x_82_188, x_82_189, x_82_192, x_82_195, x_82_198, Option.bind_some, Option.bind_none, Option.toList_some, Option.toList_none, List.cons_append, List.nil_append, pNl_i, pNl_r, pNl_u, pNl_n, bI_0, bI_1, nn_or, or_nn, not_false_eq_true, not_true_eq_false, i1000, i1e0, true_or, or_true, Decidable.not_not, if_true, if_false, Bool.false_eq_true, Int32.zero_add, true_and, and_true, k4_0, k4_5, kT0, kq_4, kq_5, kq_6, q5, q6, q7, a14, if_true, if_false]
  · subst h
    rw [if_pos rfl] at hz
    obtain ⟨q6, q7⟩ := o2 (by decide)
    by_cases c1 : 0 ≤ a ∧ a ≤ 7
    · rw [if_pos c1] at hz
      by_cases c2 : K 0 0 0 ≤ b ∧ b ≤ 1439
      · obtain ⟨r, hr, rfl⟩ := nI_bt (n := 7) (by omega) c1.1 c1.2
        have a13 := k0u (@s_13 (kW M K d v x) 5 (K 0) r b (by omega) c2)
        refine ⟨_, hc r (by omega), ?_⟩
        refine qRun_of ?_ rfl
        rw [en_82, st, sw_82 hu]
        unfold clD
        rw [nN_nI (by omega)]
        simp (config := {decide := true}) only [x_82_0, x_82_1, x_82_4, x_82_56, x_82_57, x_82_60, x_82_61, x_82_62, x_82_65, x_82_68, x_82_69, x_82_72, x_82_75, x_82_76, x_82_79, x_82_82, x_82_85, x_82_86, x_82_87, x_82_90, x_82_91, x_82_92, x_82_95, x_82_98, x_82_99, x_82_102, x_82_105, x_82_106, x_82_109, x_82_112, x_82_115, x_82_116, x_82_117, x_82_120, x_82_121, x_82_122, x_82_125, x_82_128, x_82_129, x_82_132, x_82_135, x_82_136, x_82_139, x_82_142, x_82_145, x_82_146, x_82_147, x_82_150, x_82_151, x_82_154, x_82_157, x_82_158, x_82_161, x_82_164, x_82_167, x_82_168, x_82_169, x_82_172, x_82_173, x_82_176, x_82_179, x_82_182, x_82_183, x_82_184, x_82_187, x_82_188, x_82_189, x_82_192, x_82_195, x_82_198, Option.bind_some, Option.bind_none, Option.toList_some, Option.toList_none, List.cons_append, List.nil_append, pNl_i, pNl_r, pNl_u, pNl_n, bI_0, bI_1, nn_or, or_nn, not_false_eq_true, not_true_eq_false, i1000, i1e0, true_or, or_true, Decidable.not_not, if_true, if_false, Bool.false_eq_true, Int32.zero_add, true_and, and_true, k4_0, k4_5, kT0, kq_5, kq_6, q6, q7, a13, if_true, if_false]
      · rw [if_neg c2] at hz; exact absurd hz (by decide)
    · rw [if_neg c1] at hz; exact absurd hz (by decide)
  · subst h
    have q7 := o1 (by decide)
    rw [if_neg (by omega), if_neg (by omega), if_pos rfl] at hz
    by_cases c1 : isF 2 a = true
    · have a12 := k0u (@s_12 (kW M K d v x) 5 (K 0) 2 a (kW_st hs) (by omega) (by omega) c1)
      refine ⟨_, ht, ?_⟩
      refine qRun_of ?_ rfl
      rw [en_82, st, sw_82 hu]
      unfold clD
      rw [nl_2] at a12
      simp (config := {decide := true}) only [x_82_0, x_82_1, x_82_4, x_82_56, x_82_57, x_82_60, x_82_61, x_82_62, x_82_65, x_82_68, x_82_69, x_82_72, x_82_75, x_82_76, x_82_79, x_82_82, x_82_85, x_82_86, x_82_87, x_82_90, x_82_91, x_82_92, x_82_95, x_82_98, x_82_99, x_82_102, x_82_105, x_82_106, x_82_109, x_82_112, x_82_115, x_82_116, x_82_117, x_82_120, x_82_121, x_82_122, x_82_125, x_82_128, x_82_129, x_82_132, x_82_135, x_82_136, x_82_139, x_82_142, x_82_145, x_82_146, x_82_147, x_82_150, x_82_151, x_82_154, x_82_157, x_82_158, x_82_161, x_82_164, x_82_167, x_82_168, x_82_169, x_82_172, x_82_173, x_82_176, x_82_179, x_82_182, x_82_183, x_82_184, x_82_187, x_82_188, x_82_189, x_82_192, x_82_195, x_82_198, Option.bind_some, Option.bind_none, Option.toList_some, Option.toList_none, List.cons_append, List.nil_append, pNl_i, pNl_r, pNl_u, pNl_n, bI_0, bI_1, nn_or, or_nn, not_false_eq_true, not_true_eq_false, i1000, i1e0, true_or, or_true, Decidable.not_not, if_true, if_false, Bool.false_eq_true, Int32.zero_add, true_and, and_true, k4_0, k4_5, kT0, kq_6, q7, a12, if_true, if_false]
    · rw [if_neg c1] at hz; exact absurd hz (by decide)
  · subst h
    have q7 := o1 (by decide)
    rw [if_neg (by omega), if_pos rfl] at hz
    obtain ⟨k, hk, rfl, hl, hpos⟩ := hp rfl
    have a15 := k0u (@s_15 (kW M K d v x) 5 (K 0) n k h40 hz hk hl)
    refine ⟨_, hpos, ?_⟩
    refine qRun_of ?_ rfl
    rw [en_82, st, sw_82 hu]
    unfold clD
    rw [nN_nI (by omega)]
    simp (config := {decide := true}) only [x_82_0, x_82_1, x_82_4, x_82_56, x_82_57, x_82_60, x_82_61, x_82_62, x_82_65, x_82_68, x_82_69, x_82_72, x_82_75, x_82_76, x_82_79, x_82_82, x_82_85, x_82_86, x_82_87, x_82_90, x_82_91, x_82_92, x_82_95, x_82_98, x_82_99, x_82_102, x_82_105, x_82_106, x_82_109, x_82_112, x_82_115, x_82_116, x_82_117, x_82_120, x_82_121, x_82_122, x_82_125, x_82_128, x_82_129, x_82_132, x_82_135, x_82_136, x_82_139, x_82_142, x_82_145, x_82_146, x_82_147, x_82_150, x_82_151, x_82_154, x_82_157, x_82_158, x_82_161, x_82_164, x_82_167, x_82_168, x_82_169, x_82_172, x_82_173, x_82_176, x_82_179, x_82_182, x_82_183, x_82_184, x_82_187, x_82_188, x_82_189, x_82_192, x_82_195, x_82_198, Option.bind_some, Option.bind_none, Option.toList_some, Option.toList_none, List.cons_append, List.nil_append, pNl_i, pNl_r, pNl_u, pNl_n, bI_0, bI_1, nn_or, or_nn, not_false_eq_true, not_true_eq_false, i1000, i1e0, true_or, or_true, Decidable.not_not, if_true, if_false, Bool.false_eq_true, Int32.zero_add, true_and, and_true, k4_0, k4_5, kT0, kq_6, q7, a15, if_true, if_false]
/-- the class carries out, from the k-th order on -/
def cyC (y : Nat → Nat) (P : Nat) : Nat → Nat → Sg → Nat × Sg
  | 0, k, s => (k, s)
  | f + 1, k, s =>
    if mdV s (srP y P (psP y P k)) (nI (orP y P (psP y P k)).2.1) (nI (orP y P (psP y P k)).2.2.1) (nI (orP y P (psP y P k)).2.2.2.1) = 0 then cyC y P f (k + 1) (clD s (srP y P (psP y P k)) (nI (orP y P (psP y P k)).2.1) (nI (orP y P (psP y P k)).2.2.1) (nI (orP y P (psP y P k)).2.2.2.1)) else (k, s)
theorem on_of {d' : Nat → Int32} {u : Nat} {r : qO5} (h : odR d' u r) (h1 : r.1 = true) : onP d' u (nI r.2.1) (nI r.2.2.1) (nI r.2.2.2.1) := by
  obtain ⟨a, b, c, e⟩ := h h1
  exact ⟨a, b, c, e⟩
theorem s_81_0 (hy : pxOK d x y P) (h : (txL y P 81 0 0).1 = false) (h27 : (txL y P 81 0 0).2.1 ≤ 80) : ∃ d', qRun 81 [.ref 4] (kW M K d v x) = some (some (.int (-3)), kW M K d' v x) ∧ odK d d' := by
  obtain ⟨d', h1, h2⟩ := @s_50 M K d v x y P hy
  refine ⟨d', ?_, h2⟩
  rw [if_neg (by rw [h]; simp)] at h1
  have e : (nI (txL y P 81 0 0).2.1 = -6) = False := eq_false fun q => by
    have := nI_pos (n := (txL y P 81 0 0).2.1) (by omega)
    rw [q] at this
    exact absurd this (by decide)
  refine qRun_of ?_ rfl
  rw [en_81]
  simp only [x_81_0, x_81_1, x_81_4, x_81_7, x_81_9, x_81_12, x_81_14, x_81_15, x_81_16, x_81_19, x_81_20, x_81_23, x_81_26, x_81_27, x_81_30, x_81_33, x_81_34, x_81_35, x_81_36, x_81_39, x_81_40, x_81_43, x_81_44, x_81_46, x_81_49, x_81_50, x_81_53, x_81_56, x_81_59, x_81_60, x_81_63, x_81_66, x_81_69, x_81_72, x_81_73, x_81_76, x_81_78, x_81_81, x_81_84, x_81_87, x_81_88, x_81_91, x_81_94, x_81_95, x_81_96, Option.bind_some, Option.bind_none, Option.toList_some, Option.toList_none, List.cons_append, List.nil_append, pNl_i, pNl_r, pNl_u, pNl_n, bI_0, bI_1, nn_or, or_nn, not_false_eq_true, not_true_eq_false, i1000, i1e0, true_or, or_true, Decidable.not_not, if_true, if_false, Bool.false_eq_true, Int32.zero_add, true_and, and_true, k4_5, kTp, h1, e]
end KO
