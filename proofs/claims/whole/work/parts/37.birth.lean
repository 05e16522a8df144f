/-! the reference's object when it is made -/
theorem al_put {N : qHp} {n S t f : Nat} {l vs : List Value} {ty : FieldType} (h1 : N.1 = (n, S)) (h2 : N.2 627 = some (7, vs)) (h3 : n ≠ 627) (h4 : f < vs.length) (h5 : qFit ty (.ref n) = true) : ∃ N', hP (hN N (t, l)) 627 7 f ty (.ref N.1.1) = some N' ∧ N'.1 = (n + 1, S + l.length) ∧ N'.2 627 = some (7, vs.set f (.ref n)) ∧ N'.2 n = some (t, l) ∧ ∀ a, a ≠ 627 → a ≠ n → N'.2 a = N.2 a := by
  have h1' : N.1.1 = n := by rw [h1]
  refine ⟨hU (hN N (t, l)) 627 (7, vs.set f (.ref n)), ?_, ?_, ?_, ?_, ?_⟩
  · rw [h1']
    refine hP_of ?_ h4 h5
    simp only [hN]
    rw [if_neg (by omega)]; exact h2
  · simp only [hU, hN, h1]
  · simp only [hU]; rw [if_pos trivial]
  · simp only [hU, hN]
    rw [if_neg h3, if_pos h1'.symm]
  · intro a ha hb
    simp only [hU, hN]
    rw [if_neg ha, if_neg (by omega)]
def nlS : Sg := fun _ _ => 0
def iniF : Nat → Int32
  | 0 => 3
  | 1 => 20
  | 2 => 2
  | 3 => 5
  | 4 => 480
  | 6 => 50
  | 7 => 30
  | 8 => 10
  | _ => 0
def ini1 (i m : Nat) : Sg := fun g k => if g = 1 then iniF k else if g = 2 ∧ k < i then 720 else if (3 ≤ g ∧ g < 3 + m) ∧ (k = 0 ∨ k = 2) then -6 else 0
/-- the day of a new object -/
def iniS : Sg := ini1 8 3
section QK
variable {M : qHp} {c : Nat → Int32} {R : Nat → Sg} {A : Nat → Nat → Int32}
theorem wv_sx {x v : Int32} {i : Nat} (hi : i < 9) (hx : x = nI (2 + i)) : hS (wm M c R A) 8 628 x (.int v) = some (wm M c (us R 0 (u2 (R 0) 1 i v)) A) := (congrArg (fun q => hS q 8 628 x (.int v)) wm_now').trans ((ms (k := 2 + i) (by omega) (loc_set hi) hx).trans (congrArg some wm_now))
theorem wv_mx {x v : Int32} {m i : Nat} (hm : m < 3) (hi : i < 5) (hx : x = nI (19 + 5 * m + i)) : hS (wm M c R A) 8 628 x (.int v) = some (wm M c (us R 0 (u2 (R 0) (3 + m) i v)) A) := (congrArg (fun q => hS q 8 628 x (.int v)) wm_now').trans ((ms (k := 19 + 5 * m + i) (by omega) (loc_mach hm hi) hx).trans (congrArg some wm_now))
theorem bo_set : qEx 86 (63, [some (.ref 627), none], [], wm M c (fun _ => nlS) A) = qEx 86 (131, [some (.ref 627), some (.int (nI 0))], [], wm M c (us (fun _ => nlS) 0 (ini1 0 0)) A) := by
  have w0 := fun R v => @wv_sx M c R A 2 v 0 (by omega) rfl
  have w1 := fun R v => @wv_sx M c R A 3 v 1 (by omega) rfl
  have w2 := fun R v => @wv_sx M c R A 4 v 2 (by omega) rfl
  have w3 := fun R v => @wv_sx M c R A 5 v 3 (by omega) rfl
  have w4 := fun R v => @wv_sx M c R A 6 v 4 (by omega) rfl
  have w6 := fun R v => @wv_sx M c R A 8 v 6 (by omega) rfl
  have w7 := fun R v => @wv_sx M c R A 9 v 7 (by omega) rfl
  have w8 := fun R v => @wv_sx M c R A 10 v 8 (by omega) rfl
  simp only [x_86_0, x_86_4, x_86_5, x_86_10, x_86_13, x_86_14, x_86_19, x_86_22, x_86_23, x_86_28, x_86_31, x_86_32, x_86_37, x_86_40, x_86_41, x_86_44, x_86_47, x_86_48, x_86_52, x_86_55, x_86_56, x_86_60, x_86_63, x_86_64, x_86_67, x_86_68, x_86_69, x_86_70, x_86_71, x_86_74, x_86_75, x_86_77, x_86_78, x_86_79, x_86_82, x_86_83, x_86_84, x_86_85, x_86_86, x_86_89, x_86_90, x_86_91, x_86_92, x_86_93, x_86_96, x_86_98, x_86_101, x_86_102, x_86_103, x_86_106, x_86_108, x_86_110, x_86_111, x_86_112, x_86_115, x_86_117, x_86_119, x_86_120, x_86_121, x_86_124, x_86_126, x_86_128, x_86_129, x_86_130, x_86_132, x_86_134, x_86_137, x_86_138, x_86_141, x_86_143, x_86_144, x_86_145, x_86_148, x_86_149, x_86_152, x_86_155, x_86_156, x_86_157, x_86_158, x_86_159, x_86_162, x_86_163, x_86_166, x_86_168, x_86_169, x_86_170, x_86_171, x_86_172, x_86_174, x_86_175, x_86_176, x_86_179, x_86_181, x_86_182, x_86_183, x_86_184, x_86_185, x_86_186, x_86_187, x_86_189, x_86_190, x_86_193, x_86_196, Option.bind_some, Option.bind_none, Option.toList_some, Option.toList_none, List.cons_append, List.nil_append, pNl_i, pNl_r, pNl_u, pNl_n, bI_0, bI_1, nn_or, or_nn, not_false_eq_true, not_true_eq_false, i1000, i1e0, true_or, or_true, Decidable.not_not, if_true, if_false, Bool.false_eq_true, Int32.zero_add, true_and, and_true, wg_0, w0, w1, w2, w3, w4, w6, w7, w8, us_s, us_us]
  have hf : u2 (u2 (u2 (u2 (u2 (u2 (u2 (u2 nlS 1 0 3) 1 1 20) 1 2 2) 1 3 5) 1 4 480) 1 6 50) 1 7 30) 1 8 10 = ini1 0 0 := by
    funext g k
    simp only [u2_at]
    unfold ini1 nlS
    by_cases h : g = 1
    · simp only [h, true_and]
      match k with
      | 0 | 1 | 2 | 3 | 4 | 5 | 6 | 7 | 8 => rfl
      | n + 9 => simp [iniF]
    · simp only [h, false_and, if_false]
      rw [if_neg (by omega), if_neg (by omega)]
  rw [hf]
  rfl
theorem bo_cut : ∀ (q i : Nat), i + q = 8 → qEx 86 (131, [some (.ref 627), some (.int (nI i))], [], wm M c (us (fun _ => nlS) 0 (ini1 i 0)) A) = qEx 86 (157, [some (.ref 627), some (.int (nI 0))], [], wm M c (us (fun _ => nlS) 0 (ini1 8 0)) A) := by
  intro q
  induction q with
  | zero =>
    intro i hi
    have hin : i = 8 := by omega
    subst hin
    rw [x_86_131]
    have hle : ((8 : Int32) ≤ nI 8) = True := eq_true (by decide)
    simp only [x_86_0, x_86_4, x_86_5, x_86_10, x_86_13, x_86_14, x_86_19, x_86_22, x_86_23, x_86_28, x_86_31, x_86_32, x_86_37, x_86_40, x_86_41, x_86_44, x_86_47, x_86_48, x_86_52, x_86_55, x_86_56, x_86_60, x_86_63, x_86_64, x_86_67, x_86_68, x_86_69, x_86_70, x_86_71, x_86_74, x_86_75, x_86_77, x_86_78, x_86_79, x_86_82, x_86_83, x_86_84, x_86_85, x_86_86, x_86_89, x_86_90, x_86_91, x_86_92, x_86_93, x_86_96, x_86_98, x_86_101, x_86_102, x_86_103, x_86_106, x_86_108, x_86_110, x_86_111, x_86_112, x_86_115, x_86_117, x_86_119, x_86_120, x_86_121, x_86_124, x_86_126, x_86_128, x_86_129, x_86_130, x_86_132, x_86_134, x_86_137, x_86_138, x_86_141, x_86_143, x_86_144, x_86_145, x_86_148, x_86_149, x_86_152, x_86_155, x_86_156, x_86_158, x_86_159, x_86_162, x_86_163, x_86_166, x_86_168, x_86_169, x_86_170, x_86_171, x_86_172, x_86_174, x_86_175, x_86_176, x_86_179, x_86_181, x_86_182, x_86_183, x_86_184, x_86_185, x_86_186, x_86_187, x_86_189, x_86_190, x_86_193, x_86_196, Option.bind_some, Option.bind_none, Option.toList_some, Option.toList_none, List.cons_append, List.nil_append, pNl_i, pNl_r, pNl_u, pNl_n, bI_0, bI_1, nn_or, or_nn, not_false_eq_true, not_true_eq_false, i1000, i1e0, true_or, or_true, Decidable.not_not, if_true, if_false, Bool.false_eq_true, Int32.zero_add, true_and, and_true, hle]
    rfl
  | succ q ih =>
    intro i hi
    have hlt : ((8 : Int32) ≤ nI i) = False := by rw [show (8 : Int32) = nI 8 from rfl, nI_le_iff (by omega) (by omega)]; simp; omega
    have e3 : u2 (ini1 i 0) 2 i 720 = ini1 (i + 1) 0 := by
      funext g j
      rw [u2_at]
      unfold ini1
      by_cases h : g = 2 ∧ j = i
      · rw [if_pos h, if_neg (by omega), if_pos (by omega)]
      · rw [if_neg h]
        by_cases h0 : g = 1
        · rw [if_pos h0, if_pos h0]
        · rw [if_neg h0, if_neg h0]
          by_cases h2 : g = 2 ∧ j < i
          · rw [if_pos h2, if_pos (by omega)]
          · rw [if_neg h2, if_neg (show ¬ (g = 2 ∧ j < i + 1) by omega)]
    have hw := @wv_cut M c (us (fun _ => nlS) 0 (ini1 i 0)) A i 720 (by omega)
    rw [us_s, us_us, e3] at hw
    rw [← ih (i + 1) (by omega), x_86_131]
    simp only [x_86_0, x_86_4, x_86_5, x_86_10, x_86_13, x_86_14, x_86_19, x_86_22, x_86_23, x_86_28, x_86_31, x_86_32, x_86_37, x_86_40, x_86_41, x_86_44, x_86_47, x_86_48, x_86_52, x_86_55, x_86_56, x_86_60, x_86_63, x_86_64, x_86_67, x_86_68, x_86_69, x_86_70, x_86_71, x_86_74, x_86_75, x_86_77, x_86_78, x_86_79, x_86_82, x_86_83, x_86_84, x_86_85, x_86_86, x_86_89, x_86_90, x_86_91, x_86_92, x_86_93, x_86_96, x_86_98, x_86_101, x_86_102, x_86_103, x_86_106, x_86_108, x_86_110, x_86_111, x_86_112, x_86_115, x_86_117, x_86_119, x_86_120, x_86_121, x_86_124, x_86_126, x_86_128, x_86_129, x_86_130, x_86_132, x_86_134, x_86_137, x_86_138, x_86_141, x_86_143, x_86_144, x_86_145, x_86_148, x_86_149, x_86_152, x_86_155, x_86_156, x_86_158, x_86_159, x_86_162, x_86_163, x_86_166, x_86_168, x_86_169, x_86_170, x_86_171, x_86_172, x_86_174, x_86_175, x_86_176, x_86_179, x_86_181, x_86_182, x_86_183, x_86_184, x_86_185, x_86_186, x_86_187, x_86_189, x_86_190, x_86_193, x_86_196, Option.bind_some, Option.bind_none, Option.toList_some, Option.toList_none, List.cons_append, List.nil_append, pNl_i, pNl_r, pNl_u, pNl_n, bI_0, bI_1, nn_or, or_nn, not_false_eq_true, not_true_eq_false, i1000, i1e0, true_or, or_true, Decidable.not_not, if_true, if_false, Bool.false_eq_true, Int32.zero_add, true_and, and_true, hlt, wg_0, hw, nI_1]
theorem bo_mac : ∀ (q i : Nat), i + q = 3 → qEx 86 (157, [some (.ref 627), some (.int (nI i))], [], wm M c (us (fun _ => nlS) 0 (ini1 8 i)) A) = some (none, wm M c (us (fun _ => nlS) 0 iniS) A) := by
  intro q
  induction q with
  | zero =>
    intro i hi
    have hin : i = 3 := by omega
    subst hin
    rw [x_86_157]
    have hle : ((3 : Int32) ≤ nI 3) = True := eq_true (by decide)
    simp only [x_86_0, x_86_4, x_86_5, x_86_10, x_86_13, x_86_14, x_86_19, x_86_22, x_86_23, x_86_28, x_86_31, x_86_32, x_86_37, x_86_40, x_86_41, x_86_44, x_86_47, x_86_48, x_86_52, x_86_55, x_86_56, x_86_60, x_86_63, x_86_64, x_86_67, x_86_68, x_86_69, x_86_70, x_86_71, x_86_74, x_86_75, x_86_77, x_86_78, x_86_79, x_86_82, x_86_83, x_86_84, x_86_85, x_86_86, x_86_89, x_86_90, x_86_91, x_86_92, x_86_93, x_86_96, x_86_98, x_86_101, x_86_102, x_86_103, x_86_106, x_86_108, x_86_110, x_86_111, x_86_112, x_86_115, x_86_117, x_86_119, x_86_120, x_86_121, x_86_124, x_86_126, x_86_128, x_86_129, x_86_130, x_86_132, x_86_134, x_86_137, x_86_138, x_86_141, x_86_143, x_86_144, x_86_145, x_86_148, x_86_149, x_86_152, x_86_155, x_86_156, x_86_158, x_86_159, x_86_162, x_86_163, x_86_166, x_86_168, x_86_169, x_86_170, x_86_171, x_86_172, x_86_174, x_86_175, x_86_176, x_86_179, x_86_181, x_86_182, x_86_183, x_86_184, x_86_185, x_86_186, x_86_187, x_86_189, x_86_190, x_86_193, x_86_196, Option.bind_some, Option.bind_none, Option.toList_some, Option.toList_none, List.cons_append, List.nil_append, pNl_i, pNl_r, pNl_u, pNl_n, bI_0, bI_1, nn_or, or_nn, not_false_eq_true, not_true_eq_false, i1000, i1e0, true_or, or_true, Decidable.not_not, if_true, if_false, Bool.false_eq_true, Int32.zero_add, true_and, and_true, hle]
    rfl
  | succ q ih =>
    intro i hi
    have hlt : ((3 : Int32) ≤ nI i) = False := by rw [show (3 : Int32) = nI 3 from rfl, nI_le_iff (by omega) (by omega)]; simp; omega
    have e3 : u2 (u2 (ini1 8 i) (3 + i) 0 (-6)) (3 + i) 2 (-6) = ini1 8 (i + 1) := by
      funext g j
      rw [u2_at, u2_at]
      unfold ini1
      by_cases h : g = 3 + i ∧ j = 2
      · rw [if_pos h, if_neg (by omega), if_neg (by omega), if_pos (by omega)]
      · rw [if_neg h]
        by_cases h' : g = 3 + i ∧ j = 0
        · rw [if_pos h', if_neg (by omega), if_neg (by omega), if_pos (by omega)]
        · rw [if_neg h']
          by_cases h0 : g = 1
          · rw [if_pos h0, if_pos h0]
          · rw [if_neg h0, if_neg h0]
            by_cases h2 : g = 2 ∧ j < 8
            · rw [if_pos h2, if_pos h2]
            · rw [if_neg h2, if_neg h2]
              by_cases h3 : (3 ≤ g ∧ g < 3 + i) ∧ (j = 0 ∨ j = 2)
              · rw [if_pos h3, if_pos (by omega)]
              · rw [if_neg h3, if_neg (by omega)]
    have hw := @wv_mx M c (us (fun _ => nlS) 0 (ini1 8 i)) A (19 + 5 * nI i) (-6) i 0 (by omega) (by omega) (by rw [show (19 + 5 * nI i : Int32) = nI 19 + nI 5 * nI i from rfl, pk_mul, nI_add]; rfl)
    have hw2 := fun R => @wv_mx M c R A (19 + 5 * nI i + 2) (-6) i 2 (by omega) (by omega) (by rw [show (19 + 5 * nI i + 2 : Int32) = nI 19 + nI 5 * nI i + nI 2 from rfl, pk_mul, nI_add, nI_add])
    rw [us_s, us_us] at hw
    rw [← ih (i + 1) (by omega), x_86_157]
    simp only [x_86_0, x_86_4, x_86_5, x_86_10, x_86_13, x_86_14, x_86_19, x_86_22, x_86_23, x_86_28, x_86_31, x_86_32, x_86_37, x_86_40, x_86_41, x_86_44, x_86_47, x_86_48, x_86_52, x_86_55, x_86_56, x_86_60, x_86_63, x_86_64, x_86_67, x_86_68, x_86_69, x_86_70, x_86_71, x_86_74, x_86_75, x_86_77, x_86_78, x_86_79, x_86_82, x_86_83, x_86_84, x_86_85, x_86_86, x_86_89, x_86_90, x_86_91, x_86_92, x_86_93, x_86_96, x_86_98, x_86_101, x_86_102, x_86_103, x_86_106, x_86_108, x_86_110, x_86_111, x_86_112, x_86_115, x_86_117, x_86_119, x_86_120, x_86_121, x_86_124, x_86_126, x_86_128, x_86_129, x_86_130, x_86_132, x_86_134, x_86_137, x_86_138, x_86_141, x_86_143, x_86_144, x_86_145, x_86_148, x_86_149, x_86_152, x_86_155, x_86_156, x_86_158, x_86_159, x_86_162, x_86_163, x_86_166, x_86_168, x_86_169, x_86_170, x_86_171, x_86_172, x_86_174, x_86_175, x_86_176, x_86_179, x_86_181, x_86_182, x_86_183, x_86_184, x_86_185, x_86_186, x_86_187, x_86_189, x_86_190, x_86_193, x_86_196, Option.bind_some, Option.bind_none, Option.toList_some, Option.toList_none, List.cons_append, List.nil_append, pNl_i, pNl_r, pNl_u, pNl_n, bI_0, bI_1, nn_or, or_nn, not_false_eq_true, not_true_eq_false, i1000, i1e0, true_or, or_true, Decidable.not_not, if_true, if_false, Bool.false_eq_true, Int32.zero_add, true_and, and_true, hlt, wg_0, hw, hw2, us_s, us_us, e3, nI_1]
theorem s_86 {S : Nat} (h1 : M.1 = (628, S)) (h2 : M.2 627 = some (7, qDf 7)) : ∃ N : qHp, N.1 = (635, S + 6594) ∧ (∀ a, a < 627 → N.2 a = M.2 a) ∧ qRun 86 [.ref 627] M = some (none, wm N (fun _ => 0) (us (fun _ => nlS) 0 iniS) (fun _ _ => 0)) := by
  rw [show qDf 7 = [.null, .null, .null, .int 0, .null, .null, .null, .int 0, .int 0, .null, .int 0] from rfl] at h2
  obtain ⟨N1, e1, a1, b1, c1, d1⟩ := @al_put M 628 S 8 0 (List.replicate ((640 : Int32).toNatClampNeg) (.int 0)) _ (.array .int) h1 h2 (by omega) (by simp) rfl
  obtain ⟨N2, e2, a2, b2, c2, d2⟩ := @al_put N1 629 _ 8 1 (List.replicate ((640 : Int32).toNatClampNeg) (.int 0)) _ (.array .int) a1 b1 (by omega) (by simp) rfl
  obtain ⟨N3, e3, a3, b3, c3, d3⟩ := @al_put N2 630 _ 8 2 (List.replicate ((3840 : Int32).toNatClampNeg) (.int 0)) _ (.array .int) a2 b2 (by omega) (by simp) rfl
  obtain ⟨N4, e4, a4, b4, c4, d4⟩ := @al_put N3 631 _ 8 4 (List.replicate ((1280 : Int32).toNatClampNeg) (.int 0)) _ (.array .int) a3 b3 (by omega) (by simp) rfl
  obtain ⟨N5, e5, a5, b5, c5, d5⟩ := @al_put N4 632 _ 9 5 (List.replicate ((2 : Int32).toNatClampNeg) (.int 0)) _ (.array .boolean) a4 b4 (by omega) (by simp) rfl
  obtain ⟨N6, e6, a6, b6, c6, d6⟩ := @al_put N5 633 _ 8 6 (List.replicate ((80 : Int32).toNatClampNeg) (.int 0)) _ (.array .int) a5 b5 (by omega) (by simp) rfl
  obtain ⟨N7, e7, a7, b7, c7, d7⟩ := @al_put N6 634 _ 8 9 (List.replicate ((112 : Int32).toNatClampNeg) (.int 0)) _ (.array .int) a6 b6 (by omega) (by simp) rfl
  have hw : N7 = wm N7 (fun _ => 0) (fun _ => nlS) (fun _ _ => 0) := by
    refine Prod.ext rfl (funext fun q => ?_)
    simp only [wm]
    by_cases hq : 627 ≤ q ∧ q < 635
    · rw [if_pos hq]
      obtain ⟨j, rfl⟩ : ∃ j, q = 627 + j := ⟨q - 627, by omega⟩
      rw [Nat.add_sub_cancel_left]
      match j with
      | 0 => exact b7
      | 1 => rw [d7 _ (by omega) (by omega), d6 _ (by omega) (by omega), d5 _ (by omega) (by omega), d4 _ (by omega) (by omega), d3 _ (by omega) (by omega), d2 _ (by omega) (by omega), c1, ia_rep]; rfl
      | 2 => rw [d7 _ (by omega) (by omega), d6 _ (by omega) (by omega), d5 _ (by omega) (by omega), d4 _ (by omega) (by omega), d3 _ (by omega) (by omega), c2, ia_rep]; rfl
      | 3 => rw [d7 _ (by omega) (by omega), d6 _ (by omega) (by omega), d5 _ (by omega) (by omega), d4 _ (by omega) (by omega), c3, ia_rep]; rfl
      | 4 => rw [d7 _ (by omega) (by omega), d6 _ (by omega) (by omega), d5 _ (by omega) (by omega), c4, ia_rep]; rfl
      | 5 => rw [d7 _ (by omega) (by omega), d6 _ (by omega) (by omega), c5, ia_rep]; rfl
      | 6 => rw [d7 _ (by omega) (by omega), c6, ia_rep]; rfl
      | 7 => rw [c7, ia_rep]; rfl
      | n + 8 => omega
    · rw [if_neg hq]
  have hl7 : N7.1 = (635, S + 6594) := by
    rw [a7]
    simp only [List.length_replicate]
    rw [show (640 : Int32).toNatClampNeg = 640 from rfl, show (3840 : Int32).toNatClampNeg = 3840 from rfl, show (1280 : Int32).toNatClampNeg = 1280 from rfl, show (2 : Int32).toNatClampNeg = 2 from rfl, show (80 : Int32).toNatClampNeg = 80 from rfl, show (112 : Int32).toNatClampNeg = 112 from rfl]
  refine ⟨N7, hl7, fun a ha => ?_, ?_⟩
  · rw [d7 a (by omega) (by omega), d6 a (by omega) (by omega), d5 a (by omega) (by omega), d4 a (by omega) (by omega), d3 a (by omega) (by omega), d2 a (by omega) (by omega), d1 a (by omega) (by omega)]
  refine qRun_of ?_ (by rw [wm_1, hl7, h1]; rfl)
  rw [en_86]
  have hz := @bo_set N7 (fun _ => 0) (fun _ _ => 0)
  rw [← hw] at hz
  have hend := hz.trans ((@bo_cut N7 (fun _ => 0) (fun _ _ => 0) 8 0 (by omega)).trans (@bo_mac N7 (fun _ => 0) (fun _ _ => 0) 3 0 (by omega)))
  rw [← hend]
  rw [x_86_0, x_86_1, x_86_4, x_86_5, x_86_8 (by decide), x_86_10, e1, Option.bind_some]
  rw [x_86_13, x_86_14, x_86_17 (by decide), x_86_19, e2, Option.bind_some]
  rw [x_86_22, x_86_23, x_86_26 (by decide), x_86_28, e3, Option.bind_some]
  rw [x_86_31, x_86_32, x_86_35 (by decide), x_86_37, e4, Option.bind_some]
  rw [x_86_40, x_86_41, x_86_42 (by decide), x_86_44, e5, Option.bind_some]
  rw [x_86_47, x_86_48, x_86_50 (by decide), x_86_52, e6, Option.bind_some]
  rw [x_86_55, x_86_56, x_86_58 (by decide), x_86_60, e7, Option.bind_some]
end QK
