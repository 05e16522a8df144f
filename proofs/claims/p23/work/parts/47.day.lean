/-! the class: a minute, a day -/
section CI
variable {M : qHp} {o : Nat} {s : Sg}
/-- the hands, for at most f batches -/
def sh1 (s : Sg) (left : Int32) : Int32 := if s (11 + nN (s 10 0)) 5 < left then s (11 + nN (s 10 0)) 5 else left
def sh2 (s : Sg) (left : Int32) : Sg :=
  let s1 := chM s (nN (s 10 0)) (sh1 s left) (s 0 0)
  if s1 (11 + nN (s 10 0)) 5 = 0 then rmF s1 10 0 4 (nN (s 0 4)) else s1
def shL : Nat → Int32 → Sg → Sg
  | 0, _, s => s
  | f + 1, left, s => if left ≤ 0 then s else if s 0 4 = 0 then s else shL f (left - sh1 s left) (sh2 s left)
def shOK (n : Nat) : Nat → Int32 → Sg → Prop
  | 0, _, _ => True
  | f + 1, left, s => left ≤ 0 ∨ (s 0 1 = nI n ∧ ∃ w, w ≤ 40 ∧ s 0 4 = nI w ∧ (w = 0 ∨ ∃ b, b < n ∧ s 10 0 = nI b ∧ shOK n f (left - sh1 s left) (sh2 s left)))
theorem ch_ne {b g k : Nat} {p t : Int32} (h : g ≠ 11 + b) : chM s b p t g k = s g k := by
  unfold chM
  split
  · rw [u2_at, if_neg (fun q => h q.1), u2_at, if_neg (fun q => h q.1), u2_at, if_neg (fun q => h q.1)]
  · rw [u2_at, if_neg (fun q => h q.1), u2_at, if_neg (fun q => h q.1)]
theorem s_36 {n : Nat} (h40 : n ≤ 40) (h : shOK n 40 (s 1 2 * s 1 3) s) : qRun 36 [.ref o] (cB M o s) = some (none, cB M o (shL 40 (s 1 2 * s 1 3) s)) := by
  have loop : ∀ (f i : Nat) (left : Int32) (t : Sg) (l3 l4 : Option Value), qNl (some l3) = true → i + f = 40 → shOK n f left t → qEx 36 (16, [some (.ref o), some (.int left), some (.int (nI i)), l3, l4], [], cB M o t) = some (none, cB M o (shL f left t)) := by
    intro f
    induction f with
    | zero =>
      intro i left t l3 l4 n3 hi hok
      have : i = 40 := by omega
      subst this
      have e : ((40 : Int32) ≤ nI 40) = True := eq_true (by decide)
      rw [x_36_16]
      simp only [x_36_0, x_36_1, x_36_4, x_36_5, x_36_6, x_36_7, x_36_10, x_36_11, x_36_12, x_36_13, x_36_14, x_36_15, x_36_17, x_36_19, x_36_22, x_36_23, x_36_26, x_36_27, x_36_28, x_36_31, x_36_32, x_36_35, x_36_38, x_36_39, x_36_40N, x_36_40, x_36_43, x_36_46, x_36_47, x_36_48, x_36_51, x_36_54, x_36_56, x_36_57, x_36_59, x_36_60, x_36_61, x_36_62, x_36_64, x_36_65, x_36_68, x_36_71, x_36_72, x_36_75, x_36_78, x_36_79, x_36_82, x_36_85, x_36_88, x_36_91, Option.bind_some, Option.bind_none, Option.toList_some, Option.toList_none, List.cons_append, List.nil_append, pNl_i, pNl_r, pNl_u, pNl_n, bI_0, bI_1, nn_or, or_nn, not_false_eq_true, not_true_eq_false, i1000, i1e0, true_or, or_true, Decidable.not_not, if_true, if_false, Bool.false_eq_true, Int32.zero_add, true_and, and_true, e]
      rfl
    | succ f ih =>
      intro i left t l3 l4 n3 hi hok
      have hlt : ((40 : Int32) ≤ nI i) = False := by rw [show (40 : Int32) = nI 40 from rfl, nI_le_iff (by omega) (by omega)]; simp; omega
      rw [show shL (f + 1) left t = if left ≤ 0 then t else if t 0 4 = 0 then t else shL f (left - sh1 t left) (sh2 t left) from rfl]
      rw [x_36_16]
      by_cases c0 : left ≤ 0
      · rw [if_pos c0]
        simp only [x_36_0, x_36_1, x_36_4, x_36_5, x_36_6, x_36_7, x_36_10, x_36_11, x_36_12, x_36_13, x_36_14, x_36_15, x_36_17, x_36_19, x_36_22, x_36_23, x_36_26, x_36_27, x_36_28, x_36_31, x_36_32, x_36_35, x_36_38, x_36_39, x_36_40N, x_36_40, x_36_43, x_36_46, x_36_47, x_36_48, x_36_51, x_36_54, x_36_56, x_36_57, x_36_59, x_36_60, x_36_61, x_36_62, x_36_64, x_36_65, x_36_68, x_36_71, x_36_72, x_36_75, x_36_78, x_36_79, x_36_82, x_36_85, x_36_88, x_36_91, Option.bind_some, Option.bind_none, Option.toList_some, Option.toList_none, List.cons_append, List.nil_append, pNl_i, pNl_r, pNl_u, pNl_n, bI_0, bI_1, nn_or, or_nn, not_false_eq_true, not_true_eq_false, i1000, i1e0, true_or, or_true, Decidable.not_not, if_true, if_false, Bool.false_eq_true, Int32.zero_add, true_and, and_true, hlt, c0]
      · rw [if_neg c0]
        rcases hok with hok | ⟨hn, w, hw, e4, hok⟩
        · exact absurd hok c0
        have a0 := @s_60 M o t (o + 5) 10 0 4 w rw_h 0 e4 hw (by omega)
        rw [nl_0] at a0
        rcases hok with hok | ⟨b, hb, e10, hok⟩
        · subst hok
          rw [if_pos (show t 0 4 = 0 from e4)]
          rw [if_neg (by omega)] at a0
          have a1 := @s_17_0 M o t (-6) (by rw [hn]; exact m6_lt n (by omega))
          simp only [x_36_0, x_36_1, x_36_4, x_36_5, x_36_6, x_36_7, x_36_10, x_36_11, x_36_12, x_36_13, x_36_14, x_36_15, x_36_17, x_36_19, x_36_22, x_36_23, x_36_26, x_36_27, x_36_28, x_36_31, x_36_32, x_36_35, x_36_38, x_36_39, x_36_40N, x_36_40, x_36_43, x_36_46, x_36_47, x_36_48, x_36_51, x_36_54, x_36_56, x_36_57, x_36_59, x_36_60, x_36_61, x_36_62, x_36_64, x_36_65, x_36_68, x_36_71, x_36_72, x_36_75, x_36_78, x_36_79, x_36_82, x_36_85, x_36_88, x_36_91, Option.bind_some, Option.bind_none, Option.toList_some, Option.toList_none, List.cons_append, List.nil_append, pNl_i, pNl_r, pNl_u, pNl_n, bI_0, bI_1, nn_or, or_nn, not_false_eq_true, not_true_eq_false, i1000, i1e0, true_or, or_true, Decidable.not_not, if_true, if_false, Bool.false_eq_true, Int32.zero_add, true_and, and_true, cT, cg_4, n3, hlt, c0, rT rw_h, a0, a1, x_36_38N, x_36_39N]
        · by_cases c4 : t 0 4 = 0
          · rw [if_pos c4]
            have hw0 : w = 0 := by
              rw [e4, show (0 : Int32) = nI 0 from rfl, nI_eq_iff (by omega) (by omega)] at c4; exact c4
            subst hw0
            rw [if_neg (by omega)] at a0
            have a1 := @s_17_0 M o t (-6) (by rw [hn]; exact m6_lt n (by omega))
            simp only [x_36_0, x_36_1, x_36_4, x_36_5, x_36_6, x_36_7, x_36_10, x_36_11, x_36_12, x_36_13, x_36_14, x_36_15, x_36_17, x_36_19, x_36_22, x_36_23, x_36_26, x_36_27, x_36_28, x_36_31, x_36_32, x_36_35, x_36_38, x_36_39, x_36_40N, x_36_40, x_36_43, x_36_46, x_36_47, x_36_48, x_36_51, x_36_54, x_36_56, x_36_57, x_36_59, x_36_60, x_36_61, x_36_62, x_36_64, x_36_65, x_36_68, x_36_71, x_36_72, x_36_75, x_36_78, x_36_79, x_36_82, x_36_85, x_36_88, x_36_91, Option.bind_some, Option.bind_none, Option.toList_some, Option.toList_none, List.cons_append, List.nil_append, pNl_i, pNl_r, pNl_u, pNl_n, bI_0, bI_1, nn_or, or_nn, not_false_eq_true, not_true_eq_false, i1000, i1e0, true_or, or_true, Decidable.not_not, if_true, if_false, Bool.false_eq_true, Int32.zero_add, true_and, and_true, cT, cg_4, n3, hlt, c0, rT rw_h, a0, a1, x_36_38N, x_36_39N]
          · rw [if_neg c4]
            have hw0 : 0 < w := by
              rcases Nat.eq_zero_or_pos w with q | q
              · subst q; exact absurd e4 c4
              · exact q
            have hb40 : b < 40 := by omega
            rw [if_pos hw0, e10] at a0
            have a1 := @s_17 M o t b n hn h40 hb
            have e8 : (if t (11 + b) 5 < left then t (11 + b) 5 else left) = sh1 t left := by unfold sh1; rw [e10, nN_nI (by omega)]
            have a2 := @s_9 M o t b (sh1 t left) (t 0 0) hb40
            have e11 : sh2 t left = if chM t b (sh1 t left) (t 0 0) (11 + b) 5 = 0 then rmF (chM t b (sh1 t left) (t 0 0)) 10 0 4 w else chM t b (sh1 t left) (t 0 0) := by
              unfold sh2; rw [e10, nN_nI (by omega), e4, nN_nI (by omega)]
            have e12 : chM t b (sh1 t left) (t 0 0) 0 4 = nI w := by rw [ch_ne (by omega)]; exact e4
            generalize hc : chM t b (sh1 t left) (t 0 0) = u at *
            have a3 := @s_62 M o u (o + 5) 10 0 4 w rw_h e12 hw0 hw
            have ih2 := fun l4 => ih (i + 1) (left - sh1 t left) (sh2 t left) (some (.ref (o + 7 + b))) l4 rfl (by omega) hok
            by_cases c5 : u (11 + b) 5 = 0
            · rw [if_pos c5] at e11
              rw [e11] at ih2 ⊢
              simp only [x_36_0, x_36_1, x_36_4, x_36_5, x_36_6, x_36_7, x_36_10, x_36_11, x_36_12, x_36_13, x_36_14, x_36_15, x_36_17, x_36_19, x_36_22, x_36_23, x_36_26, x_36_27, x_36_28, x_36_31, x_36_32, x_36_35, x_36_38, x_36_39, x_36_40N, x_36_40, x_36_43, x_36_46, x_36_47, x_36_48, x_36_51, x_36_54, x_36_56, x_36_57, x_36_59, x_36_60, x_36_61, x_36_62, x_36_64, x_36_65, x_36_68, x_36_71, x_36_72, x_36_75, x_36_78, x_36_79, x_36_82, x_36_85, x_36_88, x_36_91, Option.bind_some, Option.bind_none, Option.toList_some, Option.toList_none, List.cons_append, List.nil_append, pNl_i, pNl_r, pNl_u, pNl_n, bI_0, bI_1, nn_or, or_nn, not_false_eq_true, not_true_eq_false, i1000, i1e0, true_or, or_true, Decidable.not_not, if_true, if_false, Bool.false_eq_true, Int32.zero_add, true_and, and_true, cT, cg_4, cg_6, n3, hlt, c0, rT rw_h, a0, a1, bT hb40, bg hb40, Nat.reduceLT, e8, a2, c5, a3, nI_1]
              exact ih2 _
            · rw [if_neg c5] at e11
              rw [e11] at ih2 ⊢
              simp only [x_36_0, x_36_1, x_36_4, x_36_5, x_36_6, x_36_7, x_36_10, x_36_11, x_36_12, x_36_13, x_36_14, x_36_15, x_36_17, x_36_19, x_36_22, x_36_23, x_36_26, x_36_27, x_36_28, x_36_31, x_36_32, x_36_35, x_36_38, x_36_39, x_36_40N, x_36_40, x_36_43, x_36_46, x_36_47, x_36_48, x_36_51, x_36_54, x_36_56, x_36_57, x_36_59, x_36_60, x_36_61, x_36_62, x_36_64, x_36_65, x_36_68, x_36_71, x_36_72, x_36_75, x_36_78, x_36_79, x_36_82, x_36_85, x_36_88, x_36_91, Option.bind_some, Option.bind_none, Option.toList_some, Option.toList_none, List.cons_append, List.nil_append, pNl_i, pNl_r, pNl_u, pNl_n, bI_0, bI_1, nn_or, or_nn, not_false_eq_true, not_true_eq_false, i1000, i1e0, true_or, or_true, Decidable.not_not, if_true, if_false, Bool.false_eq_true, Int32.zero_add, true_and, and_true, cT, cg_4, cg_6, n3, hlt, c0, rT rw_h, a0, a1, bT hb40, bg hb40, Nat.reduceLT, e8, a2, c5, nI_1]
              exact ih2 _
  refine qRun_of ?_ rfl
  rw [en_36]
  have hl := loop 40 0 (s 1 2 * s 1 3) s none none rfl (by omega) h
  rw [← hl]
  simp only [x_36_0, x_36_1, x_36_4, x_36_5, x_36_6, x_36_7, x_36_10, x_36_11, x_36_12, x_36_13, x_36_14, x_36_15, x_36_17, x_36_19, x_36_22, x_36_23, x_36_26, x_36_27, x_36_28, x_36_31, x_36_32, x_36_35, x_36_38, x_36_39, x_36_40N, x_36_40, x_36_43, x_36_46, x_36_47, x_36_48, x_36_51, x_36_54, x_36_56, x_36_57, x_36_59, x_36_60, x_36_61, x_36_62, x_36_64, x_36_65, x_36_68, x_36_71, x_36_72, x_36_75, x_36_78, x_36_79, x_36_82, x_36_85, x_36_88, x_36_91, Option.bind_some, Option.bind_none, Option.toList_some, Option.toList_none, List.cons_append, List.nil_append, pNl_i, pNl_r, pNl_u, pNl_n, bI_0, bI_1, nn_or, or_nn, not_false_eq_true, not_true_eq_false, i1000, i1e0, true_or, or_true, Decidable.not_not, if_true, if_false, Bool.false_eq_true, Int32.zero_add, true_and, and_true, cg_0, tl (i := 2) (x := 2) (by omega) rfl, tl (i := 3) (x := 3) (by omega) rfl]
  rfl
/-- a minute -/
def pm0 (s : Sg) (n : Nat) : Sg := if s 0 0 < s 0 6 then s else u2 (itF lgS n (itF ltS n s)) 0 6 (neF (itF lgS n (itF ltS n s)) n)
def pmM (s : Sg) (m : Nat) : Sg :=
  let s1 := tnF s m (nN (s 6 m))
  let s2 := dqF m (nN (s1 6 m)) s1
  rmM s2 m (nN (s2 0 4)) (s2 1 (6 + m))
def pm1 (s : Sg) : Sg := if s 0 0 < s 1 4 then u2 s 0 3 (s 0 3 + s 1 2) else if s 1 5 = 1 then (if s 0 4 ≤ 0 then s else u2 s 0 3 (s 0 3 + 2 * s 1 2)) else s
def pm2 (s : Sg) : Sg := if s 0 0 < s 1 4 then shL 40 (pm1 s 1 2 * pm1 s 1 3) (pm1 s) else if s 1 5 = 1 then shL 40 (pm1 s 1 2 * pm1 s 1 3) (pm1 s) else pm1 s
def pmF (s : Sg) : Sg :=
  let t := pmM (pmM (pmM (pm0 s (nN (s 0 1))) 0) 1) 2
  u2 (pm2 t) 0 0 (pm2 t 0 0 + 1)
def pmMO (n : Nat) (s : Sg) (m : Nat) : Prop := s 0 1 = nI n ∧ (∃ q, q ≤ 40 ∧ s 6 m = nI q ∧ (0 < q → ∃ b, b < n ∧ s (7 + m) 0 = nI b)) ∧
  (tnF s m (nN (s 6 m)) 0 1 = nI n ∧ ∃ q, q ≤ 40 ∧ tnF s m (nN (s 6 m)) 6 m = nI q ∧ ∀ i, i < q → ∃ b, b < n ∧ tnF s m (nN (s 6 m)) (7 + m) i = nI b) ∧
  (let t := dqF m (nN (tnF s m (nN (s 6 m)) 6 m)) (tnF s m (nN (s 6 m)))
   t 0 1 = nI n ∧ (t (3 + m) 0 = -6 ∨ ∃ b, b < n ∧ t (3 + m) 0 = nI b ∧ (t (3 + m) 1 ≤ 0 → ∃ w, t 0 4 = nI w ∧ w < 100000 ∧ (t (11 + b) 5 = 0 → w < 40))))
theorem pm_mac {m n : Nat} {l1 : Option Value} (hm : m < 3) (h40 : n ≤ 40) (h : pmMO n s m) : qEx 27 (29, [some (.ref o), some (.int (nI m)), l1], [], cB M o s) = qEx 27 (29, [some (.ref o), some (.int (nI (m + 1))), l1], [], cB M o (pmM s m)) := by
  obtain ⟨hn, ⟨q, hq, e6, hb⟩, ⟨hn1, q1, hq1, e61, hb1⟩, hn2, hh⟩ := h
  have h3 : ((3 : Int32) ≤ nI m) = False := by rw [show (3 : Int32) = nI 3 from rfl, nI_le_iff (by omega) (by omega)]; simp; omega
  unfold pmM
  dsimp only
  have a1 := @s_31 M o s m q n hm hn h40 e6 hq hb
  rw [e6, nN_nI (by omega)] at *
  generalize tnF s m q = s1 at *
  have a2 := @s_32 M o s1 m q1 n hm hn1 h40 e61 hq1 hb1
  rw [e61, nN_nI (by omega)] at *
  generalize dqF m q1 s1 = s2 at *
  have a3 := @s_33 M o s2 m (nN (s2 0 4)) n (s2 1 (6 + m)) hm hn2 h40 (by
    rcases hh with hh | ⟨b, hb, hh, hw⟩
    · exact Or.inl hh
    · refine Or.inr ⟨b, hb, hh, fun z => ?_⟩
      obtain ⟨w, w1, w2, w3⟩ := hw z
      rw [w1, nN_nI w2]
      exact ⟨rfl, w3⟩)
  have e7 : (6 + nI m : Int32) = nI (6 + m) := nI_add 6 m
  rw [x_27_29]
  simp only [x_27_0, x_27_1, x_27_4, x_27_5, x_27_8, x_27_11, x_27_12, x_27_15, x_27_16, x_27_19, x_27_20, x_27_21, x_27_24, x_27_27, x_27_28, x_27_30, x_27_31, x_27_34, x_27_35, x_27_36, x_27_39, x_27_40, x_27_41, x_27_44, x_27_45, x_27_46, x_27_49, x_27_50, x_27_51, x_27_54, x_27_57, x_27_58, x_27_59, x_27_62, x_27_63, x_27_64, x_27_65, x_27_68, x_27_70, x_27_71, x_27_72, x_27_73, x_27_76, x_27_79, x_27_82, x_27_83, x_27_86, x_27_87, x_27_90, x_27_91, x_27_92, x_27_95, x_27_96, x_27_99, x_27_100, x_27_101, x_27_102, x_27_105, x_27_106, x_27_109, x_27_110, x_27_111, x_27_112, x_27_115, x_27_116, x_27_119, x_27_120, x_27_121, x_27_122, x_27_125, x_27_126, x_27_129, x_27_132, x_27_135, x_27_136, x_27_137, x_27_140, x_27_141, x_27_142, x_27_145, x_27_146, x_27_147, x_27_148, x_27_149, x_27_152, x_27_153, x_27_156, x_27_157, x_27_158, x_27_161, x_27_162, x_27_165, x_27_166, x_27_167, x_27_168, x_27_171, x_27_172, x_27_175, x_27_176, x_27_179, x_27_180, x_27_183, x_27_184, x_27_185, x_27_188, x_27_189, x_27_190, x_27_193, Option.bind_some, Option.bind_none, Option.toList_some, Option.toList_none, List.cons_append, List.nil_append, pNl_i, pNl_r, pNl_u, pNl_n, bI_0, bI_1, nn_or, or_nn, not_false_eq_true, not_true_eq_false, i1000, i1e0, true_or, or_true, Decidable.not_not, if_true, if_false, Bool.false_eq_true, Int32.zero_add, true_and, and_true, cT, cg_3, cg_0, h3, mA hm, mT hm, mg_0 hm, rT (rw_q hm), a1, a2, e7, tl (show 6 + m < 9 by omega) rfl, a3, nI_1]
def pmOK (n : Nat) (s : Sg) : Prop := s 0 1 = nI n ∧ (¬ s 0 0 < s 0 6 → (∀ b, b < n → ltOK n (itF ltS b s) b) ∧ (∀ b, b ≤ n → (itF lgS b (itF ltS n s)) 0 1 = nI n) ∧ ∀ b, b < n → ∃ r, r < 8 ∧ (itF lgS b (itF ltS n s)) (11 + b) 2 = nI r) ∧
  pmMO n (pm0 s n) 0 ∧ pmMO n (pmM (pm0 s n) 0) 1 ∧ pmMO n (pmM (pmM (pm0 s n) 0) 1) 2 ∧ shOK n 40 (pm1 (pmM (pmM (pmM (pm0 s n) 0) 1) 2) 1 2 * pm1 (pmM (pmM (pmM (pm0 s n) 0) 1) 2) 1 3) (pm1 (pmM (pmM (pmM (pm0 s n) 0) 1) 2))
theorem s_27 {n : Nat} (h40 : n ≤ 40) (h : pmOK n s) : qRun 27 [.ref o] (cB M o s) = some (none, cB M o (pmF s)) := by
  obtain ⟨hn, h1, m0, m1, m2, hs⟩ := h
  have first : qEx 27 (0, [some (.ref o), none, none], [], cB M o s) = qEx 27 (29, [some (.ref o), some (.int (nI 0)), none], [], cB M o (pm0 s n)) := by
    unfold pm0
    by_cases c0 : s 0 0 < s 0 6
    · rw [if_pos c0]
      simp only [x_27_0, x_27_1, x_27_4, x_27_5, x_27_8, x_27_11, x_27_12, x_27_15, x_27_16, x_27_19, x_27_20, x_27_21, x_27_24, x_27_27, x_27_28, x_27_30, x_27_31, x_27_34, x_27_35, x_27_36, x_27_39, x_27_40, x_27_41, x_27_44, x_27_45, x_27_46, x_27_49, x_27_50, x_27_51, x_27_54, x_27_57, x_27_58, x_27_59, x_27_62, x_27_63, x_27_64, x_27_65, x_27_68, x_27_70, x_27_71, x_27_72, x_27_73, x_27_76, x_27_79, x_27_82, x_27_83, x_27_86, x_27_87, x_27_90, x_27_91, x_27_92, x_27_95, x_27_96, x_27_99, x_27_100, x_27_101, x_27_102, x_27_105, x_27_106, x_27_109, x_27_110, x_27_111, x_27_112, x_27_115, x_27_116, x_27_119, x_27_120, x_27_121, x_27_122, x_27_125, x_27_126, x_27_129, x_27_132, x_27_135, x_27_136, x_27_137, x_27_140, x_27_141, x_27_142, x_27_145, x_27_146, x_27_147, x_27_148, x_27_149, x_27_152, x_27_153, x_27_156, x_27_157, x_27_158, x_27_161, x_27_162, x_27_165, x_27_166, x_27_167, x_27_168, x_27_171, x_27_172, x_27_175, x_27_176, x_27_179, x_27_180, x_27_183, x_27_184, x_27_185, x_27_188, x_27_189, x_27_190, x_27_193, Option.bind_some, Option.bind_none, Option.toList_some, Option.toList_none, List.cons_append, List.nil_append, pNl_i, pNl_r, pNl_u, pNl_n, bI_0, bI_1, nn_or, or_nn, not_false_eq_true, not_true_eq_false, i1000, i1e0, true_or, or_true, Decidable.not_not, if_true, if_false, Bool.false_eq_true, Int32.zero_add, true_and, and_true, cT, cg_6, cg_10, c0]
      rfl
    · rw [if_neg c0]
      obtain ⟨g1, g2, g3⟩ := h1 c0
      have a1 := @s_28 M o s n h40 g1 (g2 0 (by omega))
      have a2 := @s_29 M o (itF ltS n s) n h40 g2 g3
      have a3 := @s_30 M o (itF lgS n (itF ltS n s)) n (g2 n (Nat.le_refl _)) h40
      simp only [x_27_0, x_27_1, x_27_4, x_27_5, x_27_8, x_27_11, x_27_12, x_27_15, x_27_16, x_27_19, x_27_20, x_27_21, x_27_24, x_27_27, x_27_28, x_27_30, x_27_31, x_27_34, x_27_35, x_27_36, x_27_39, x_27_40, x_27_41, x_27_44, x_27_45, x_27_46, x_27_49, x_27_50, x_27_51, x_27_54, x_27_57, x_27_58, x_27_59, x_27_62, x_27_63, x_27_64, x_27_65, x_27_68, x_27_70, x_27_71, x_27_72, x_27_73, x_27_76, x_27_79, x_27_82, x_27_83, x_27_86, x_27_87, x_27_90, x_27_91, x_27_92, x_27_95, x_27_96, x_27_99, x_27_100, x_27_101, x_27_102, x_27_105, x_27_106, x_27_109, x_27_110, x_27_111, x_27_112, x_27_115, x_27_116, x_27_119, x_27_120, x_27_121, x_27_122, x_27_125, x_27_126, x_27_129, x_27_132, x_27_135, x_27_136, x_27_137, x_27_140, x_27_141, x_27_142, x_27_145, x_27_146, x_27_147, x_27_148, x_27_149, x_27_152, x_27_153, x_27_156, x_27_157, x_27_158, x_27_161, x_27_162, x_27_165, x_27_166, x_27_167, x_27_168, x_27_171, x_27_172, x_27_175, x_27_176, x_27_179, x_27_180, x_27_183, x_27_184, x_27_185, x_27_188, x_27_189, x_27_190, x_27_193, Option.bind_some, Option.bind_none, Option.toList_some, Option.toList_none, List.cons_append, List.nil_append, pNl_i, pNl_r, pNl_u, pNl_n, bI_0, bI_1, nn_or, or_nn, not_false_eq_true, not_true_eq_false, i1000, i1e0, true_or, or_true, Decidable.not_not, if_true, if_false, Bool.false_eq_true, Int32.zero_add, true_and, and_true, cT, cg_6, cg_10, c0, a1, a2, a3, cp_10]
      rfl
  refine qRun_of ?_ rfl
  rw [en_27, first, pm_mac (by omega) h40 m0, pm_mac (by omega) h40 m1, pm_mac (by omega) h40 m2]
  unfold pmF
  rw [hn, nN_nI (by omega)]
  dsimp only
  generalize pmM (pmM (pmM (pm0 s n) 0) 1) 2 = t at *
  have h33 : ((3 : Int32) ≤ nI (2 + 1)) = True := eq_true (by decide)
  have a1 := @s_36 M o (pm1 t) n h40 hs
  have e4 := fun t => @tl M o t 4 4 (by omega) rfl
  have e5 := fun t => @tl M o t 5 5 (by omega) rfl
  have e2 := fun t => @tl M o t 2 2 (by omega) rfl
  have g4 : ∀ t, hG (cB M o t) (o + 5) 5 1 = some (.int (t 0 4)) := fun t => rg_1 rw_h
  rw [x_27_29]
  unfold pm2
  by_cases c1 : t 0 0 < t 1 4
  · have hp : pm1 t = u2 t 0 3 (t 0 3 + t 1 2) := if_pos c1
    have c1' : (t 1 4 ≤ t 0 0) = False := eq_false (Int32.not_le.mpr c1)
    rw [if_pos c1]
    rw [hp] at a1 ⊢
    simp only [x_27_0, x_27_1, x_27_4, x_27_5, x_27_8, x_27_11, x_27_12, x_27_15, x_27_16, x_27_19, x_27_20, x_27_21, x_27_24, x_27_27, x_27_28, x_27_30, x_27_31, x_27_34, x_27_35, x_27_36, x_27_39, x_27_40, x_27_41, x_27_44, x_27_45, x_27_46, x_27_49, x_27_50, x_27_51, x_27_54, x_27_57, x_27_58, x_27_59, x_27_62, x_27_63, x_27_64, x_27_65, x_27_68, x_27_70, x_27_71, x_27_72, x_27_73, x_27_76, x_27_79, x_27_82, x_27_83, x_27_86, x_27_87, x_27_90, x_27_91, x_27_92, x_27_95, x_27_96, x_27_99, x_27_100, x_27_101, x_27_102, x_27_105, x_27_106, x_27_109, x_27_110, x_27_111, x_27_112, x_27_115, x_27_116, x_27_119, x_27_120, x_27_121, x_27_122, x_27_125, x_27_126, x_27_129, x_27_132, x_27_135, x_27_136, x_27_137, x_27_140, x_27_141, x_27_142, x_27_145, x_27_146, x_27_147, x_27_148, x_27_149, x_27_152, x_27_153, x_27_156, x_27_157, x_27_158, x_27_161, x_27_162, x_27_165, x_27_166, x_27_167, x_27_168, x_27_171, x_27_172, x_27_175, x_27_176, x_27_179, x_27_180, x_27_183, x_27_184, x_27_185, x_27_188, x_27_189, x_27_190, x_27_193, Option.bind_some, Option.bind_none, Option.toList_some, Option.toList_none, List.cons_append, List.nil_append, pNl_i, pNl_r, pNl_u, pNl_n, bI_0, bI_1, nn_or, or_nn, not_false_eq_true, not_true_eq_false, i1000, i1e0, true_or, or_true, Decidable.not_not, if_true, if_false, Bool.false_eq_true, Int32.zero_add, true_and, and_true, cT, cg_0, cg_4, cg_6, cg_9, cp_9, cp_6, h33, e4, e5, e2, g4, c1, c1', a1]
  · rw [if_neg c1]
    have c1' : (t 1 4 ≤ t 0 0) = True := eq_true (Int32.not_lt.mp c1)
    by_cases c2 : t 1 5 = 1
    · rw [if_pos c2]
      by_cases c3 : t 0 4 ≤ 0
      · have hp : pm1 t = t := by unfold pm1; rw [if_neg c1, if_pos c2, if_pos c3]
        rw [hp] at a1 ⊢
        simp only [x_27_0, x_27_1, x_27_4, x_27_5, x_27_8, x_27_11, x_27_12, x_27_15, x_27_16, x_27_19, x_27_20, x_27_21, x_27_24, x_27_27, x_27_28, x_27_30, x_27_31, x_27_34, x_27_35, x_27_36, x_27_39, x_27_40, x_27_41, x_27_44, x_27_45, x_27_46, x_27_49, x_27_50, x_27_51, x_27_54, x_27_57, x_27_58, x_27_59, x_27_62, x_27_63, x_27_64, x_27_65, x_27_68, x_27_70, x_27_71, x_27_72, x_27_73, x_27_76, x_27_79, x_27_82, x_27_83, x_27_86, x_27_87, x_27_90, x_27_91, x_27_92, x_27_95, x_27_96, x_27_99, x_27_100, x_27_101, x_27_102, x_27_105, x_27_106, x_27_109, x_27_110, x_27_111, x_27_112, x_27_115, x_27_116, x_27_119, x_27_120, x_27_121, x_27_122, x_27_125, x_27_126, x_27_129, x_27_132, x_27_135, x_27_136, x_27_137, x_27_140, x_27_141, x_27_142, x_27_145, x_27_146, x_27_147, x_27_148, x_27_149, x_27_152, x_27_153, x_27_156, x_27_157, x_27_158, x_27_161, x_27_162, x_27_165, x_27_166, x_27_167, x_27_168, x_27_171, x_27_172, x_27_175, x_27_176, x_27_179, x_27_180, x_27_183, x_27_184, x_27_185, x_27_188, x_27_189, x_27_190, x_27_193, Option.bind_some, Option.bind_none, Option.toList_some, Option.toList_none, List.cons_append, List.nil_append, pNl_i, pNl_r, pNl_u, pNl_n, bI_0, bI_1, nn_or, or_nn, not_false_eq_true, not_true_eq_false, i1000, i1e0, true_or, or_true, Decidable.not_not, if_true, if_false, Bool.false_eq_true, Int32.zero_add, true_and, and_true, cT, cg_0, cg_4, cg_6, cg_9, cp_9, cp_6, h33, e4, e5, e2, g4, c1, c1', c2, c3, a1]
      · have hp : pm1 t = u2 t 0 3 (t 0 3 + 2 * t 1 2) := by unfold pm1; rw [if_neg c1, if_pos c2, if_neg c3]
        rw [hp] at a1 ⊢
        simp only [x_27_0, x_27_1, x_27_4, x_27_5, x_27_8, x_27_11, x_27_12, x_27_15, x_27_16, x_27_19, x_27_20, x_27_21, x_27_24, x_27_27, x_27_28, x_27_30, x_27_31, x_27_34, x_27_35, x_27_36, x_27_39, x_27_40, x_27_41, x_27_44, x_27_45, x_27_46, x_27_49, x_27_50, x_27_51, x_27_54, x_27_57, x_27_58, x_27_59, x_27_62, x_27_63, x_27_64, x_27_65, x_27_68, x_27_70, x_27_71, x_27_72, x_27_73, x_27_76, x_27_79, x_27_82, x_27_83, x_27_86, x_27_87, x_27_90, x_27_91, x_27_92, x_27_95, x_27_96, x_27_99, x_27_100, x_27_101, x_27_102, x_27_105, x_27_106, x_27_109, x_27_110, x_27_111, x_27_112, x_27_115, x_27_116, x_27_119, x_27_120, x_27_121, x_27_122, x_27_125, x_27_126, x_27_129, x_27_132, x_27_135, x_27_136, x_27_137, x_27_140, x_27_141, x_27_142, x_27_145, x_27_146, x_27_147, x_27_148, x_27_149, x_27_152, x_27_153, x_27_156, x_27_157, x_27_158, x_27_161, x_27_162, x_27_165, x_27_166, x_27_167, x_27_168, x_27_171, x_27_172, x_27_175, x_27_176, x_27_179, x_27_180, x_27_183, x_27_184, x_27_185, x_27_188, x_27_189, x_27_190, x_27_193, Option.bind_some, Option.bind_none, Option.toList_some, Option.toList_none, List.cons_append, List.nil_append, pNl_i, pNl_r, pNl_u, pNl_n, bI_0, bI_1, nn_or, or_nn, not_false_eq_true, not_true_eq_false, i1000, i1e0, true_or, or_true, Decidable.not_not, if_true, if_false, Bool.false_eq_true, Int32.zero_add, true_and, and_true, cT, cg_0, cg_4, cg_6, cg_9, cp_9, cp_6, h33, e4, e5, e2, g4, c1, c1', c2, c3, a1]
    · rw [if_neg c2]
      have hp : pm1 t = t := by unfold pm1; rw [if_neg c1, if_neg c2]
      rw [hp] at a1 ⊢
      simp only [x_27_0, x_27_1, x_27_4, x_27_5, x_27_8, x_27_11, x_27_12, x_27_15, x_27_16, x_27_19, x_27_20, x_27_21, x_27_24, x_27_27, x_27_28, x_27_30, x_27_31, x_27_34, x_27_35, x_27_36, x_27_39, x_27_40, x_27_41, x_27_44, x_27_45, x_27_46, x_27_49, x_27_50, x_27_51, x_27_54, x_27_57, x_27_58, x_27_59, x_27_62, x_27_63, x_27_64, x_27_65, x_27_68, x_27_70, x_27_71, x_27_72, x_27_73, x_27_76, x_27_79, x_27_82, x_27_83, x_27_86, x_27_87, x_27_90, x_27_91, x_27_92, x_27_95, x_27_96, x_27_99, x_27_100, x_27_101, x_27_102, x_27_105, x_27_106, x_27_109, x_27_110, x_27_111, x_27_112, x_27_115, x_27_116, x_27_119, x_27_120, x_27_121, x_27_122, x_27_125, x_27_126, x_27_129, x_27_132, x_27_135, x_27_136, x_27_137, x_27_140, x_27_141, x_27_142, x_27_145, x_27_146, x_27_147, x_27_148, x_27_149, x_27_152, x_27_153, x_27_156, x_27_157, x_27_158, x_27_161, x_27_162, x_27_165, x_27_166, x_27_167, x_27_168, x_27_171, x_27_172, x_27_175, x_27_176, x_27_179, x_27_180, x_27_183, x_27_184, x_27_185, x_27_188, x_27_189, x_27_190, x_27_193, Option.bind_some, Option.bind_none, Option.toList_some, Option.toList_none, List.cons_append, List.nil_append, pNl_i, pNl_r, pNl_u, pNl_n, bI_0, bI_1, nn_or, or_nn, not_false_eq_true, not_true_eq_false, i1000, i1e0, true_or, or_true, Decidable.not_not, if_true, if_false, Bool.false_eq_true, Int32.zero_add, true_and, and_true, cT, cg_0, cg_4, cg_6, cg_9, cp_9, cp_6, h33, e4, e5, e2, g4, c1, c1', c2, a1]
end CI
