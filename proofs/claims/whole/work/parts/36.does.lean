/-! orders that are carried out -/
def mdV (s : Sg) (u : Nat) (a b e : Int32) : Int32 := if u = 99 then (if 0 ≤ a ∧ a ≤ 7 then (if s 0 0 ≤ b ∧ b ≤ 1439 then 0 else -2) else -1) else if u = 116 then maP s a else if u = 115 then (if isF 2 a = true then 0 else -2) else maM s 0 a b e
def shP1 (u : Nat) : Int32 := if u = 108 then 0 else if u = 102 then 1 else 2
def dsF (s : Sg) (u : Nat) (a b e : Int32) : Sg := if u = 99 then u2 s 2 (nN a) b else if u = 116 then dyN s (nN a) else if u = 115 then u2 s 1 2 a else u2 (bgF s (nN (s 0 1)) (shP1 u) a b e) 0 1 (s 0 1 + 1)
/-- what an order wants of the day when nothing forbids it -/
def dsOK (s : Sg) (u : Nat) (a : Int32) : Prop := (u = 116 → ∃ n, n ≤ 1440 ∧ a = nI n ∧ ∀ k, k < n → mnOK (dyN s k)) ∧ (knP u = 3 → ∃ n, n < 40 ∧ s 0 1 = nI n)
section QJ
variable {M : qHp} {c : Nat → Int32} {R : Nat → Sg} {A : Nat → Nat → Int32} {y : Nat → Nat} {P : Nat}
theorem kn_6 {u : Nat} (h : knP u ≠ 0) : u = 108 ∨ u = 102 ∨ u = 112 ∨ u = 99 ∨ u = 115 ∨ u = 116 := by
  unfold knP at h
  by_cases h1 : u = 108 ∨ u = 102 ∨ u = 112
  · omega
  · rw [if_neg h1] at h
    by_cases h2 : u = 99
    · omega
    · rw [if_neg h2] at h
      by_cases h3 : u = 115 ∨ u = 116
      · omega
      · rw [if_neg h3] at h; exact absurd rfl h
theorem s_145 {u : Nat} {a b e : Int32} (hu : knP u ≠ 0) : qRun 145 [.ref 627, .int (nI u), .int a, .int b, .int e] (wm M c R A) = some (some (.int (mdV (R 0) u a b e)), wm M c R A) := by
  refine qRun_of ?_ rfl
  rw [en_145]
  unfold mdV
  have hm : ∀ (x : Int32), qEx 145 (70, [some (.ref 627), some (.int x), some (.int a), some (.int b), some (.int e)], [.int e, .int b, .int a, .int 0, .ref 627], wm M c R A) = some (some (.int (maM (R 0) 0 a b e)), wm M c R A) := by
    intro x
    simp only [x_145_0, x_145_1, x_145_36, x_145_37, x_145_38, x_145_39, x_145_42, x_145_43, x_145_44, x_145_45, x_145_48, x_145_49, x_145_50, x_145_51, x_145_54, x_145_57, x_145_58, x_145_61, x_145_63, x_145_64, x_145_65, x_145_66, x_145_67, x_145_68, x_145_70, x_145_73, Option.bind_some, Option.bind_none, Option.toList_some, Option.toList_none, List.cons_append, List.nil_append, pNl_i, pNl_r, pNl_u, pNl_n, bI_0, bI_1, nn_or, or_nn, not_false_eq_true, not_true_eq_false, i1000, i1e0, true_or, or_true, Decidable.not_not, if_true, if_false, Bool.false_eq_true, Int32.zero_add, true_and, and_true, wm_T, wg_0, wg_1, wg_2, wg_3, wg_4, wg_5, wg_6, wg_7, wg_8, wg_9, wg_10, wp_3, wp_7, wp_8, wp_10, s_117]
  rcases kn_6 hu with rfl | rfl | rfl | rfl | rfl | rfl
  · simp (config := {decide := true}) only [x_145_0, x_145_1, x_145_36, x_145_37, x_145_38, x_145_39, x_145_42, x_145_43, x_145_44, x_145_45, x_145_48, x_145_49, x_145_50, x_145_51, x_145_54, x_145_57, x_145_58, x_145_61, x_145_63, x_145_64, x_145_65, x_145_66, x_145_67, x_145_68, x_145_73, Option.bind_some, Option.bind_none, Option.toList_some, Option.toList_none, List.cons_append, List.nil_append, pNl_i, pNl_r, pNl_u, pNl_n, bI_0, bI_1, nn_or, or_nn, not_false_eq_true, not_true_eq_false, i1000, i1e0, true_or, or_true, Decidable.not_not, if_true, if_false, Bool.false_eq_true, Int32.zero_add, true_and, and_true, wm_T, wg_0, wg_1, wg_2, wg_3, wg_4, wg_5, wg_6, wg_7, wg_8, wg_9, wg_10, wp_3, wp_7, wp_8, wp_10, hm, if_true, if_false]
  · simp (config := {decide := true}) only [x_145_0, x_145_1, x_145_36, x_145_37, x_145_38, x_145_39, x_145_42, x_145_43, x_145_44, x_145_45, x_145_48, x_145_49, x_145_50, x_145_51, x_145_54, x_145_57, x_145_58, x_145_61, x_145_63, x_145_64, x_145_65, x_145_66, x_145_67, x_145_68, x_145_73, Option.bind_some, Option.bind_none, Option.toList_some, Option.toList_none, List.cons_append, List.nil_append, pNl_i, pNl_r, pNl_u, pNl_n, bI_0, bI_1, nn_or, or_nn, not_false_eq_true, not_true_eq_false, i1000, i1e0, true_or, or_true, Decidable.not_not, if_true, if_false, Bool.false_eq_true, Int32.zero_add, true_and, and_true, wm_T, wg_0, wg_1, wg_2, wg_3, wg_4, wg_5, wg_6, wg_7, wg_8, wg_9, wg_10, wp_3, wp_7, wp_8, wp_10, hm, if_true, if_false]
  · simp (config := {decide := true}) only [x_145_0, x_145_1, x_145_36, x_145_37, x_145_38, x_145_39, x_145_42, x_145_43, x_145_44, x_145_45, x_145_48, x_145_49, x_145_50, x_145_51, x_145_54, x_145_57, x_145_58, x_145_61, x_145_63, x_145_64, x_145_65, x_145_66, x_145_67, x_145_68, x_145_73, Option.bind_some, Option.bind_none, Option.toList_some, Option.toList_none, List.cons_append, List.nil_append, pNl_i, pNl_r, pNl_u, pNl_n, bI_0, bI_1, nn_or, or_nn, not_false_eq_true, not_true_eq_false, i1000, i1e0, true_or, or_true, Decidable.not_not, if_true, if_false, Bool.false_eq_true, Int32.zero_add, true_and, and_true, wm_T, wg_0, wg_1, wg_2, wg_3, wg_4, wg_5, wg_6, wg_7, wg_8, wg_9, wg_10, wp_3, wp_7, wp_8, wp_10, hm, if_true, if_false]
  · by_cases c1 : 0 ≤ a ∧ a ≤ 7
    · by_cases c2 : R 0 0 0 ≤ b ∧ b ≤ 1439
      · have h := @s_115 M c R A a b c1 c2
        rw [if_pos rfl, if_pos c1, if_pos c2]
        simp (config := {decide := true}) only [x_145_0, x_145_1, x_145_36, x_145_37, x_145_38, x_145_39, x_145_42, x_145_43, x_145_44, x_145_45, x_145_48, x_145_49, x_145_50, x_145_51, x_145_54, x_145_57, x_145_58, x_145_61, x_145_63, x_145_64, x_145_65, x_145_66, x_145_67, x_145_68, x_145_73, Option.bind_some, Option.bind_none, Option.toList_some, Option.toList_none, List.cons_append, List.nil_append, pNl_i, pNl_r, pNl_u, pNl_n, bI_0, bI_1, nn_or, or_nn, not_false_eq_true, not_true_eq_false, i1000, i1e0, true_or, or_true, Decidable.not_not, if_true, if_false, Bool.false_eq_true, Int32.zero_add, true_and, and_true, wm_T, wg_0, wg_1, wg_2, wg_3, wg_4, wg_5, wg_6, wg_7, wg_8, wg_9, wg_10, wp_3, wp_7, wp_8, wp_10, h, if_true, if_false]
      · have h := @s_115_1 M c R A a b c1 c2
        rw [if_pos rfl, if_pos c1, if_neg c2]
        simp (config := {decide := true}) only [x_145_0, x_145_1, x_145_36, x_145_37, x_145_38, x_145_39, x_145_42, x_145_43, x_145_44, x_145_45, x_145_48, x_145_49, x_145_50, x_145_51, x_145_54, x_145_57, x_145_58, x_145_61, x_145_63, x_145_64, x_145_65, x_145_66, x_145_67, x_145_68, x_145_73, Option.bind_some, Option.bind_none, Option.toList_some, Option.toList_none, List.cons_append, List.nil_append, pNl_i, pNl_r, pNl_u, pNl_n, bI_0, bI_1, nn_or, or_nn, not_false_eq_true, not_true_eq_false, i1000, i1e0, true_or, or_true, Decidable.not_not, if_true, if_false, Bool.false_eq_true, Int32.zero_add, true_and, and_true, wm_T, wg_0, wg_1, wg_2, wg_3, wg_4, wg_5, wg_6, wg_7, wg_8, wg_9, wg_10, wp_3, wp_7, wp_8, wp_10, h, if_true, if_false]
    · have h := @s_115_0 M c R A a b c1
      rw [if_pos rfl, if_neg c1]
      simp (config := {decide := true}) only [x_145_0, x_145_1, x_145_36, x_145_37, x_145_38, x_145_39, x_145_42, x_145_43, x_145_44, x_145_45, x_145_48, x_145_49, x_145_50, x_145_51, x_145_54, x_145_57, x_145_58, x_145_61, x_145_63, x_145_64, x_145_65, x_145_66, x_145_67, x_145_68, x_145_73, Option.bind_some, Option.bind_none, Option.toList_some, Option.toList_none, List.cons_append, List.nil_append, pNl_i, pNl_r, pNl_u, pNl_n, bI_0, bI_1, nn_or, or_nn, not_false_eq_true, not_true_eq_false, i1000, i1e0, true_or, or_true, Decidable.not_not, if_true, if_false, Bool.false_eq_true, Int32.zero_add, true_and, and_true, wm_T, wg_0, wg_1, wg_2, wg_3, wg_4, wg_5, wg_6, wg_7, wg_8, wg_9, wg_10, wp_3, wp_7, wp_8, wp_10, h, if_true, if_false]
  · by_cases c1 : isF 2 a = true
    · simp (config := {decide := true}) only [x_145_0, x_145_1, x_145_36, x_145_37, x_145_38, x_145_39, x_145_42, x_145_43, x_145_44, x_145_45, x_145_48, x_145_49, x_145_50, x_145_51, x_145_54, x_145_57, x_145_58, x_145_61, x_145_63, x_145_64, x_145_65, x_145_66, x_145_67, x_145_68, x_145_73, Option.bind_some, Option.bind_none, Option.toList_some, Option.toList_none, List.cons_append, List.nil_append, pNl_i, pNl_r, pNl_u, pNl_n, bI_0, bI_1, nn_or, or_nn, not_false_eq_true, not_true_eq_false, i1000, i1e0, true_or, or_true, Decidable.not_not, if_true, if_false, Bool.false_eq_true, Int32.zero_add, true_and, and_true, wm_T, wg_0, wg_1, wg_2, wg_3, wg_4, wg_5, wg_6, wg_7, wg_8, wg_9, wg_10, wp_3, wp_7, wp_8, wp_10, s_111', c1, if_true, if_false]
    · simp (config := {decide := true}) only [x_145_0, x_145_1, x_145_36, x_145_37, x_145_38, x_145_39, x_145_42, x_145_43, x_145_44, x_145_45, x_145_48, x_145_49, x_145_50, x_145_51, x_145_54, x_145_57, x_145_58, x_145_61, x_145_63, x_145_64, x_145_65, x_145_66, x_145_67, x_145_68, x_145_73, Option.bind_some, Option.bind_none, Option.toList_some, Option.toList_none, List.cons_append, List.nil_append, pNl_i, pNl_r, pNl_u, pNl_n, bI_0, bI_1, nn_or, or_nn, not_false_eq_true, not_true_eq_false, i1000, i1e0, true_or, or_true, Decidable.not_not, if_true, if_false, Bool.false_eq_true, Int32.zero_add, true_and, and_true, wm_T, wg_0, wg_1, wg_2, wg_3, wg_4, wg_5, wg_6, wg_7, wg_8, wg_9, wg_10, wp_3, wp_7, wp_8, wp_10, s_111', c1, if_true, if_false]
  · simp (config := {decide := true}) only [x_145_0, x_145_1, x_145_36, x_145_37, x_145_38, x_145_39, x_145_42, x_145_43, x_145_44, x_145_45, x_145_48, x_145_49, x_145_50, x_145_51, x_145_54, x_145_57, x_145_58, x_145_61, x_145_63, x_145_64, x_145_65, x_145_66, x_145_67, x_145_68, x_145_73, Option.bind_some, Option.bind_none, Option.toList_some, Option.toList_none, List.cons_append, List.nil_append, pNl_i, pNl_r, pNl_u, pNl_n, bI_0, bI_1, nn_or, or_nn, not_false_eq_true, not_true_eq_false, i1000, i1e0, true_or, or_true, Decidable.not_not, if_true, if_false, Bool.false_eq_true, Int32.zero_add, true_and, and_true, wm_T, wg_0, wg_1, wg_2, wg_3, wg_4, wg_5, wg_6, wg_7, wg_8, wg_9, wg_10, wp_3, wp_7, wp_8, wp_10, s_120, if_true, if_false]
theorem md_n {n : Nat} {s : Sg} {m p r x : Int32} (h1 : s 0 1 = nI n) (h2 : maM s m p r x = 0) : n ≠ 40 := by
  intro h
  unfold maM at h2
  subst h
  split at h2
  · exact absurd h2 (by decide)
  split at h2
  · exact absurd h2 (by decide)
  rw [if_pos (show s 0 1 = 40 from h1)] at h2
  exact absurd h2 (by decide)
theorem dn_nI (s : Sg) (n : Nat) : dyN s n = itF (fun _ => mnF) n s := rfl
section S146
variable {k u : Nat} {a b e : Int32}
theorem rd_146 (hk : k ≤ 27) (hu : knP u ≠ 0) (h0 : A 2 (4 * k) = nI u) (h1 : A 2 (4 * k + 1) = a) (h2 : A 2 (4 * k + 2) = b) (h3 : A 2 (4 * k + 3) = e) {l2 l3 l4 l5 : Option Value} : qEx 146 (0, [some (.ref 627), some (.int (nI k)), l2, l3, l4, l5], [], wm M c R A) = qEx 146 (54, [some (.ref 627), some (.int (nI k)), some (.int (nI u)), some (.int a), some (.int b), some (.int e)], [.int (mdV (R 0) u a b e)], wm M c R A) := by
  have e0 : (4 * nI k : Int32) = nI (4 * k) := by rw [show (4 * nI k : Int32) = nI 4 * nI k from rfl, pk_mul]
  have e1 : (nI (4 * k) + 1 : Int32) = nI (4 * k + 1) := nI_add _ 1
  have e2 : (nI (4 * k) + 2 : Int32) = nI (4 * k + 2) := nI_add _ 2
  have e3 : (nI (4 * k) + 3 : Int32) = nI (4 * k + 3) := nI_add _ 3
  subst h1 h2 h3
  have t := @s_145 M c R A u (A 2 (4 * k + 1)) (A 2 (4 * k + 2)) (A 2 (4 * k + 3)) hu
  simp only [x_146_0, x_146_1, x_146_4, x_146_5, x_146_6, x_146_7, x_146_8, x_146_9, x_146_10, x_146_13, x_146_14, x_146_15, x_146_16, x_146_17, x_146_18, x_146_19, x_146_20, x_146_21, x_146_24, x_146_25, x_146_26, x_146_27, x_146_28, x_146_29, x_146_30, x_146_32, x_146_33, x_146_36, x_146_37, x_146_38, x_146_39, x_146_40, x_146_41, x_146_42, x_146_44, x_146_45, x_146_46, x_146_47, x_146_49, x_146_51, x_146_57, x_146_58, x_146_59, x_146_60, x_146_96, x_146_97, x_146_99, x_146_100, x_146_101, x_146_103, x_146_106, x_146_107, x_146_110, x_146_111, x_146_114, x_146_115, x_146_118, x_146_121, x_146_122, x_146_123, x_146_124, x_146_127, x_146_128, x_146_131, x_146_132, x_146_133, x_146_135, x_146_138, x_146_139, x_146_142, x_146_143, x_146_145, x_146_148, x_146_149, x_146_152, x_146_153, x_146_154, x_146_156, x_146_158, x_146_161, x_146_162, x_146_163, Option.bind_some, Option.bind_none, Option.toList_some, Option.toList_none, List.cons_append, List.nil_append, pNl_i, pNl_r, pNl_u, pNl_n, bI_0, bI_1, nn_or, or_nn, not_false_eq_true, not_true_eq_false, i1000, i1e0, true_or, or_true, Decidable.not_not, if_true, if_false, Bool.false_eq_true, Int32.zero_add, true_and, and_true, wm_T, wg_0, wg_1, wg_2, wg_3, wg_4, wg_5, wg_6, wg_7, wg_8, wg_9, wg_10, wp_3, wp_7, wp_8, wp_10, e0, e1, e2, e3, wa_ord (show 4 * k < 112 by omega), wa_ord (show 4 * k + 1 < 112 by omega), wa_ord (show 4 * k + 2 < 112 by omega), wa_ord (show 4 * k + 3 < 112 by omega), h0, t]
theorem s_146_0 (hk : k ≤ 27) (hu : knP u ≠ 0) (h0 : A 2 (4 * k) = nI u) (h1 : A 2 (4 * k + 1) = a) (h2 : A 2 (4 * k + 2) = b) (h3 : A 2 (4 * k + 3) = e) (hz : mdV (R 0) u a b e ≠ 0) : qRun 146 [.ref 627, .int (nI k)] (wm M c R A) = some (some (.int 0), wm M c R A) := by
  refine qRun_of ?_ rfl
  rw [en_146, rd_146 hk hu h0 h1 h2 h3]
  simp only [x_146_1, x_146_4, x_146_5, x_146_6, x_146_7, x_146_8, x_146_9, x_146_10, x_146_13, x_146_14, x_146_15, x_146_16, x_146_17, x_146_18, x_146_19, x_146_20, x_146_21, x_146_24, x_146_25, x_146_26, x_146_27, x_146_28, x_146_29, x_146_30, x_146_32, x_146_33, x_146_36, x_146_37, x_146_38, x_146_39, x_146_40, x_146_41, x_146_42, x_146_44, x_146_45, x_146_46, x_146_47, x_146_49, x_146_51, x_146_54, x_146_57, x_146_58, x_146_59, x_146_60, x_146_96, x_146_97, x_146_99, x_146_100, x_146_101, x_146_103, x_146_106, x_146_107, x_146_110, x_146_111, x_146_114, x_146_115, x_146_118, x_146_121, x_146_122, x_146_123, x_146_124, x_146_127, x_146_128, x_146_131, x_146_132, x_146_133, x_146_135, x_146_138, x_146_139, x_146_142, x_146_143, x_146_145, x_146_148, x_146_149, x_146_152, x_146_153, x_146_154, x_146_156, x_146_158, x_146_161, x_146_162, x_146_163, Option.bind_some, Option.bind_none, Option.toList_some, Option.toList_none, List.cons_append, List.nil_append, pNl_i, pNl_r, pNl_u, pNl_n, bI_0, bI_1, nn_or, or_nn, not_false_eq_true, not_true_eq_false, i1000, i1e0, true_or, or_true, Decidable.not_not, if_true, if_false, Bool.false_eq_true, Int32.zero_add, true_and, and_true, wm_T, wg_0, wg_1, wg_2, wg_3, wg_4, wg_5, wg_6, wg_7, wg_8, wg_9, wg_10, wp_3, wp_7, wp_8, wp_10, hz]
theorem s_146 (hk : k ≤ 27) (hu : knP u ≠ 0) (h0 : A 2 (4 * k) = nI u) (h1 : A 2 (4 * k + 1) = a) (h2 : A 2 (4 * k + 2) = b) (h3 : A 2 (4 * k + 3) = e) (hz : mdV (R 0) u a b e = 0) (hd : dsOK (R 0) u a) : qRun 146 [.ref 627, .int (nI k)] (wm M c R A) = some (some (.int 1), wm M c (us R 0 (dsF (R 0) u a b e)) A) := by
  refine qRun_of ?_ rfl
  rw [en_146, rd_146 hk hu h0 h1 h2 h3, x_146_54, if_pos hz]
  have hmail : knP u = 3 → (∀ u', (u' = u) → u = 108 ∨ u = 102 ∨ u = 112) → ∀ (l1 : Option Value), qEx 146 (158, [some (.ref 627), l1, some (.int (nI u)), some (.int a), some (.int b), some (.int e)], [.int e, .int b, .int a, .int (shP1 u), .ref 627], wm M c R A) = some (some (.int 1), wm M c (us R 0 (u2 (bgF (R 0) (nN (R 0 0 1)) (shP1 u) a b e) 0 1 (R 0 0 1 + 1))) A) := by
    intro h _ l1
    obtain ⟨n, hn, h5⟩ := hd.2 h
    have h6 := @s_118 M c R A n (shP1 u) a b e hn h5
    have h7 : (nI n + 1 : Int32) = nI (n + 1) := nI_add n 1
    rw [h5, nN_nI (by omega), h7]
    simp only [x_146_0, x_146_1, x_146_4, x_146_5, x_146_6, x_146_7, x_146_8, x_146_9, x_146_10, x_146_13, x_146_14, x_146_15, x_146_16, x_146_17, x_146_18, x_146_19, x_146_20, x_146_21, x_146_24, x_146_25, x_146_26, x_146_27, x_146_28, x_146_29, x_146_30, x_146_32, x_146_33, x_146_36, x_146_37, x_146_38, x_146_39, x_146_40, x_146_41, x_146_42, x_146_44, x_146_45, x_146_46, x_146_47, x_146_49, x_146_51, x_146_54, x_146_57, x_146_58, x_146_59, x_146_60, x_146_96, x_146_97, x_146_99, x_146_100, x_146_101, x_146_103, x_146_106, x_146_107, x_146_110, x_146_111, x_146_114, x_146_115, x_146_118, x_146_121, x_146_122, x_146_123, x_146_124, x_146_127, x_146_128, x_146_131, x_146_132, x_146_133, x_146_135, x_146_138, x_146_139, x_146_142, x_146_143, x_146_145, x_146_148, x_146_149, x_146_152, x_146_153, x_146_154, x_146_156, x_146_158, x_146_161, x_146_162, x_146_163, Option.bind_some, Option.bind_none, Option.toList_some, Option.toList_none, List.cons_append, List.nil_append, pNl_i, pNl_r, pNl_u, pNl_n, bI_0, bI_1, nn_or, or_nn, not_false_eq_true, not_true_eq_false, i1000, i1e0, true_or, or_true, Decidable.not_not, if_true, if_false, Bool.false_eq_true, Int32.zero_add, true_and, and_true, wm_T, wg_0, wg_1, wg_2, wg_3, wg_4, wg_5, wg_6, wg_7, wg_8, wg_9, wg_10, wp_3, wp_7, wp_8, wp_10, h6]
  rcases kn_6 hu with rfl | rfl | rfl | rfl | rfl | rfl
  · have h := hmail (by decide) (fun _ _ => by omega)
    have e7 : shP1 108 = 0 := rfl
    rw [e7] at h
    unfold dsF
    simp (config := {decide := true}) only [x_146_1, x_146_4, x_146_5, x_146_6, x_146_7, x_146_8, x_146_9, x_146_10, x_146_13, x_146_14, x_146_15, x_146_16, x_146_17, x_146_18, x_146_19, x_146_20, x_146_21, x_146_24, x_146_25, x_146_26, x_146_27, x_146_28, x_146_29, x_146_30, x_146_32, x_146_33, x_146_36, x_146_37, x_146_38, x_146_39, x_146_40, x_146_41, x_146_42, x_146_44, x_146_45, x_146_46, x_146_47, x_146_49, x_146_51, x_146_57, x_146_58, x_146_59, x_146_60, x_146_96, x_146_97, x_146_99, x_146_100, x_146_101, x_146_103, x_146_106, x_146_107, x_146_110, x_146_111, x_146_114, x_146_115, x_146_118, x_146_121, x_146_122, x_146_123, x_146_124, x_146_127, x_146_128, x_146_131, x_146_132, x_146_133, x_146_135, x_146_138, x_146_139, x_146_142, x_146_143, x_146_145, x_146_148, x_146_149, x_146_152, x_146_153, x_146_154, x_146_156, x_146_161, x_146_162, x_146_163, Option.bind_some, Option.bind_none, Option.toList_some, Option.toList_none, List.cons_append, List.nil_append, pNl_i, pNl_r, pNl_u, pNl_n, bI_0, bI_1, nn_or, or_nn, not_false_eq_true, not_true_eq_false, i1000, i1e0, true_or, or_true, Decidable.not_not, if_true, if_false, Bool.false_eq_true, Int32.zero_add, true_and, and_true, wm_T, wg_0, wg_1, wg_2, wg_3, wg_4, wg_5, wg_6, wg_7, wg_8, wg_9, wg_10, wp_3, wp_7, wp_8, wp_10, h, if_true, if_false, e7]
  · have h := hmail (by decide) (fun _ _ => by omega)
    have e7 : shP1 102 = 1 := rfl
    rw [e7] at h
    unfold dsF
    simp (config := {decide := true}) only [x_146_1, x_146_4, x_146_5, x_146_6, x_146_7, x_146_8, x_146_9, x_146_10, x_146_13, x_146_14, x_146_15, x_146_16, x_146_17, x_146_18, x_146_19, x_146_20, x_146_21, x_146_24, x_146_25, x_146_26, x_146_27, x_146_28, x_146_29, x_146_30, x_146_32, x_146_33, x_146_36, x_146_37, x_146_38, x_146_39, x_146_40, x_146_41, x_146_42, x_146_44, x_146_45, x_146_46, x_146_47, x_146_49, x_146_51, x_146_57, x_146_58, x_146_59, x_146_60, x_146_96, x_146_97, x_146_99, x_146_100, x_146_101, x_146_103, x_146_106, x_146_107, x_146_110, x_146_111, x_146_114, x_146_115, x_146_118, x_146_121, x_146_122, x_146_123, x_146_124, x_146_127, x_146_128, x_146_131, x_146_132, x_146_133, x_146_135, x_146_138, x_146_139, x_146_142, x_146_143, x_146_145, x_146_148, x_146_149, x_146_152, x_146_153, x_146_154, x_146_156, x_146_161, x_146_162, x_146_163, Option.bind_some, Option.bind_none, Option.toList_some, Option.toList_none, List.cons_append, List.nil_append, pNl_i, pNl_r, pNl_u, pNl_n, bI_0, bI_1, nn_or, or_nn, not_false_eq_true, not_true_eq_false, i1000, i1e0, true_or, or_true, Decidable.not_not, if_true, if_false, Bool.false_eq_true, Int32.zero_add, true_and, and_true, wm_T, wg_0, wg_1, wg_2, wg_3, wg_4, wg_5, wg_6, wg_7, wg_8, wg_9, wg_10, wp_3, wp_7, wp_8, wp_10, h, if_true, if_false, e7]
  · have h := hmail (by decide) (fun _ _ => by omega)
    have e7 : shP1 112 = 2 := rfl
    rw [e7] at h
    unfold dsF
    simp (config := {decide := true}) only [x_146_1, x_146_4, x_146_5, x_146_6, x_146_7, x_146_8, x_146_9, x_146_10, x_146_13, x_146_14, x_146_15, x_146_16, x_146_17, x_146_18, x_146_19, x_146_20, x_146_21, x_146_24, x_146_25, x_146_26, x_146_27, x_146_28, x_146_29, x_146_30, x_146_32, x_146_33, x_146_36, x_146_37, x_146_38, x_146_39, x_146_40, x_146_41, x_146_42, x_146_44, x_146_45, x_146_46, x_146_47, x_146_49, x_146_51, x_146_57, x_146_58, x_146_59, x_146_60, x_146_96, x_146_97, x_146_99, x_146_100, x_146_101, x_146_103, x_146_106, x_146_107, x_146_110, x_146_111, x_146_114, x_146_115, x_146_118, x_146_121, x_146_122, x_146_123, x_146_124, x_146_127, x_146_128, x_146_131, x_146_132, x_146_133, x_146_135, x_146_138, x_146_139, x_146_142, x_146_143, x_146_145, x_146_148, x_146_149, x_146_152, x_146_153, x_146_154, x_146_156, x_146_161, x_146_162, x_146_163, Option.bind_some, Option.bind_none, Option.toList_some, Option.toList_none, List.cons_append, List.nil_append, pNl_i, pNl_r, pNl_u, pNl_n, bI_0, bI_1, nn_or, or_nn, not_false_eq_true, not_true_eq_false, i1000, i1e0, true_or, or_true, Decidable.not_not, if_true, if_false, Bool.false_eq_true, Int32.zero_add, true_and, and_true, wm_T, wg_0, wg_1, wg_2, wg_3, wg_4, wg_5, wg_6, wg_7, wg_8, wg_9, wg_10, wp_3, wp_7, wp_8, wp_10, h, if_true, if_false, e7]
  · unfold mdV at hz
    rw [if_pos rfl] at hz
    by_cases c1 : 0 ≤ a ∧ a ≤ 7
    · obtain ⟨r, hr, rfl⟩ := nI_bt (n := 7) (by omega) c1.1 c1.2
      have h9 := @s_112 M c R A 2 b (11 + nI r) r (wn_cut (by omega)) (wv_cut (by omega))
      unfold dsF
      rw [if_pos rfl, nN_nI (by omega)]
      simp (config := {decide := true}) only [x_146_1, x_146_4, x_146_5, x_146_6, x_146_7, x_146_8, x_146_9, x_146_10, x_146_13, x_146_14, x_146_15, x_146_16, x_146_17, x_146_18, x_146_19, x_146_20, x_146_21, x_146_24, x_146_25, x_146_26, x_146_27, x_146_28, x_146_29, x_146_30, x_146_32, x_146_33, x_146_36, x_146_37, x_146_38, x_146_39, x_146_40, x_146_41, x_146_42, x_146_44, x_146_45, x_146_46, x_146_47, x_146_49, x_146_51, x_146_57, x_146_58, x_146_59, x_146_60, x_146_96, x_146_97, x_146_99, x_146_100, x_146_101, x_146_103, x_146_106, x_146_107, x_146_110, x_146_111, x_146_114, x_146_115, x_146_118, x_146_121, x_146_122, x_146_123, x_146_124, x_146_127, x_146_128, x_146_131, x_146_132, x_146_133, x_146_135, x_146_138, x_146_139, x_146_142, x_146_143, x_146_145, x_146_148, x_146_149, x_146_152, x_146_153, x_146_154, x_146_156, x_146_158, x_146_161, x_146_162, x_146_163, Option.bind_some, Option.bind_none, Option.toList_some, Option.toList_none, List.cons_append, List.nil_append, pNl_i, pNl_r, pNl_u, pNl_n, bI_0, bI_1, nn_or, or_nn, not_false_eq_true, not_true_eq_false, i1000, i1e0, true_or, or_true, Decidable.not_not, if_true, if_false, Bool.false_eq_true, Int32.zero_add, true_and, and_true, wm_T, wg_0, wg_1, wg_2, wg_3, wg_4, wg_5, wg_6, wg_7, wg_8, wg_9, wg_10, wp_3, wp_7, wp_8, wp_10, h9, if_true, if_false]
    · rw [if_neg c1] at hz
      exact absurd hz (by decide)
  · have h9 := @s_112 M c R A 1 a 4 2 wn_set2 wv_set2
    unfold dsF
    rw [if_neg (by omega), if_neg (by omega), if_pos rfl]
    simp (config := {decide := true}) only [x_146_1, x_146_4, x_146_5, x_146_6, x_146_7, x_146_8, x_146_9, x_146_10, x_146_13, x_146_14, x_146_15, x_146_16, x_146_17, x_146_18, x_146_19, x_146_20, x_146_21, x_146_24, x_146_25, x_146_26, x_146_27, x_146_28, x_146_29, x_146_30, x_146_32, x_146_33, x_146_36, x_146_37, x_146_38, x_146_39, x_146_40, x_146_41, x_146_42, x_146_44, x_146_45, x_146_46, x_146_47, x_146_49, x_146_51, x_146_57, x_146_58, x_146_59, x_146_60, x_146_96, x_146_97, x_146_99, x_146_100, x_146_101, x_146_103, x_146_106, x_146_107, x_146_110, x_146_111, x_146_114, x_146_115, x_146_118, x_146_121, x_146_122, x_146_123, x_146_124, x_146_127, x_146_128, x_146_131, x_146_132, x_146_133, x_146_135, x_146_138, x_146_139, x_146_142, x_146_143, x_146_145, x_146_148, x_146_149, x_146_152, x_146_153, x_146_154, x_146_156, x_146_158, x_146_161, x_146_162, x_146_163, Option.bind_some, Option.bind_none, Option.toList_some, Option.toList_none, List.cons_append, List.nil_append, pNl_i, pNl_r, pNl_u, pNl_n, bI_0, bI_1, nn_or, or_nn, not_false_eq_true, not_true_eq_false, i1000, i1e0, true_or, or_true, Decidable.not_not, if_true, if_false, Bool.false_eq_true, Int32.zero_add, true_and, and_true, wm_T, wg_0, wg_1, wg_2, wg_3, wg_4, wg_5, wg_6, wg_7, wg_8, wg_9, wg_10, wp_3, wp_7, wp_8, wp_10, h9, if_true, if_false]
  · obtain ⟨n, hn, rfl, h9⟩ := hd.1 rfl
    have h10 := @wn_110 M c R A n hn h9
    unfold dsF
    rw [if_neg (by omega), if_pos rfl, nN_nI (by omega), dn_nI]
    simp (config := {decide := true}) only [x_146_1, x_146_4, x_146_5, x_146_6, x_146_7, x_146_8, x_146_9, x_146_10, x_146_13, x_146_14, x_146_15, x_146_16, x_146_17, x_146_18, x_146_19, x_146_20, x_146_21, x_146_24, x_146_25, x_146_26, x_146_27, x_146_28, x_146_29, x_146_30, x_146_32, x_146_33, x_146_36, x_146_37, x_146_38, x_146_39, x_146_40, x_146_41, x_146_42, x_146_44, x_146_45, x_146_46, x_146_47, x_146_49, x_146_51, x_146_57, x_146_58, x_146_59, x_146_60, x_146_96, x_146_97, x_146_99, x_146_100, x_146_101, x_146_103, x_146_106, x_146_107, x_146_110, x_146_111, x_146_114, x_146_115, x_146_118, x_146_121, x_146_122, x_146_123, x_146_124, x_146_127, x_146_128, x_146_131, x_146_132, x_146_133, x_146_135, x_146_138, x_146_139, x_146_142, x_146_143, x_146_145, x_146_148, x_146_149, x_146_152, x_146_153, x_146_154, x_146_156, x_146_158, x_146_161, x_146_162, x_146_163, Option.bind_some, Option.bind_none, Option.toList_some, Option.toList_none, List.cons_append, List.nil_append, pNl_i, pNl_r, pNl_u, pNl_n, bI_0, bI_1, nn_or, or_nn, not_false_eq_true, not_true_eq_false, i1000, i1e0, true_or, or_true, Decidable.not_not, if_true, if_false, Bool.false_eq_true, Int32.zero_add, true_and, and_true, wm_T, wg_0, wg_1, wg_2, wg_3, wg_4, wg_5, wg_6, wg_7, wg_8, wg_9, wg_10, wp_3, wp_7, wp_8, wp_10, h10, if_true, if_false]
end S146
/-- carrying out, from the k-th order on -/
def cyL (y : Nat → Nat) (P : Nat) : Nat → Nat → Sg → Nat × Sg
  | 0, k, s => (k, s)
  | f + 1, k, s =>
    if mdV s (srP y P (psP y P k)) (nI (orP y P (psP y P k)).2.1) (nI (orP y P (psP y P k)).2.2.1) (nI (orP y P (psP y P k)).2.2.2.1) = 0 then cyL y P f (k + 1) (dsF s (srP y P (psP y P k)) (nI (orP y P (psP y P k)).2.1) (nI (orP y P (psP y P k)).2.2.1) (nI (orP y P (psP y P k)).2.2.2.1)) else (k, s)
theorem md_k {s : Sg} {u : Nat} {a b e b' e' : Int32} (hu : knP u ≠ 0) (hb : knP u ≠ 1 → b' = b) (he : knP u = 3 → e' = e) : mdV s u a b' e' = mdV s u a b e ∧ dsF s u a b' e' = dsF s u a b e := by
  rcases kn_6 hu with rfl | rfl | rfl | rfl | rfl | rfl
  · rw [hb (by decide), he (by decide)]; exact ⟨rfl, rfl⟩
  · rw [hb (by decide), he (by decide)]; exact ⟨rfl, rfl⟩
  · rw [hb (by decide), he (by decide)]; exact ⟨rfl, rfl⟩
  · rw [hb (by decide)]; unfold mdV dsF; constructor <;> simp (config := {decide := true}) only [if_true, if_false]
  · unfold mdV dsF; constructor <;> simp (config := {decide := true}) only [if_true, if_false]
  · unfold mdV dsF; constructor <;> simp (config := {decide := true}) only [if_true, if_false]
theorem s_147_0 (hy : pdOK c A y P) (h : (txL y P 81 0 0).1 = false) : ∃ c' A', qRun 147 [.ref 627] (wm M c R A) = some (some (.int (-3)), wm M c' R A') ∧ A' 0 = A 0 ∧ A' 1 = A 1 ∧ c' 0 = c 0 ∧ c' 1 = c 1 := by
  obtain ⟨A', h1, h2, h3, h4⟩ := @s_143 M c R A y P hy
  refine ⟨up (up c 2 (nI (txL y P 81 0 0).2.1)) 3 (nI (txL y P 81 0 0).2.2), A', ?_, h2, h3, ?_, ?_⟩
  rotate_left
  · exact (up_n (by omega)).trans (up_n (by omega))
  · exact (up_n (by omega)).trans (up_n (by omega))
  rw [h] at h1
  refine qRun_of ?_ rfl
  rw [en_147]
  simp only [x_147_0, x_147_1, x_147_4, x_147_7, x_147_9, x_147_10, x_147_11, x_147_14, x_147_15, x_147_16, x_147_19, x_147_20, x_147_21, x_147_22, x_147_23, x_147_26, x_147_29, x_147_30, x_147_31, x_147_34, x_147_37, x_147_40, x_147_43, x_147_44, Option.bind_some, Option.bind_none, Option.toList_some, Option.toList_none, List.cons_append, List.nil_append, pNl_i, pNl_r, pNl_u, pNl_n, bI_0, bI_1, nn_or, or_nn, not_false_eq_true, not_true_eq_false, i1000, i1e0, true_or, or_true, Decidable.not_not, if_true, if_false, Bool.false_eq_true, Int32.zero_add, true_and, and_true, wm_T, wg_0, wg_1, wg_2, wg_3, wg_4, wg_5, wg_6, wg_7, wg_8, wg_9, wg_10, wp_3, wp_7, wp_8, wp_10, h1, bB_f]
theorem s_147 {n : Nat} (I : Sg → Prop) (hI : ∀ s u a b e, I s → knP u ≠ 0 → mdV s u (nI a) (nI b) (nI e) = 0 → dsOK s u (nI a) ∧ I (dsF s u (nI a) (nI b) (nI e))) (hs : I (R 0)) (hy : pdOK c A y P) (hn : c 0 = nI n) (h6 : n ≤ 6) (h : (txL y P 81 0 0).1 = true) : ∃ c' A', qRun 147 [.ref 627] (wm M c R A) = some (some (.int (nI (cyL y P (txL y P 81 0 0).2.2 0 (R 0)).1)), wm M c' (us (rcR R n) 0 (cyL y P (txL y P 81 0 0).2.2 0 (R 0)).2) A') ∧ A' 0 = A 0 ∧ A' 1 = A 1 ∧ c' 0 = nI (rcK n) ∧ c' 1 = 0 := by
  obtain ⟨A', h1, h2, h3, h4, h5⟩ := @s_143 M c R A y P hy
  have hP := hy.1
  rw [h] at h1
  generalize hN : (txL y P 81 0 0).2.2 = N at *
  generalize hQ : (txL y P 81 0 0).2.1 = Q at *
  have q0 : up (up c 2 (nI Q)) 3 (nI N) 0 = nI n := (up_n (by omega)).trans ((up_n (by omega)).trans hn)
  generalize hc1 : up (up c 2 (nI Q)) 3 (nI N) = c1 at *
  have hc3 : c1 3 = nI N := by rw [← hc1]; exact up_at
  have h94 := @s_94 M c1 R A' n q0 h6
  generalize hc2 : up (up c1 0 (nI (rcK n))) 1 0 = c2
  have hc23 : c2 3 = nI N := by rw [← hc2]; exact (up_n (by omega)).trans ((up_n (by omega)).trans hc3)
  have loop : ∀ (f k : Nat) (s : Sg), f + k = N → I s → qEx 147 (21, [some (.ref 627), some (.int (nI k))], [], wm M c2 (us (rcR R n) 0 s) A') = some (some (.int (nI (cyL y P f k s).1)), wm M c2 (us (rcR R n) 0 (cyL y P f k s).2) A') := by
    intro f
    induction f with
    | zero =>
      intro k s hk hs
      have : k = N := by omega
      subst this
      rw [x_147_21]
      simp only [x_147_0, x_147_1, x_147_4, x_147_7, x_147_9, x_147_10, x_147_11, x_147_14, x_147_15, x_147_16, x_147_19, x_147_20, x_147_22, x_147_23, x_147_26, x_147_29, x_147_30, x_147_31, x_147_34, x_147_37, x_147_40, x_147_43, x_147_44, Option.bind_some, Option.bind_none, Option.toList_some, Option.toList_none, List.cons_append, List.nil_append, pNl_i, pNl_r, pNl_u, pNl_n, bI_0, bI_1, nn_or, or_nn, not_false_eq_true, not_true_eq_false, i1000, i1e0, true_or, or_true, Decidable.not_not, if_true, if_false, Bool.false_eq_true, Int32.zero_add, true_and, and_true, wm_T, wg_0, wg_1, wg_2, wg_3, wg_4, wg_5, wg_6, wg_7, wg_8, wg_9, wg_10, wp_3, wp_7, wp_8, wp_10, hc23, Int32.le_refl]
      rfl
    | succ f ih =>
      intro k s hk hs
      have hlt : (nI N ≤ nI k) = False := by rw [nI_le_iff (by omega) (by omega)]; simp; omega
      obtain ⟨g1, g2, g3, g4, g5⟩ := h4 k (by omega)
      have hps : psP y P k ≤ P := by
        rcases Nat.lt_or_ge P (psP y P k) with q | q
        · exfalso
          have hk0 : knP (srP y P (psP y P k)) = 0 := by
            unfold srP; rw [if_neg (by omega)]; rfl
          unfold orP at g1
          rw [hk0] at g1
          exact absurd g1 (by simp)
        · exact q
      have hu := ((@or_le y P (psP y P k) hps).2.2 g1).2.1
      unfold cyL
      generalize srP y P (psP y P k) = u at *
      generalize hr : orP y P (psP y P k) = r at *
      obtain ⟨m1, m2⟩ := @md_k s u (nI r.2.1) (nI r.2.2.1) (nI r.2.2.2.1) (A' 2 (4 * k + 2)) (A' 2 (4 * k + 3)) hu g4 g5
      rw [x_147_21]
      by_cases z : mdV s u (nI r.2.1) (nI r.2.2.1) (nI r.2.2.2.1) = 0
      · obtain ⟨i1, i2⟩ := hI s u r.2.1 r.2.2.1 r.2.2.2.1 hs hu z
        have e := @s_146 M c2 (us (rcR R n) 0 s) A' k u (nI r.2.1) (A' 2 (4 * k + 2)) (A' 2 (4 * k + 3)) (by omega) hu g2 g3 rfl rfl (by rw [us_s, m1]; exact z) (by rw [us_s]; exact i1)
        rw [us_s, us_us, m2] at e
        rw [if_pos z]
        simp only [x_147_0, x_147_1, x_147_4, x_147_7, x_147_9, x_147_10, x_147_11, x_147_14, x_147_15, x_147_16, x_147_19, x_147_20, x_147_22, x_147_23, x_147_26, x_147_29, x_147_30, x_147_31, x_147_34, x_147_37, x_147_40, x_147_43, x_147_44, Option.bind_some, Option.bind_none, Option.toList_some, Option.toList_none, List.cons_append, List.nil_append, pNl_i, pNl_r, pNl_u, pNl_n, bI_0, bI_1, nn_or, or_nn, not_false_eq_true, not_true_eq_false, i1000, i1e0, true_or, or_true, Decidable.not_not, if_true, if_false, Bool.false_eq_true, Int32.zero_add, true_and, and_true, wm_T, wg_0, wg_1, wg_2, wg_3, wg_4, wg_5, wg_6, wg_7, wg_8, wg_9, wg_10, wp_3, wp_7, wp_8, wp_10, hc23, hlt, e, nI_1]
        exact ih (k + 1) _ (by omega) i2
      · have e := @s_146_0 M c2 (us (rcR R n) 0 s) A' k u (nI r.2.1) (A' 2 (4 * k + 2)) (A' 2 (4 * k + 3)) (by omega) hu g2 g3 rfl rfl (by rw [us_s, m1]; exact z)
        rw [if_neg z]
        simp only [x_147_0, x_147_1, x_147_4, x_147_7, x_147_9, x_147_10, x_147_11, x_147_14, x_147_15, x_147_16, x_147_19, x_147_20, x_147_22, x_147_23, x_147_26, x_147_29, x_147_30, x_147_31, x_147_34, x_147_37, x_147_40, x_147_43, x_147_44, Option.bind_some, Option.bind_none, Option.toList_some, Option.toList_none, List.cons_append, List.nil_append, pNl_i, pNl_r, pNl_u, pNl_n, bI_0, bI_1, nn_or, or_nn, not_false_eq_true, not_true_eq_false, i1000, i1e0, true_or, or_true, Decidable.not_not, if_true, if_false, Bool.false_eq_true, Int32.zero_add, true_and, and_true, wm_T, wg_0, wg_1, wg_2, wg_3, wg_4, wg_5, wg_6, wg_7, wg_8, wg_9, wg_10, wp_3, wp_7, wp_8, wp_10, hc23, hlt, e]
  refine ⟨c2, A', ?_, h2, h3, ?_, ?_⟩
  rotate_left
  · rw [← hc2]; exact (up_n (by omega)).trans up_at
  · rw [← hc2]; exact up_at
  have hl := loop N 0 (R 0) (by omega) hs
  have hr0 : us (rcR R n) 0 (R 0) = rcR R n := by rw [← rcR_0 (R := R) (k := n)]; exact us_id
  rw [hr0] at hl
  refine qRun_of ?_ rfl
  rw [en_147]
  simp only [x_147_0, x_147_1, x_147_4, x_147_7, x_147_9, x_147_10, x_147_11, x_147_14, x_147_15, x_147_16, x_147_19, x_147_20, x_147_22, x_147_23, x_147_26, x_147_29, x_147_30, x_147_31, x_147_34, x_147_37, x_147_40, x_147_43, x_147_44, Option.bind_some, Option.bind_none, Option.toList_some, Option.toList_none, List.cons_append, List.nil_append, pNl_i, pNl_r, pNl_u, pNl_n, bI_0, bI_1, nn_or, or_nn, not_false_eq_true, not_true_eq_false, i1000, i1e0, true_or, or_true, Decidable.not_not, if_true, if_false, Bool.false_eq_true, Int32.zero_add, true_and, and_true, wm_T, wg_0, wg_1, wg_2, wg_3, wg_4, wg_5, wg_6, wg_7, wg_8, wg_9, wg_10, wp_3, wp_7, wp_8, wp_10, h1, bB_t, h94, hc2]
  exact hl
end QJ
