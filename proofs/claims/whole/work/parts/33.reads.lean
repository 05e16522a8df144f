/-! reading: y are the characters, P how many -/
def inB (y : Nat → Nat) (P p lo hi : Nat) : Bool := decide (p < P ∧ lo ≤ y p ∧ y p ≤ hi)
theorem inB_t {y : Nat → Nat} {P p lo hi : Nat} : (inB y P p lo hi = true) = (p < P ∧ lo ≤ y p ∧ y p ≤ hi) := by
  unfold inB; rw [decide_eq_true_eq]
theorem inB_f {y : Nat → Nat} {P p lo hi : Nat} : (inB y P p lo hi = false) = ¬ (p < P ∧ lo ≤ y p ∧ y p ≤ hi) := by
  unfold inB; rw [decide_eq_false_iff_not]
/-- the pad holds y -/
def pdOK (c : Nat → Int32) (A : Nat → Nat → Int32) (y : Nat → Nat) (P : Nat) : Prop := P ≤ 80 ∧ c 1 = nI P ∧ ∀ k, k < P → A 1 k = nI (y k) ∧ y k < 256
/-- a number that is read: whether, its value, where it ends -/
def nuP (y : Nat → Nat) (P p : Nat) : Bool × Nat × Nat :=
  if inB y P p 48 57 = false then (false, 0, p) else
  if y p = 48 then (true, 0, p + 1) else
  if inB y P (p + 1) 48 57 = false then (true, y p - 48, p + 1) else
  if inB y P (p + 2) 48 57 = false then (true, 10 * (y p - 48) + (y (p + 1) - 48), p + 2) else
  if inB y P (p + 3) 48 57 = false then (true, 10 * (10 * (y p - 48) + (y (p + 1) - 48)) + (y (p + 2) - 48), p + 3) else
  (true, 10 * (10 * (10 * (y p - 48) + (y (p + 1) - 48)) + (y (p + 2) - 48)) + (y (p + 3) - 48), p + 4)
def dgP (y : Nat → Nat) (P p : Nat) : Bool × Nat × Nat := if inB y P p 48 55 = false then (false, 0, p) else (true, y p - 48, p + 1)
def sgP (y : Nat → Nat) (P ch p : Nat) : Bool × Nat := if inB y P p ch ch = false then (false, p) else (true, p + 1)
section QG
variable {M : qHp} {c : Nat → Int32} {R : Nat → Sg} {A : Nat → Nat → Int32} {y : Nat → Nat} {P : Nat}
def bB (b : Bool) : Int32 := if b then 1 else 0
theorem bB_0 {b : Bool} : (bB b = 0) = (b = false) := by cases b <;> simp [bB]
theorem bB_t : bB true = 1 := rfl
theorem bB_f : bB false = 0 := rfl
theorem s_138 {p lo hi : Nat} (hy : pdOK c A y P) (hp : c 2 = nI p) (h80 : p ≤ 80) (hlo : lo < 256) (hhi : hi < 256) : qRun 138 [.ref 627, .int (nI lo), .int (nI hi)] (wm M c R A) = some (some (.int (bB (inB y P p lo hi))), wm M c R A) := by
  obtain ⟨hP, h1, h2⟩ := hy
  refine qRun_of ?_ rfl
  rw [en_138]
  by_cases c1 : P ≤ p
  · have e1 : (nI P ≤ nI p) = True := eq_true (by rw [nI_le_iff (by omega) (by omega)]; exact c1)
    have e2 : inB y P p lo hi = false := by rw [inB_f]; omega
    rw [e2]
    simp only [x_138_0, x_138_1, x_138_4, x_138_5, x_138_8, x_138_11, x_138_12, x_138_15, x_138_16, x_138_19, x_138_20, x_138_21, x_138_22, x_138_25, x_138_28, x_138_29, x_138_32, x_138_33, Option.bind_some, Option.bind_none, Option.toList_some, Option.toList_none, List.cons_append, List.nil_append, pNl_i, pNl_r, pNl_u, pNl_n, bI_0, bI_1, nn_or, or_nn, not_false_eq_true, not_true_eq_false, i1000, i1e0, true_or, or_true, Decidable.not_not, if_true, if_false, Bool.false_eq_true, Int32.zero_add, true_and, and_true, wm_T, wg_0, wg_1, wg_2, wg_3, wg_4, wg_5, wg_6, wg_7, wg_8, wg_9, wg_10, wp_3, wp_7, wp_8, wp_10, h1, hp, e1]
    rfl
  · have e1 : (nI P ≤ nI p) = False := eq_false (by rw [nI_le_iff (by omega) (by omega)]; exact c1)
    obtain ⟨h3, h4⟩ := h2 p (by omega)
    have e3 : (nI lo ≤ nI (y p) ∧ nI (y p) ≤ nI hi) = (lo ≤ y p ∧ y p ≤ hi) := by
      rw [nI_le_iff (by omega) (by omega), nI_le_iff (by omega) (by omega)]
    by_cases c2 : lo ≤ y p ∧ y p ≤ hi
    · have e2 : inB y P p lo hi = true := by rw [inB_t]; omega
      rw [e2]
      simp only [x_138_0, x_138_1, x_138_4, x_138_5, x_138_8, x_138_11, x_138_12, x_138_15, x_138_16, x_138_19, x_138_20, x_138_21, x_138_22, x_138_25, x_138_28, x_138_29, x_138_32, x_138_33, Option.bind_some, Option.bind_none, Option.toList_some, Option.toList_none, List.cons_append, List.nil_append, pNl_i, pNl_r, pNl_u, pNl_n, bI_0, bI_1, nn_or, or_nn, not_false_eq_true, not_true_eq_false, i1000, i1e0, true_or, or_true, Decidable.not_not, if_true, if_false, Bool.false_eq_true, Int32.zero_add, true_and, and_true, wm_T, wg_0, wg_1, wg_2, wg_3, wg_4, wg_5, wg_6, wg_7, wg_8, wg_9, wg_10, wp_3, wp_7, wp_8, wp_10, h1, hp, e1, wa_pad (show p < 80 by omega), h3, s_87, e3, c2]
      rfl
    · have e2 : inB y P p lo hi = false := by rw [inB_f]; omega
      rw [e2]
      simp only [x_138_0, x_138_1, x_138_4, x_138_5, x_138_8, x_138_11, x_138_12, x_138_15, x_138_16, x_138_19, x_138_20, x_138_21, x_138_22, x_138_25, x_138_28, x_138_29, x_138_32, x_138_33, Option.bind_some, Option.bind_none, Option.toList_some, Option.toList_none, List.cons_append, List.nil_append, pNl_i, pNl_r, pNl_u, pNl_n, bI_0, bI_1, nn_or, or_nn, not_false_eq_true, not_true_eq_false, i1000, i1e0, true_or, or_true, Decidable.not_not, if_true, if_false, Bool.false_eq_true, Int32.zero_add, true_and, and_true, wm_T, wg_0, wg_1, wg_2, wg_3, wg_4, wg_5, wg_6, wg_7, wg_8, wg_9, wg_10, wp_3, wp_7, wp_8, wp_10, h1, hp, e1, wa_pad (show p < 80 by omega), h3, s_87, e3, c2]
      rfl
theorem up_same {c : Nat → Int32} {k : Nat} {v : Int32} (h : c k = v) : up c k v = c := by
  funext j; unfold up; split
  · rename_i r; rw [r, h]
  · rfl
theorem s_139 {p ch : Nat} (hy : pdOK c A y P) (hp : c 2 = nI p) (h80 : p ≤ 80) (hlo : ch < 256) : qRun 139 [.ref 627, .int (nI ch)] (wm M c R A) = some (some (.int (bB (sgP y P ch p).1)), wm M (up c 2 (nI (sgP y P ch p).2)) R A) := by
  refine qRun_of ?_ rfl
  rw [en_139]
  unfold sgP
  cases e : inB y P p ch ch with
  | false =>
    have e9 : (nI p + 0 : Int32) = nI p := nI_add p 0
    simp only [x_139_0, x_139_1, x_139_2, x_139_3, x_139_6, x_139_7, x_139_8, x_139_9, x_139_12, x_139_13, x_139_16, x_139_17, x_139_20, x_139_21, x_139_22, x_139_25, x_139_26, Option.bind_some, Option.bind_none, Option.toList_some, Option.toList_none, List.cons_append, List.nil_append, pNl_i, pNl_r, pNl_u, pNl_n, bI_0, bI_1, nn_or, or_nn, not_false_eq_true, not_true_eq_false, i1000, i1e0, true_or, or_true, Decidable.not_not, if_true, if_false, Bool.false_eq_true, Int32.zero_add, true_and, and_true, wm_T, wg_0, wg_1, wg_2, wg_3, wg_4, wg_5, wg_6, wg_7, wg_8, wg_9, wg_10, wp_3, wp_7, wp_8, wp_10, s_138 hy hp h80 hlo hlo, e, bB_f, hp, e9]
  | true =>
    have e2 : (true = false) = False := by simp
    simp only [x_139_0, x_139_1, x_139_2, x_139_3, x_139_6, x_139_7, x_139_8, x_139_9, x_139_12, x_139_13, x_139_16, x_139_17, x_139_20, x_139_21, x_139_22, x_139_25, x_139_26, Option.bind_some, Option.bind_none, Option.toList_some, Option.toList_none, List.cons_append, List.nil_append, pNl_i, pNl_r, pNl_u, pNl_n, bI_0, bI_1, nn_or, or_nn, not_false_eq_true, not_true_eq_false, i1000, i1e0, true_or, or_true, Decidable.not_not, if_true, if_false, Bool.false_eq_true, Int32.zero_add, true_and, and_true, wm_T, wg_0, wg_1, wg_2, wg_3, wg_4, wg_5, wg_6, wg_7, wg_8, wg_9, wg_10, wp_3, wp_7, wp_8, wp_10, s_138 hy hp h80 hlo hlo, e, bB_t, hp, nI_1, e2]
theorem pd_up {c' : Nat → Int32} {A' : Nat → Nat → Int32} (hy : pdOK c A y P) (h1 : c' 1 = c 1) (h2 : A' 1 = A 1) : pdOK c' A' y P := ⟨hy.1, h1.trans hy.2.1, fun k hk => by rw [h2]; exact hy.2.2 k hk⟩
theorem up_u {c : Nat → Int32} {k : Nat} {v w : Int32} : up (up c k v) k w = up c k w := by
  funext j; unfold up; split <;> rfl
theorem up_at {c : Nat → Int32} {k : Nat} {v : Int32} : up c k v k = v := if_pos rfl
theorem up_n {c : Nat → Int32} {k j : Nat} {v : Int32} (h : j ≠ k) : up c k v j = c j := if_neg h
theorem s_141 {p o k : Nat} (hy : pdOK c A y P) (hp : c 2 = nI p) (h80 : p ≤ 80) (ho : c 3 = nI o) (hk : 4 * o + k < 112) : qRun 141 [.ref 627, .int (nI k)] (wm M c R A) = some (some (.int (bB (dgP y P p).1)), wm M (up c 2 (nI (dgP y P p).2.2)) R (if (dgP y P p).1 then ua A 2 (4 * o + k) (nI (dgP y P p).2.1) else A)) := by
  refine qRun_of ?_ rfl
  rw [en_141]
  unfold dgP
  have e0 := @s_138 M c R A y P p 48 55 hy hp h80 (by omega) (by omega)
  rw [show nI 48 = 48 from rfl, show nI 55 = 55 from rfl] at e0
  cases e : inB y P p 48 55 with
  | false =>
    rw [e] at e0
    simp only [x_141_0, x_141_1, x_141_3, x_141_5, x_141_8, x_141_11, x_141_12, x_141_13, x_141_14, x_141_17, x_141_18, x_141_19, x_141_22, x_141_23, x_141_24, x_141_25, x_141_26, x_141_29, x_141_30, x_141_33, x_141_34, x_141_36, x_141_37, x_141_38, x_141_39, x_141_40, x_141_43, x_141_44, x_141_45, x_141_48, x_141_49, Option.bind_some, Option.bind_none, Option.toList_some, Option.toList_none, List.cons_append, List.nil_append, pNl_i, pNl_r, pNl_u, pNl_n, bI_0, bI_1, nn_or, or_nn, not_false_eq_true, not_true_eq_false, i1000, i1e0, true_or, or_true, Decidable.not_not, if_true, if_false, Bool.false_eq_true, Int32.zero_add, true_and, and_true, wm_T, wg_0, wg_1, wg_2, wg_3, wg_4, wg_5, wg_6, wg_7, wg_8, wg_9, wg_10, wp_3, wp_7, wp_8, wp_10, e0, bB_f, up_same hp]
  | true =>
    rw [e] at e0
    have e2 : (true = false) = False := by simp
    have h3 := (inB_t (y := y)).mp e
    obtain ⟨h4, h5⟩ := hy.2.2 p h3.1
    have h6 := hy.1
    have e3 : (nI (y p) - 48 : Int32) = nI (y p - 48) := by
      rw [show nI (y p) = nI (y p - 48) + nI 48 by rw [nI_add]; congr 1; omega]; exact Int32.add_sub_cancel _ _
    have e4 : (4 * nI o + nI k : Int32) = nI (4 * o + k) := by rw [show (4 * nI o + nI k : Int32) = nI 4 * nI o + nI k from rfl, pk_mul, nI_add]
    simp only [x_141_0, x_141_1, x_141_3, x_141_5, x_141_8, x_141_11, x_141_12, x_141_13, x_141_14, x_141_17, x_141_18, x_141_19, x_141_22, x_141_23, x_141_24, x_141_25, x_141_26, x_141_29, x_141_30, x_141_33, x_141_34, x_141_36, x_141_37, x_141_38, x_141_39, x_141_40, x_141_43, x_141_44, x_141_45, x_141_48, x_141_49, Option.bind_some, Option.bind_none, Option.toList_some, Option.toList_none, List.cons_append, List.nil_append, pNl_i, pNl_r, pNl_u, pNl_n, bI_0, bI_1, nn_or, or_nn, not_false_eq_true, not_true_eq_false, i1000, i1e0, true_or, or_true, Decidable.not_not, if_true, if_false, Bool.false_eq_true, Int32.zero_add, true_and, and_true, wm_T, wg_0, wg_1, wg_2, wg_3, wg_4, wg_5, wg_6, wg_7, wg_8, wg_9, wg_10, wp_3, wp_7, wp_8, wp_10, e0, bB_t, hp, nI_1, e2, ho, e4, wa_pad (show p < 80 by omega), h4, e3, wb_ord hk]
theorem s_140 {p o k : Nat} (hy : pdOK c A y P) (hp : c 2 = nI p) (h80 : p ≤ P) (ho : c 3 = nI o) (hk : 4 * o + k < 112) : qRun 140 [.ref 627, .int (nI k)] (wm M c R A) = some (some (.int (bB (nuP y P p).1)), wm M (up c 2 (nI (nuP y P p).2.2)) R (if (nuP y P p).1 then ua A 2 (4 * o + k) (nI (nuP y P p).2.1) else A)) := by
  have hP := hy.1
  have isA : ∀ q, q ≤ 84 → qRun 138 [.ref 627, .int 48, .int 57] (wm M (up c 2 (nI q)) R A) = some (some (.int (bB (inB y P q 48 57))), wm M (up c 2 (nI q)) R A) := by
    intro q hq
    rcases Nat.lt_or_ge 80 q with r | r
    · have e1 : (nI P ≤ nI q) = True := eq_true (by rw [nI_le_iff (by omega) (by omega)]; omega)
      have e2 : inB y P q 48 57 = false := by rw [inB_f]; omega
      have h1 : up c 2 (nI q) 1 = nI P := (up_n (by omega)).trans hy.2.1
      rw [e2]
      refine qRun_of ?_ rfl
      rw [en_138]
      simp only [x_138_0, x_138_1, x_138_4, x_138_5, x_138_8, x_138_11, x_138_12, x_138_15, x_138_16, x_138_19, x_138_20, x_138_21, x_138_22, x_138_25, x_138_28, x_138_29, x_138_32, x_138_33, Option.bind_some, Option.bind_none, Option.toList_some, Option.toList_none, List.cons_append, List.nil_append, pNl_i, pNl_r, pNl_u, pNl_n, bI_0, bI_1, nn_or, or_nn, not_false_eq_true, not_true_eq_false, i1000, i1e0, true_or, or_true, Decidable.not_not, if_true, if_false, Bool.false_eq_true, Int32.zero_add, true_and, and_true, wm_T, wg_0, wg_1, wg_2, wg_3, wg_4, wg_5, wg_6, wg_7, wg_8, wg_9, wg_10, wp_3, wp_7, wp_8, wp_10, h1, up_at, e1]
      rfl
    · exact @s_138 M (up c 2 (nI q)) R A y P q 48 57 (pd_up hy (up_n (by omega)) rfl) up_at r (by omega) (by omega)
  have fin : ∀ (v q : Nat), qEx 140 (89, [some (.ref 627), some (.int (nI k)), some (.int (nI v))], [], wm M (up c 2 (nI q)) R A) = some (some (.int 1), wm M (up c 2 (nI q)) R (ua A 2 (4 * o + k) (nI v))) := by
    intro v q
    have e4 : (4 * nI o + nI k : Int32) = nI (4 * o + k) := by rw [show (4 * nI o + nI k : Int32) = nI 4 * nI o + nI k from rfl, pk_mul, nI_add]
    have h3 : up c 2 (nI q) 3 = nI o := (up_n (by omega)).trans ho
    simp only [x_140_0, x_140_1, x_140_3, x_140_5, x_140_8, x_140_11, x_140_12, x_140_13, x_140_14, x_140_17, x_140_18, x_140_21, x_140_22, x_140_24, x_140_25, x_140_26, x_140_27, x_140_28, x_140_31, x_140_32, x_140_33, x_140_37, x_140_40, x_140_41, x_140_44, x_140_47, x_140_48, x_140_50, x_140_52, x_140_55, x_140_58, x_140_60, x_140_61, x_140_62, x_140_63, x_140_66, x_140_67, x_140_70, x_140_71, x_140_72, x_140_74, x_140_75, x_140_76, x_140_77, x_140_78, x_140_81, x_140_82, x_140_83, x_140_86, x_140_89, x_140_90, x_140_93, x_140_94, x_140_95, x_140_98, x_140_99, x_140_100, x_140_101, x_140_102, x_140_103, x_140_104, Option.bind_some, Option.bind_none, Option.toList_some, Option.toList_none, List.cons_append, List.nil_append, pNl_i, pNl_r, pNl_u, pNl_n, bI_0, bI_1, nn_or, or_nn, not_false_eq_true, not_true_eq_false, i1000, i1e0, true_or, or_true, Decidable.not_not, if_true, if_false, Bool.false_eq_true, Int32.zero_add, true_and, and_true, wm_T, wg_0, wg_1, wg_2, wg_3, wg_4, wg_5, wg_6, wg_7, wg_8, wg_9, wg_10, wp_3, wp_7, wp_8, wp_10, h3, e4, wb_ord hk]
  have stop : ∀ (v q : Nat), q ≤ 84 → v < 10000 → inB y P q 48 57 = false → qEx 140 (36, [some (.ref 627), some (.int (nI k)), some (.int (nI v))], [], wm M (up c 2 (nI q)) R A) = some (some (.int 1), wm M (up c 2 (nI q)) R (ua A 2 (4 * o + k) (nI v))) := by
    intro v q hq hv h
    rw [x_140_36]
    have hi := isA q hq
    rw [h] at hi
    by_cases c1 : nI v ≤ 0
    · simp only [x_140_0, x_140_1, x_140_3, x_140_5, x_140_8, x_140_11, x_140_12, x_140_13, x_140_14, x_140_17, x_140_18, x_140_21, x_140_22, x_140_24, x_140_25, x_140_26, x_140_27, x_140_28, x_140_31, x_140_32, x_140_33, x_140_37, x_140_40, x_140_41, x_140_44, x_140_47, x_140_48, x_140_50, x_140_52, x_140_55, x_140_58, x_140_60, x_140_61, x_140_62, x_140_63, x_140_66, x_140_67, x_140_70, x_140_71, x_140_72, x_140_74, x_140_75, x_140_76, x_140_77, x_140_78, x_140_81, x_140_82, x_140_83, x_140_86, x_140_90, x_140_93, x_140_94, x_140_95, x_140_98, x_140_99, x_140_100, x_140_101, x_140_102, x_140_103, x_140_104, Option.bind_some, Option.bind_none, Option.toList_some, Option.toList_none, List.cons_append, List.nil_append, pNl_i, pNl_r, pNl_u, pNl_n, bI_0, bI_1, nn_or, or_nn, not_false_eq_true, not_true_eq_false, i1000, i1e0, true_or, or_true, Decidable.not_not, if_true, if_false, Bool.false_eq_true, Int32.zero_add, true_and, and_true, wm_T, wg_0, wg_1, wg_2, wg_3, wg_4, wg_5, wg_6, wg_7, wg_8, wg_9, wg_10, wp_3, wp_7, wp_8, wp_10, c1]
      exact fin v q
    · by_cases c2 : 1000 ≤ nI v
      · simp only [x_140_0, x_140_1, x_140_3, x_140_5, x_140_8, x_140_11, x_140_12, x_140_13, x_140_14, x_140_17, x_140_18, x_140_21, x_140_22, x_140_24, x_140_25, x_140_26, x_140_27, x_140_28, x_140_31, x_140_32, x_140_33, x_140_37, x_140_40, x_140_41, x_140_44, x_140_47, x_140_48, x_140_50, x_140_52, x_140_55, x_140_58, x_140_60, x_140_61, x_140_62, x_140_63, x_140_66, x_140_67, x_140_70, x_140_71, x_140_72, x_140_74, x_140_75, x_140_76, x_140_77, x_140_78, x_140_81, x_140_82, x_140_83, x_140_86, x_140_90, x_140_93, x_140_94, x_140_95, x_140_98, x_140_99, x_140_100, x_140_101, x_140_102, x_140_103, x_140_104, Option.bind_some, Option.bind_none, Option.toList_some, Option.toList_none, List.cons_append, List.nil_append, pNl_i, pNl_r, pNl_u, pNl_n, bI_0, bI_1, nn_or, or_nn, not_false_eq_true, not_true_eq_false, i1000, i1e0, true_or, or_true, Decidable.not_not, if_true, if_false, Bool.false_eq_true, Int32.zero_add, true_and, and_true, wm_T, wg_0, wg_1, wg_2, wg_3, wg_4, wg_5, wg_6, wg_7, wg_8, wg_9, wg_10, wp_3, wp_7, wp_8, wp_10, c1, c2]
        exact fin v q
      · simp only [x_140_0, x_140_1, x_140_3, x_140_5, x_140_8, x_140_11, x_140_12, x_140_13, x_140_14, x_140_17, x_140_18, x_140_21, x_140_22, x_140_24, x_140_25, x_140_26, x_140_27, x_140_28, x_140_31, x_140_32, x_140_33, x_140_37, x_140_40, x_140_41, x_140_44, x_140_47, x_140_48, x_140_50, x_140_52, x_140_55, x_140_58, x_140_60, x_140_61, x_140_62, x_140_63, x_140_66, x_140_67, x_140_70, x_140_71, x_140_72, x_140_74, x_140_75, x_140_76, x_140_77, x_140_78, x_140_81, x_140_82, x_140_83, x_140_86, x_140_90, x_140_93, x_140_94, x_140_95, x_140_98, x_140_99, x_140_100, x_140_101, x_140_102, x_140_103, x_140_104, Option.bind_some, Option.bind_none, Option.toList_some, Option.toList_none, List.cons_append, List.nil_append, pNl_i, pNl_r, pNl_u, pNl_n, bI_0, bI_1, nn_or, or_nn, not_false_eq_true, not_true_eq_false, i1000, i1e0, true_or, or_true, Decidable.not_not, if_true, if_false, Bool.false_eq_true, Int32.zero_add, true_and, and_true, wm_T, wg_0, wg_1, wg_2, wg_3, wg_4, wg_5, wg_6, wg_7, wg_8, wg_9, wg_10, wp_3, wp_7, wp_8, wp_10, c1, c2, hi, bB_f]
        exact fin v q
  have big : ∀ (v q : Nat), v < 100000 → (v = 0 ∨ 1000 ≤ v) → qEx 140 (36, [some (.ref 627), some (.int (nI k)), some (.int (nI v))], [], wm M (up c 2 (nI q)) R A) = some (some (.int 1), wm M (up c 2 (nI q)) R (ua A 2 (4 * o + k) (nI v))) := by
    intro v q hv h
    rw [x_140_36]
    by_cases c1 : nI v ≤ 0
    · simp only [x_140_0, x_140_1, x_140_3, x_140_5, x_140_8, x_140_11, x_140_12, x_140_13, x_140_14, x_140_17, x_140_18, x_140_21, x_140_22, x_140_24, x_140_25, x_140_26, x_140_27, x_140_28, x_140_31, x_140_32, x_140_33, x_140_37, x_140_40, x_140_41, x_140_44, x_140_47, x_140_48, x_140_50, x_140_52, x_140_55, x_140_58, x_140_60, x_140_61, x_140_62, x_140_63, x_140_66, x_140_67, x_140_70, x_140_71, x_140_72, x_140_74, x_140_75, x_140_76, x_140_77, x_140_78, x_140_81, x_140_82, x_140_83, x_140_86, x_140_90, x_140_93, x_140_94, x_140_95, x_140_98, x_140_99, x_140_100, x_140_101, x_140_102, x_140_103, x_140_104, Option.bind_some, Option.bind_none, Option.toList_some, Option.toList_none, List.cons_append, List.nil_append, pNl_i, pNl_r, pNl_u, pNl_n, bI_0, bI_1, nn_or, or_nn, not_false_eq_true, not_true_eq_false, i1000, i1e0, true_or, or_true, Decidable.not_not, if_true, if_false, Bool.false_eq_true, Int32.zero_add, true_and, and_true, wm_T, wg_0, wg_1, wg_2, wg_3, wg_4, wg_5, wg_6, wg_7, wg_8, wg_9, wg_10, wp_3, wp_7, wp_8, wp_10, c1]
      exact fin v q
    · have c2 : (1000 : Int32) ≤ nI v := by
        rw [show (1000 : Int32) = nI 1000 from rfl, nI_le_iff (by omega) (by omega)]
        rcases h with r | r
        · subst r; exact absurd (by decide) c1
        · exact r
      simp only [x_140_0, x_140_1, x_140_3, x_140_5, x_140_8, x_140_11, x_140_12, x_140_13, x_140_14, x_140_17, x_140_18, x_140_21, x_140_22, x_140_24, x_140_25, x_140_26, x_140_27, x_140_28, x_140_31, x_140_32, x_140_33, x_140_37, x_140_40, x_140_41, x_140_44, x_140_47, x_140_48, x_140_50, x_140_52, x_140_55, x_140_58, x_140_60, x_140_61, x_140_62, x_140_63, x_140_66, x_140_67, x_140_70, x_140_71, x_140_72, x_140_74, x_140_75, x_140_76, x_140_77, x_140_78, x_140_81, x_140_82, x_140_83, x_140_86, x_140_90, x_140_93, x_140_94, x_140_95, x_140_98, x_140_99, x_140_100, x_140_101, x_140_102, x_140_103, x_140_104, Option.bind_some, Option.bind_none, Option.toList_some, Option.toList_none, List.cons_append, List.nil_append, pNl_i, pNl_r, pNl_u, pNl_n, bI_0, bI_1, nn_or, or_nn, not_false_eq_true, not_true_eq_false, i1000, i1e0, true_or, or_true, Decidable.not_not, if_true, if_false, Bool.false_eq_true, Int32.zero_add, true_and, and_true, wm_T, wg_0, wg_1, wg_2, wg_3, wg_4, wg_5, wg_6, wg_7, wg_8, wg_9, wg_10, wp_3, wp_7, wp_8, wp_10, c1, c2]
      exact fin v q
  have step : ∀ (v q : Nat), q ≤ 84 → 0 < v → v < 1000 → inB y P q 48 57 = true → qEx 140 (36, [some (.ref 627), some (.int (nI k)), some (.int (nI v))], [], wm M (up c 2 (nI q)) R A) = qEx 140 (36, [some (.ref 627), some (.int (nI k)), some (.int (nI (10 * v + (y q - 48))))], [], wm M (up c 2 (nI (q + 1))) R A) := by
    intro v q hq h0 hv h
    have hi := isA q hq
    rw [h] at hi
    have h3 := (inB_t (y := y)).mp h
    obtain ⟨h4, h5⟩ := hy.2.2 q h3.1
    have c1 : (nI v ≤ 0) = False := eq_false (by rw [show (0 : Int32) = nI 0 from rfl, nI_le_iff (by omega) (by omega)]; omega)
    have c2 : ((1000 : Int32) ≤ nI v) = False := eq_false (by rw [show (1000 : Int32) = nI 1000 from rfl, nI_le_iff (by omega) (by omega)]; omega)
    have e3 : (10 * nI v + nI (y q) - 48 : Int32) = nI (10 * v + (y q - 48)) := by
      rw [show (10 * nI v : Int32) = nI 10 * nI v from rfl, pk_mul, nI_add, show nI (10 * v + y q) = nI (10 * v + (y q - 48)) + nI 48 by rw [nI_add]; congr 1; omega]
      exact Int32.add_sub_cancel _ _
    rw [x_140_36]
    simp only [x_140_0, x_140_1, x_140_3, x_140_5, x_140_8, x_140_11, x_140_12, x_140_13, x_140_14, x_140_17, x_140_18, x_140_21, x_140_22, x_140_24, x_140_25, x_140_26, x_140_27, x_140_28, x_140_31, x_140_32, x_140_33, x_140_37, x_140_40, x_140_41, x_140_44, x_140_47, x_140_48, x_140_50, x_140_52, x_140_55, x_140_58, x_140_60, x_140_61, x_140_62, x_140_63, x_140_66, x_140_67, x_140_70, x_140_71, x_140_72, x_140_74, x_140_75, x_140_76, x_140_77, x_140_78, x_140_81, x_140_82, x_140_83, x_140_86, x_140_90, x_140_93, x_140_94, x_140_95, x_140_98, x_140_99, x_140_100, x_140_101, x_140_102, x_140_103, x_140_104, Option.bind_some, Option.bind_none, Option.toList_some, Option.toList_none, List.cons_append, List.nil_append, pNl_i, pNl_r, pNl_u, pNl_n, bI_0, bI_1, nn_or, or_nn, not_false_eq_true, not_true_eq_false, i1000, i1e0, true_or, or_true, Decidable.not_not, if_true, if_false, Bool.false_eq_true, Int32.zero_add, true_and, and_true, wm_T, wg_0, wg_1, wg_2, wg_3, wg_4, wg_5, wg_6, wg_7, wg_8, wg_9, wg_10, wp_3, wp_7, wp_8, wp_10, c1, c2, hi, bB_t, up_at, wa_pad (show q < 80 by omega), h4, e3, nI_1, up_u]
  have h0 := isA p (by omega)
  rw [up_same hp] at h0
  refine qRun_of ?_ rfl
  rw [en_140]
  unfold nuP
  cases e : inB y P p 48 57 with
  | false =>
    rw [e] at h0
    simp only [x_140_0, x_140_1, x_140_3, x_140_5, x_140_8, x_140_11, x_140_12, x_140_13, x_140_14, x_140_17, x_140_18, x_140_21, x_140_22, x_140_24, x_140_25, x_140_26, x_140_27, x_140_28, x_140_31, x_140_32, x_140_33, x_140_37, x_140_40, x_140_41, x_140_44, x_140_47, x_140_48, x_140_50, x_140_52, x_140_55, x_140_58, x_140_60, x_140_61, x_140_62, x_140_63, x_140_66, x_140_67, x_140_70, x_140_71, x_140_72, x_140_74, x_140_75, x_140_76, x_140_77, x_140_78, x_140_81, x_140_82, x_140_83, x_140_86, x_140_90, x_140_93, x_140_94, x_140_95, x_140_98, x_140_99, x_140_100, x_140_101, x_140_102, x_140_103, x_140_104, Option.bind_some, Option.bind_none, Option.toList_some, Option.toList_none, List.cons_append, List.nil_append, pNl_i, pNl_r, pNl_u, pNl_n, bI_0, bI_1, nn_or, or_nn, not_false_eq_true, not_true_eq_false, i1000, i1e0, true_or, or_true, Decidable.not_not, if_true, if_false, Bool.false_eq_true, Int32.zero_add, true_and, and_true, wm_T, wg_0, wg_1, wg_2, wg_3, wg_4, wg_5, wg_6, wg_7, wg_8, wg_9, wg_10, wp_3, wp_7, wp_8, wp_10, h0, bB_f, up_same hp]
  | true =>
    rw [e] at h0
    have e2 : (true = false) = False := by simp
    have h3 := (inB_t (y := y)).mp e
    obtain ⟨h4, h5⟩ := hy.2.2 p h3.1
    have e3 : (nI (y p) - 48 : Int32) = nI (y p - 48) := by
      rw [show nI (y p) = nI (y p - 48) + nI 48 by rw [nI_add]; congr 1; omega]; exact Int32.add_sub_cancel _ _
    simp only [x_140_0, x_140_1, x_140_3, x_140_5, x_140_8, x_140_11, x_140_12, x_140_13, x_140_14, x_140_17, x_140_18, x_140_21, x_140_22, x_140_24, x_140_25, x_140_26, x_140_27, x_140_28, x_140_31, x_140_32, x_140_33, x_140_37, x_140_40, x_140_41, x_140_44, x_140_47, x_140_48, x_140_50, x_140_52, x_140_55, x_140_58, x_140_60, x_140_61, x_140_62, x_140_63, x_140_66, x_140_67, x_140_70, x_140_71, x_140_72, x_140_74, x_140_75, x_140_76, x_140_77, x_140_78, x_140_81, x_140_82, x_140_83, x_140_86, x_140_90, x_140_93, x_140_94, x_140_95, x_140_98, x_140_99, x_140_100, x_140_101, x_140_102, x_140_103, x_140_104, Option.bind_some, Option.bind_none, Option.toList_some, Option.toList_none, List.cons_append, List.nil_append, pNl_i, pNl_r, pNl_u, pNl_n, bI_0, bI_1, nn_or, or_nn, not_false_eq_true, not_true_eq_false, i1000, i1e0, true_or, or_true, Decidable.not_not, if_true, if_false, Bool.false_eq_true, Int32.zero_add, true_and, and_true, wm_T, wg_0, wg_1, wg_2, wg_3, wg_4, wg_5, wg_6, wg_7, wg_8, wg_9, wg_10, wp_3, wp_7, wp_8, wp_10, h0, bB_t, hp, nI_1, e2, wa_pad (show p < 80 by omega), h4, e3]
    by_cases z : y p = 48
    · rw [if_pos z]
      refine (big _ _ (by omega) (by omega)).trans ?_
      rw [z]
      rfl
    · rw [if_neg z]
      cases e1 : inB y P (p + 1) 48 57 with
      | false =>
        exact stop _ _ (by omega) (by omega) e1
      | true =>
        have g1 := (inB_t (y := y)).mp e1
        simp only [e2, if_false]
        refine (step _ _ (by omega) (by omega) (by omega) e1).trans ?_
        cases e5 : inB y P (p + 2) 48 57 with
        | false => exact stop _ _ (by omega) (by omega) e5
        | true =>
          have g2 := (inB_t (y := y)).mp e5
          simp only [e2, if_false]
          refine (step _ _ (by omega) (by omega) (by omega) e5).trans ?_
          cases e6 : inB y P (p + 3) 48 57 with
          | false => exact stop _ _ (by omega) (by omega) e6
          | true =>
            have g3 := (inB_t (y := y)).mp e6
            simp only [e2, if_false]
            refine (step _ _ (by omega) (by omega) (by omega) e6).trans ?_
            exact big _ _ (by omega) (by omega)
end QG
