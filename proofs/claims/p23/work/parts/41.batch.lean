/-! the class: a batch -/
theorem hC_ia {M : qHp} {a b n n' s d c : Nat} {f g : Nat → Int32} (ha : M.2 a = some (8, ia n f)) (hb : M.2 b = some (8, ia n' g)) (h1 : s + c ≤ n) (h2 : d + c ≤ n') (hn : n < 100000) (hn' : n' < 100000) : hC M a (nI s) b (nI d) (nI c) = some (hU M b (8, ia n' (fun k => if d ≤ k ∧ k < d + c then f (s + (k - d)) else g k))) := by
  unfold hC
  rw [ha, hb]
  simp only [Option.bind_some]
  rw [nI_clamp (by omega), nI_clamp (by omega), nI_clamp (by omega), ia_len, ia_len, if_pos ⟨⟨trivial, trivial⟩, ⟨nI_pos (by omega), nI_pos (by omega), nI_pos (by omega)⟩, ⟨h1, h2⟩, ia_ints _ _, ia_ints _ _⟩, ia_cpy h1]
section CC
variable {M : qHp} {o : Nat} {s : Sg}
theorem cb_b {b : Nat} (hb : b < 40) : (cB M o s).2 (o + 7 + b) = some (0, ia 11 (s (11 + b))) := by
  rw [Nat.add_assoc, cb_at (show 7 + b < 56 by omega)]
  unfold cbC
  rw [if_neg (by omega), if_neg (by omega), if_neg (by omega), if_neg (by omega), if_neg (by omega), if_neg (by omega), if_neg (by omega), if_pos (by omega), Nat.add_sub_cancel_left]
theorem ow_b {b w : Nat} : ow (11 + b) w = 7 + b := by
  unfold ow
  rw [if_neg (by omega), if_neg (by omega), if_neg (by omega), if_neg (by omega), if_neg (by omega), if_neg (by omega), if_neg (by omega), Nat.add_sub_cancel_left]
theorem up_u2 {g w : Nat} {v : Int32} : up (s g) w v = u2 s g w v g := by
  funext i; rw [u2_at]; unfold up
  by_cases h : i = w
  · rw [if_pos h, if_pos ⟨rfl, h⟩]
  · rw [if_neg h, if_neg (fun q => h q.2)]
theorem bT {b : Nat} (hb : b < 40) : hT (cB M o s) (o + 7 + b) 0 = true := hT_of (cb_b hb)
theorem bg {b w : Nat} (hb : b < 40) (hw : w < 11) : hG (cB M o s) (o + 7 + b) 0 w = some (.int (s (11 + b) w)) := by
  rw [hG_of (cb_b hb)]; exact ia_at hw
theorem bp {b w : Nat} {v : Int32} (hb : b < 40) (hw : w < 11) : hP (cB M o s) (o + 7 + b) 0 w .int (.int v) = some (cB M o (u2 s (11 + b) w v)) := by
  rw [hP_of (cb_b hb) (by rw [ia_len]; exact hw) rfl, ia_set, up_u2, Nat.add_assoc]
  have h := @cb_u2 M o s (11 + b) w (0, ia 11 (u2 s (11 + b) w v (11 + b))) v (by rw [ow_b]; omega) (by rw [ow_b]; have h2 := @cb_b M o (u2 s (11 + b) w v) b hb; rw [Nat.add_assoc, cb_at (by omega)] at h2; exact h2)
  rw [ow_b] at h
  exact congrArg some h
theorem bA {b : Nat} (hb : b < 40) : hLA (cB M o s) (o + 3) (nI b) = some (.ref (o + 7 + b)) := by
  unfold hLA
  rw [show (cB M o s).2 (o + 3) = some (11, (List.range 40).map fun b => .ref (o + 7 + b)) from cb_at (j := 3) (by omega)]
  simp only [Option.bind_some]
  rw [if_pos ⟨⟨by omega, by omega⟩, nI_pos (by omega)⟩, nI_clamp (by omega)]
  simp [hb]
/-- mail is told -/
theorem s_1 {b : Nat} {m p r x : Int32} (hb : b < 40) : qRun 1 [.ref (o + 7 + b), .int m, .int p, .int r, .int x] (cB M o s) = some (none, cB M o (bgF s b m p r x)) := by
  refine qRun_of ?_ rfl
  rw [en_1]
  have hf : u2 (u2 (u2 (u2 (u2 (u2 (u2 (u2 (u2 (u2 (u2 s (11 + b) 0 m) (11 + b) 1 p) (11 + b) 2 r) (11 + b) 3 x) (11 + b) 4 p) (11 + b) 5 0) (11 + b) 6 0) (11 + b) 7 0) (11 + b) 8 0) (11 + b) 9 0) (11 + b) 10 (-6) = bgF s b m p r x := by
    funext g i
    unfold bgF
    simp only [u2_at]
    by_cases h : g = 11 + b
    · simp only [h, true_and]
      match i with
      | 0 | 1 | 2 | 3 | 4 | 5 | 6 | 7 | 8 | 9 | 10 => rfl
      | n + 11 => simp; intro h; omega
    · simp only [h, false_and, if_false]
  simp only [x_1_0, x_1_1, x_1_2, x_1_5, x_1_6, x_1_7, x_1_10, x_1_11, x_1_12, x_1_15, x_1_16, x_1_18, x_1_21, x_1_22, x_1_23, x_1_26, x_1_27, x_1_28, x_1_31, x_1_32, x_1_33, x_1_36, x_1_37, x_1_38, x_1_41, x_1_42, x_1_43, x_1_46, x_1_47, x_1_48, x_1_51, x_1_52, x_1_54, x_1_57, Option.bind_some, Option.bind_none, Option.toList_some, Option.toList_none, List.cons_append, List.nil_append, pNl_i, pNl_r, pNl_u, pNl_n, bI_0, bI_1, nn_or, or_nn, not_false_eq_true, not_true_eq_false, i1000, i1e0, true_or, or_true, Decidable.not_not, if_true, if_false, Bool.false_eq_true, Int32.zero_add, true_and, and_true, bp hb, Nat.reduceLT, hf]
theorem s_3 {b w : Nat} (hb : b < 40) (hw : w < 11) : qRun 3 [.ref (o + 7 + b), .int (nI w)] (cB M o s) = some (some (.int (s (11 + b) w)), cB M o s) := by
  refine qRun_of ?_ rfl
  rw [en_3]
  match w, hw with
  | 0, _ | 1, _ | 2, _ | 3, _ | 4, _ | 5, _ | 6, _ | 7, _ | 8, _ | 9, _ | 10, _ => simp (config := {decide := true}) only [x_3_0, x_3_1, x_3_60, x_3_61, x_3_64, x_3_65, x_3_66, x_3_69, x_3_70, x_3_71, x_3_74, x_3_75, x_3_76, x_3_79, x_3_80, x_3_81, x_3_84, x_3_85, x_3_86, x_3_89, x_3_90, x_3_91, x_3_94, x_3_95, x_3_96, x_3_99, x_3_100, x_3_101, x_3_104, x_3_105, x_3_106, x_3_109, x_3_110, x_3_111, x_3_114, x_3_115, x_3_117, Option.bind_some, Option.bind_none, Option.toList_some, Option.toList_none, List.cons_append, List.nil_append, pNl_i, pNl_r, pNl_u, pNl_n, bI_0, bI_1, nn_or, or_nn, not_false_eq_true, not_true_eq_false, i1000, i1e0, true_or, or_true, Decidable.not_not, if_true, if_false, Bool.false_eq_true, Int32.zero_add, true_and, and_true, bg hb, Nat.reduceLT, nl_0, nl_1, nl_2, nl_3, nl_4, nl_5, nl_6, nl_7, nl_8, nl_9, nl_10]
theorem s_3_0 {b : Nat} {x : Int32} (hx : ¬ (0 ≤ x ∧ x ≤ 10)) : qRun 3 [.ref (o + 7 + b), .int x] (cB M o s) = some (some (.int (-2)), cB M o s) := by
  refine qRun_of ?_ rfl
  rw [en_3]
  have k : ∀ j : Nat, j ≤ 10 → (x = nI j) = False := fun j hj => eq_false fun e => hx (by rw [e]; exact of_eq_true (nI_bt0 (x := 10) (n := 10) rfl (by omega) hj))
  have k0 := k 0 (by omega)
  have k1 := k 1 (by omega)
  have k2 := k 2 (by omega)
  have k3 := k 3 (by omega)
  have k4 := k 4 (by omega)
  have k5 := k 5 (by omega)
  have k6 := k 6 (by omega)
  have k7 := k 7 (by omega)
  have k8 := k 8 (by omega)
  have k9 := k 9 (by omega)
  have k10 := k 10 (by omega)
  simp only [nl_0, nl_1, nl_2, nl_3, nl_4, nl_5, nl_6, nl_7, nl_8, nl_9, nl_10] at k0 k1 k2 k3 k4 k5 k6 k7 k8 k9 k10
  simp only [x_3_0, x_3_1, x_3_60, x_3_61, x_3_64, x_3_65, x_3_66, x_3_69, x_3_70, x_3_71, x_3_74, x_3_75, x_3_76, x_3_79, x_3_80, x_3_81, x_3_84, x_3_85, x_3_86, x_3_89, x_3_90, x_3_91, x_3_94, x_3_95, x_3_96, x_3_99, x_3_100, x_3_101, x_3_104, x_3_105, x_3_106, x_3_109, x_3_110, x_3_111, x_3_114, x_3_115, x_3_117, Option.bind_some, Option.bind_none, Option.toList_some, Option.toList_none, List.cons_append, List.nil_append, pNl_i, pNl_r, pNl_u, pNl_n, bI_0, bI_1, nn_or, or_nn, not_false_eq_true, not_true_eq_false, i1000, i1e0, true_or, or_true, Decidable.not_not, if_true, if_false, Bool.false_eq_true, Int32.zero_add, true_and, and_true, k0, k1, k2, k3, k4, k5, k6, k7, k8, k9, k10]
theorem s_4 {b : Nat} (hb : b < 40) : qRun 4 [.ref (o + 7 + b)] (cB M o s) = some (some (.int (bI (s (11 + b) 4 = 0 ∧ s (11 + b) 5 = 0))), cB M o s) := by
  refine qRun_of ?_ rfl
  rw [en_4]
  unfold bI
  by_cases c1 : s (11 + b) 4 = 0
  · by_cases c2 : s (11 + b) 5 = 0
    · simp only [x_4_0, x_4_1, x_4_4, x_4_7, x_4_8, x_4_11, x_4_14, x_4_15, x_4_18, x_4_19, Option.bind_some, Option.bind_none, Option.toList_some, Option.toList_none, List.cons_append, List.nil_append, pNl_i, pNl_r, pNl_u, pNl_n, bI_0, bI_1, nn_or, or_nn, not_false_eq_true, not_true_eq_false, i1000, i1e0, true_or, or_true, Decidable.not_not, if_true, if_false, Bool.false_eq_true, Int32.zero_add, true_and, and_true, bg hb, Nat.reduceLT, c1, c2, and_self]
    · simp only [x_4_0, x_4_1, x_4_4, x_4_7, x_4_8, x_4_11, x_4_14, x_4_15, x_4_18, x_4_19, Option.bind_some, Option.bind_none, Option.toList_some, Option.toList_none, List.cons_append, List.nil_append, pNl_i, pNl_r, pNl_u, pNl_n, bI_0, bI_1, nn_or, or_nn, not_false_eq_true, not_true_eq_false, i1000, i1e0, true_or, or_true, Decidable.not_not, if_true, if_false, Bool.false_eq_true, Int32.zero_add, true_and, and_true, bg hb, Nat.reduceLT, c1, c2, and_false]
  · simp only [x_4_0, x_4_1, x_4_4, x_4_7, x_4_8, x_4_11, x_4_14, x_4_15, x_4_18, x_4_19, Option.bind_some, Option.bind_none, Option.toList_some, Option.toList_none, List.cons_append, List.nil_append, pNl_i, pNl_r, pNl_u, pNl_n, bI_0, bI_1, nn_or, or_nn, not_false_eq_true, not_true_eq_false, i1000, i1e0, true_or, or_true, Decidable.not_not, if_true, if_false, Bool.false_eq_true, Int32.zero_add, true_and, and_true, bg hb, Nat.reduceLT, c1, false_and]
theorem s_5 {b : Nat} {d : Int32} (hb : b < 40) : qRun 5 [.ref (o + 7 + b), .int d] (cB M o s) = some (none, cB M o (dlF s b d)) := by
  refine qRun_of ?_ rfl
  rw [en_5]
  unfold dlF
  by_cases c1 : s (11 + b) 9 = 0
  · simp only [x_5_0, x_5_1, x_5_4, x_5_7, x_5_8, x_5_9, x_5_12, Option.bind_some, Option.bind_none, Option.toList_some, Option.toList_none, List.cons_append, List.nil_append, pNl_i, pNl_r, pNl_u, pNl_n, bI_0, bI_1, nn_or, or_nn, not_false_eq_true, not_true_eq_false, i1000, i1e0, true_or, or_true, Decidable.not_not, if_true, if_false, Bool.false_eq_true, Int32.zero_add, true_and, and_true, bg hb, bp hb, Nat.reduceLT, c1]
  · simp only [x_5_0, x_5_1, x_5_4, x_5_7, x_5_8, x_5_9, x_5_12, Option.bind_some, Option.bind_none, Option.toList_some, Option.toList_none, List.cons_append, List.nil_append, pNl_i, pNl_r, pNl_u, pNl_n, bI_0, bI_1, nn_or, or_nn, not_false_eq_true, not_true_eq_false, i1000, i1e0, true_or, or_true, Decidable.not_not, if_true, if_false, Bool.false_eq_true, Int32.zero_add, true_and, and_true, bg hb, bp hb, Nat.reduceLT, c1]
def ccF (s : Sg) (b : Nat) (e : Int32) : Sg :=
  let s1 := if s (11 + b) 3 ≤ e then s else u2 s (11 + b) 8 (s (11 + b) 1)
  if s1 (11 + b) 3 < e then s1 else dlF s1 b 4
theorem s_6 {b : Nat} {e : Int32} (hb : b < 40) : qRun 6 [.ref (o + 7 + b), .int e] (cB M o s) = some (none, cB M o (ccF s b e)) := by
  refine qRun_of ?_ rfl
  rw [en_6]
  unfold ccF
  by_cases c1 : s (11 + b) 3 ≤ e
  · by_cases c2 : s (11 + b) 3 < e
    · simp only [x_6_0, x_6_1, x_6_4, x_6_5, x_6_8, x_6_9, x_6_10, x_6_13, x_6_16, x_6_17, x_6_20, x_6_21, x_6_24, x_6_25, x_6_26, x_6_29, Option.bind_some, Option.bind_none, Option.toList_some, Option.toList_none, List.cons_append, List.nil_append, pNl_i, pNl_r, pNl_u, pNl_n, bI_0, bI_1, nn_or, or_nn, not_false_eq_true, not_true_eq_false, i1000, i1e0, true_or, or_true, Decidable.not_not, if_true, if_false, Bool.false_eq_true, Int32.zero_add, true_and, and_true, bg hb, bp hb, bT hb, Nat.reduceLT, c1, c2, s_5 hb]
    · simp only [x_6_0, x_6_1, x_6_4, x_6_5, x_6_8, x_6_9, x_6_10, x_6_13, x_6_16, x_6_17, x_6_20, x_6_21, x_6_24, x_6_25, x_6_26, x_6_29, Option.bind_some, Option.bind_none, Option.toList_some, Option.toList_none, List.cons_append, List.nil_append, pNl_i, pNl_r, pNl_u, pNl_n, bI_0, bI_1, nn_or, or_nn, not_false_eq_true, not_true_eq_false, i1000, i1e0, true_or, or_true, Decidable.not_not, if_true, if_false, Bool.false_eq_true, Int32.zero_add, true_and, and_true, bg hb, bp hb, bT hb, Nat.reduceLT, c1, c2, s_5 hb]
  · by_cases c2 : u2 s (11 + b) 8 (s (11 + b) 1) (11 + b) 3 < e
    · simp only [x_6_0, x_6_1, x_6_4, x_6_5, x_6_8, x_6_9, x_6_10, x_6_13, x_6_16, x_6_17, x_6_20, x_6_21, x_6_24, x_6_25, x_6_26, x_6_29, Option.bind_some, Option.bind_none, Option.toList_some, Option.toList_none, List.cons_append, List.nil_append, pNl_i, pNl_r, pNl_u, pNl_n, bI_0, bI_1, nn_or, or_nn, not_false_eq_true, not_true_eq_false, i1000, i1e0, true_or, or_true, Decidable.not_not, if_true, if_false, Bool.false_eq_true, Int32.zero_add, true_and, and_true, bg hb, bp hb, bT hb, Nat.reduceLT, c1, c2, s_5 hb]
    · simp only [x_6_0, x_6_1, x_6_4, x_6_5, x_6_8, x_6_9, x_6_10, x_6_13, x_6_16, x_6_17, x_6_20, x_6_21, x_6_24, x_6_25, x_6_26, x_6_29, Option.bind_some, Option.bind_none, Option.toList_some, Option.toList_none, List.cons_append, List.nil_append, pNl_i, pNl_r, pNl_u, pNl_n, bI_0, bI_1, nn_or, or_nn, not_false_eq_true, not_true_eq_false, i1000, i1e0, true_or, or_true, Decidable.not_not, if_true, if_false, Bool.false_eq_true, Int32.zero_add, true_and, and_true, bg hb, bp hb, bT hb, Nat.reduceLT, c1, c2, s_5 hb]
def cgF (s : Sg) (b : Nat) : Sg :=
  let s1 := u2 (u2 s (11 + b) 7 (s (11 + b) 7 + s (11 + b) 6)) (11 + b) 6 0
  u2 s1 (11 + b) 8 (if s1 (11 + b) 8 < s1 (11 + b) 1 - s1 (11 + b) 7 then s1 (11 + b) 1 - s1 (11 + b) 7 else s1 (11 + b) 8)
theorem s_7 {b : Nat} (hb : b < 40) : qRun 7 [.ref (o + 7 + b)] (cB M o s) = some (none, cB M o (cgF s b)) := by
  refine qRun_of ?_ rfl
  rw [en_7]
  unfold cgF
  simp only [x_7_0, x_7_1, x_7_2, x_7_5, x_7_6, x_7_9, x_7_10, x_7_13, x_7_14, x_7_15, x_7_18, x_7_19, x_7_20, x_7_23, x_7_24, x_7_27, x_7_28, x_7_31, x_7_32, x_7_35, x_7_38, Option.bind_some, Option.bind_none, Option.toList_some, Option.toList_none, List.cons_append, List.nil_append, pNl_i, pNl_r, pNl_u, pNl_n, bI_0, bI_1, nn_or, or_nn, not_false_eq_true, not_true_eq_false, i1000, i1e0, true_or, or_true, Decidable.not_not, if_true, if_false, Bool.false_eq_true, Int32.zero_add, true_and, and_true, bg hb, bp hb, bT hb, Nat.reduceLT]
def clM (s : Sg) (b : Nat) (p r t : Int32) : Sg :=
  let s1 := u2 s (11 + b) 4 (s (11 + b) 4 - p)
  let s2 := u2 s1 (11 + b) 5 (s1 (11 + b) 5 + r)
  let s3 := u2 s2 (11 + b) 6 (s2 (11 + b) 6 + (p - r))
  let s4 := if r ≤ 0 then s3 else dlF s3 b 3
  if s4 (11 + b) 4 = 0 ∧ s4 (11 + b) 5 = 0 then u2 s4 (11 + b) 10 t else s4
theorem s_8 {b : Nat} {p r t : Int32} (hb : b < 40) : qRun 8 [.ref (o + 7 + b), .int p, .int r, .int t] (cB M o s) = some (none, cB M o (clM s b p r t)) := by
  have fin : ∀ s4 : Sg, qEx 8 (48, [some (.ref (o + 7 + b)), some (.int p), some (.int r), some (.int t)], [], cB M o s4) = some (none, cB M o (if s4 (11 + b) 4 = 0 ∧ s4 (11 + b) 5 = 0 then u2 s4 (11 + b) 10 t else s4)) := by
    intro s4
    by_cases c1 : s4 (11 + b) 4 = 0
    · by_cases c2 : s4 (11 + b) 5 = 0
      · simp only [x_8_0, x_8_1, x_8_2, x_8_5, x_8_6, x_8_7, x_8_10, x_8_11, x_8_12, x_8_15, x_8_16, x_8_17, x_8_20, x_8_21, x_8_22, x_8_25, x_8_26, x_8_27, x_8_28, x_8_29, x_8_32, x_8_33, x_8_36, x_8_37, x_8_40, x_8_43, x_8_44, x_8_45, x_8_48, x_8_49, x_8_52, x_8_55, x_8_56, x_8_59, x_8_62, x_8_63, x_8_64, x_8_67, Option.bind_some, Option.bind_none, Option.toList_some, Option.toList_none, List.cons_append, List.nil_append, pNl_i, pNl_r, pNl_u, pNl_n, bI_0, bI_1, nn_or, or_nn, not_false_eq_true, not_true_eq_false, i1000, i1e0, true_or, or_true, Decidable.not_not, if_true, if_false, Bool.false_eq_true, Int32.zero_add, true_and, and_true, bg hb, bp hb, bT hb, Nat.reduceLT, c1, c2, and_self]
      · simp only [x_8_0, x_8_1, x_8_2, x_8_5, x_8_6, x_8_7, x_8_10, x_8_11, x_8_12, x_8_15, x_8_16, x_8_17, x_8_20, x_8_21, x_8_22, x_8_25, x_8_26, x_8_27, x_8_28, x_8_29, x_8_32, x_8_33, x_8_36, x_8_37, x_8_40, x_8_43, x_8_44, x_8_45, x_8_48, x_8_49, x_8_52, x_8_55, x_8_56, x_8_59, x_8_62, x_8_63, x_8_64, x_8_67, Option.bind_some, Option.bind_none, Option.toList_some, Option.toList_none, List.cons_append, List.nil_append, pNl_i, pNl_r, pNl_u, pNl_n, bI_0, bI_1, nn_or, or_nn, not_false_eq_true, not_true_eq_false, i1000, i1e0, true_or, or_true, Decidable.not_not, if_true, if_false, Bool.false_eq_true, Int32.zero_add, true_and, and_true, bg hb, bp hb, bT hb, Nat.reduceLT, c1, c2, and_false]
    · simp only [x_8_0, x_8_1, x_8_2, x_8_5, x_8_6, x_8_7, x_8_10, x_8_11, x_8_12, x_8_15, x_8_16, x_8_17, x_8_20, x_8_21, x_8_22, x_8_25, x_8_26, x_8_27, x_8_28, x_8_29, x_8_32, x_8_33, x_8_36, x_8_37, x_8_40, x_8_43, x_8_44, x_8_45, x_8_48, x_8_49, x_8_52, x_8_55, x_8_56, x_8_59, x_8_62, x_8_63, x_8_64, x_8_67, Option.bind_some, Option.bind_none, Option.toList_some, Option.toList_none, List.cons_append, List.nil_append, pNl_i, pNl_r, pNl_u, pNl_n, bI_0, bI_1, nn_or, or_nn, not_false_eq_true, not_true_eq_false, i1000, i1e0, true_or, or_true, Decidable.not_not, if_true, if_false, Bool.false_eq_true, Int32.zero_add, true_and, and_true, bg hb, bp hb, bT hb, Nat.reduceLT, c1, false_and]
  refine qRun_of ?_ rfl
  rw [en_8]
  unfold clM
  dsimp only
  generalize hs1 : u2 s (11 + b) 4 (s (11 + b) 4 - p) = s1
  generalize hs2 : u2 s1 (11 + b) 5 (s1 (11 + b) 5 + r) = s2
  generalize hs3 : u2 s2 (11 + b) 6 (s2 (11 + b) 6 + (p - r)) = s3
  by_cases c0 : r ≤ 0
  · rw [if_pos c0]
    simp only [x_8_0, x_8_1, x_8_2, x_8_5, x_8_6, x_8_7, x_8_10, x_8_11, x_8_12, x_8_15, x_8_16, x_8_17, x_8_20, x_8_21, x_8_22, x_8_25, x_8_26, x_8_27, x_8_28, x_8_29, x_8_32, x_8_33, x_8_36, x_8_37, x_8_40, x_8_43, x_8_44, x_8_45, x_8_49, x_8_52, x_8_55, x_8_56, x_8_59, x_8_62, x_8_63, x_8_64, x_8_67, Option.bind_some, Option.bind_none, Option.toList_some, Option.toList_none, List.cons_append, List.nil_append, pNl_i, pNl_r, pNl_u, pNl_n, bI_0, bI_1, nn_or, or_nn, not_false_eq_true, not_true_eq_false, i1000, i1e0, true_or, or_true, Decidable.not_not, if_true, if_false, Bool.false_eq_true, Int32.zero_add, true_and, and_true, bg hb, bp hb, bT hb, Nat.reduceLT, hs1, hs2, hs3, c0]
    exact fin s3
  · rw [if_neg c0]
    unfold dlF
    by_cases c9 : s3 (11 + b) 9 = 0
    · rw [if_pos c9]
      simp only [x_8_0, x_8_1, x_8_2, x_8_5, x_8_6, x_8_7, x_8_10, x_8_11, x_8_12, x_8_15, x_8_16, x_8_17, x_8_20, x_8_21, x_8_22, x_8_25, x_8_26, x_8_27, x_8_28, x_8_29, x_8_32, x_8_33, x_8_36, x_8_37, x_8_40, x_8_43, x_8_44, x_8_45, x_8_49, x_8_52, x_8_55, x_8_56, x_8_59, x_8_62, x_8_63, x_8_64, x_8_67, Option.bind_some, Option.bind_none, Option.toList_some, Option.toList_none, List.cons_append, List.nil_append, pNl_i, pNl_r, pNl_u, pNl_n, bI_0, bI_1, nn_or, or_nn, not_false_eq_true, not_true_eq_false, i1000, i1e0, true_or, or_true, Decidable.not_not, if_true, if_false, Bool.false_eq_true, Int32.zero_add, true_and, and_true, bg hb, bp hb, bT hb, Nat.reduceLT, hs1, hs2, hs3, c0, c9]
      exact fin _
    · rw [if_neg c9]
      simp only [x_8_0, x_8_1, x_8_2, x_8_5, x_8_6, x_8_7, x_8_10, x_8_11, x_8_12, x_8_15, x_8_16, x_8_17, x_8_20, x_8_21, x_8_22, x_8_25, x_8_26, x_8_27, x_8_28, x_8_29, x_8_32, x_8_33, x_8_36, x_8_37, x_8_40, x_8_43, x_8_44, x_8_45, x_8_49, x_8_52, x_8_55, x_8_56, x_8_59, x_8_62, x_8_63, x_8_64, x_8_67, Option.bind_some, Option.bind_none, Option.toList_some, Option.toList_none, List.cons_append, List.nil_append, pNl_i, pNl_r, pNl_u, pNl_n, bI_0, bI_1, nn_or, or_nn, not_false_eq_true, not_true_eq_false, i1000, i1e0, true_or, or_true, Decidable.not_not, if_true, if_false, Bool.false_eq_true, Int32.zero_add, true_and, and_true, bg hb, bp hb, bT hb, Nat.reduceLT, hs1, hs2, hs3, c0, c9]
      exact fin _
def chM (s : Sg) (b : Nat) (p t : Int32) : Sg :=
  let s1 := u2 s (11 + b) 5 (s (11 + b) 5 - p)
  let s2 := u2 s1 (11 + b) 6 (s1 (11 + b) 6 + p)
  if s2 (11 + b) 4 = 0 ∧ s2 (11 + b) 5 = 0 then u2 s2 (11 + b) 10 t else s2
theorem s_9 {b : Nat} {p t : Int32} (hb : b < 40) : qRun 9 [.ref (o + 7 + b), .int p, .int t] (cB M o s) = some (none, cB M o (chM s b p t)) := by
  refine qRun_of ?_ rfl
  rw [en_9]
  unfold chM
  dsimp only
  generalize hs1 : u2 s (11 + b) 5 (s (11 + b) 5 - p) = s1
  generalize hs2 : u2 s1 (11 + b) 6 (s1 (11 + b) 6 + p) = s2
  by_cases c1 : s2 (11 + b) 4 = 0
  · by_cases c2 : s2 (11 + b) 5 = 0
    · simp only [x_9_0, x_9_1, x_9_2, x_9_5, x_9_6, x_9_7, x_9_10, x_9_11, x_9_12, x_9_15, x_9_16, x_9_17, x_9_20, x_9_21, x_9_24, x_9_27, x_9_28, x_9_31, x_9_34, x_9_35, x_9_36, x_9_39, Option.bind_some, Option.bind_none, Option.toList_some, Option.toList_none, List.cons_append, List.nil_append, pNl_i, pNl_r, pNl_u, pNl_n, bI_0, bI_1, nn_or, or_nn, not_false_eq_true, not_true_eq_false, i1000, i1e0, true_or, or_true, Decidable.not_not, if_true, if_false, Bool.false_eq_true, Int32.zero_add, true_and, and_true, bg hb, bp hb, bT hb, Nat.reduceLT, hs1, hs2, c1, c2, and_self]
    · simp only [x_9_0, x_9_1, x_9_2, x_9_5, x_9_6, x_9_7, x_9_10, x_9_11, x_9_12, x_9_15, x_9_16, x_9_17, x_9_20, x_9_21, x_9_24, x_9_27, x_9_28, x_9_31, x_9_34, x_9_35, x_9_36, x_9_39, Option.bind_some, Option.bind_none, Option.toList_some, Option.toList_none, List.cons_append, List.nil_append, pNl_i, pNl_r, pNl_u, pNl_n, bI_0, bI_1, nn_or, or_nn, not_false_eq_true, not_true_eq_false, i1000, i1e0, true_or, or_true, Decidable.not_not, if_true, if_false, Bool.false_eq_true, Int32.zero_add, true_and, and_true, bg hb, bp hb, bT hb, Nat.reduceLT, hs1, hs2, c1, c2, and_false]
  · simp only [x_9_0, x_9_1, x_9_2, x_9_5, x_9_6, x_9_7, x_9_10, x_9_11, x_9_12, x_9_15, x_9_16, x_9_17, x_9_20, x_9_21, x_9_24, x_9_27, x_9_28, x_9_31, x_9_34, x_9_35, x_9_36, x_9_39, Option.bind_some, Option.bind_none, Option.toList_some, Option.toList_none, List.cons_append, List.nil_append, pNl_i, pNl_r, pNl_u, pNl_n, bI_0, bI_1, nn_or, or_nn, not_false_eq_true, not_true_eq_false, i1000, i1e0, true_or, or_true, Decidable.not_not, if_true, if_false, Bool.false_eq_true, Int32.zero_add, true_and, and_true, bg hb, bp hb, bT hb, Nat.reduceLT, hs1, hs2, c1, false_and]
end CC
