/-! the reference's object: history, slots, changes -/
section QM
variable {M : qHp} {c : Nat → Int32} {R : Nat → Sg} {A : Nat → Nat → Int32}
/-- what is laid between the arrays of states -/
def fl3 (R : Nat → Sg) : Nat → Int32 := flat fun i => R (2 + i)
def fl4 (R : Nat → Sg) : Nat → Int32 := flat fun i => R (8 + i)
theorem cp_in {P : Nat → Sg} {s : Sg} {k : Nat} : cpF (enc s) (flat P) 0 (640 * k) 640 = flat (us P k s) := by
  funext j
  unfold cpF flat us
  by_cases h : 640 * k ≤ j ∧ j < 640 * k + 640
  · rw [if_pos h, if_pos (by omega)]; congr 1; omega
  · rw [if_neg h, if_neg (by omega)]
theorem cp_out {P : Nat → Sg} {f : Nat → Int32} {k j : Nat} (hj : j < 640) : cpF (flat P) f (640 * k) 0 640 j = enc (P k) j := by
  unfold cpF flat
  rw [if_pos (by omega)]
  rw [show (640 * k + (j - 0)) / 640 = k by omega, show (640 * k + (j - 0)) % 640 = j by omega]
theorem cp_both {f g : Nat → Int32} {j : Nat} (hj : j < 640) : cpF f g 0 0 640 j = f j := by
  unfold cpF
  rw [if_pos (by omega)]; congr 1; omega
theorem lay_in {k : Nat} (hk : k < 6) : qRun 93 [.ref 628, .int 0, .ref 630, .int (nI (640 * k))] (wm M c R A) = some (none, wm M c (us R (2 + k) (R 0)) A) := by
  have h := @s_93 (wm M c R A) 628 630 640 3840 0 (640 * k) (enc (R 0)) (flat fun i => R (2 + i)) (wm_at (j := 1) (by omega)) (wm_at (j := 3) (by omega)) (by omega) (by omega) (by omega) (by omega) (by omega)
  refine h.trans (congrArg (fun q => some (none, q)) ?_)
  rw [cp_in]
  refine wm_up (j := 3) (by omega) ?_ fun i hi h1 => ?_
  · simp only [wmC]
    rw [show (fun i => us R (2 + k) (R 0) (2 + i)) = us (fun i => R (2 + i)) k (R 0) from funext fun i => by unfold us; by_cases h : i = k <;> simp [h]]
  · match i with
    | 0 | 5 | 6 | 7 => rfl
    | 1 => simp only [wmC]; rw [us_ne (by omega)]
    | 2 => simp only [wmC]; rw [us_ne (by omega)]
    | 3 => omega
    | 4 => simp only [wmC]; rw [show (fun i => us R (2 + k) (R 0) (8 + i)) = (fun i => R (8 + i)) from funext fun i => us_ne (by omega)]
    | n + 8 => omega
theorem lay_sl {k : Nat} (hk : k < 2) : qRun 93 [.ref 628, .int 0, .ref 631, .int (nI (640 * k))] (wm M c R A) = some (none, wm M c (us R (8 + k) (R 0)) A) := by
  have h := @s_93 (wm M c R A) 628 631 640 1280 0 (640 * k) (enc (R 0)) (flat fun i => R (8 + i)) (wm_at (j := 1) (by omega)) (wm_at (j := 4) (by omega)) (by omega) (by omega) (by omega) (by omega) (by omega)
  refine h.trans (congrArg (fun q => some (none, q)) ?_)
  rw [cp_in]
  refine wm_up (j := 4) (by omega) ?_ fun i hi h1 => ?_
  · simp only [wmC]
    rw [show (fun i => us R (8 + k) (R 0) (8 + i)) = us (fun i => R (8 + i)) k (R 0) from funext fun i => by unfold us; by_cases h : i = k <;> simp [h]]
  · match i with
    | 0 | 5 | 6 | 7 => rfl
    | 1 => simp only [wmC]; rw [us_ne (by omega)]
    | 2 => simp only [wmC]; rw [us_ne (by omega)]
    | 3 =>
      refine congrArg (fun l => some (8, l)) (ia_ext fun j hj => ?_)
      unfold flat
      dsimp only
      rw [us_ne (by omega)]
    | 4 => omega
    | n + 8 => omega
theorem wm_now2 {f : Nat → Int32} {s : Sg} (h : ∀ j, j < 640 → f j = enc s j) : hU (wm M c R A) 628 (8, ia 640 f) = wm M c (us R 0 s) A := by
  rw [ia_ext h]; exact wm_now
theorem wm_then2 {f : Nat → Int32} {s : Sg} (h : ∀ j, j < 640 → f j = enc s j) : hU (wm M c R A) 629 (8, ia 640 f) = wm M c (us R 1 s) A := by
  rw [ia_ext h]; exact wm_then
theorem lay_un {k : Nat} (hk : k < 6) : qRun 93 [.ref 630, .int (nI (640 * k)), .ref 628, .int 0] (wm M c R A) = some (none, wm M c (us R 0 (R (2 + k))) A) := by
  have h := @s_93 (wm M c R A) 630 628 3840 640 (640 * k) 0 (flat fun i => R (2 + i)) (enc (R 0)) (wm_at (j := 3) (by omega)) (wm_at (j := 1) (by omega)) (by omega) (by omega) (by omega) (by omega) (by omega)
  refine h.trans (congrArg (fun q => some (none, q)) ?_)
  exact wm_now2 fun j hj => cp_out (P := fun i => R (2 + i)) hj
theorem lay_re {k : Nat} (hk : k < 2) : qRun 93 [.ref 631, .int (nI (640 * k)), .ref 628, .int 0] (wm M c R A) = some (none, wm M c (us R 0 (R (8 + k))) A) := by
  have h := @s_93 (wm M c R A) 631 628 1280 640 (640 * k) 0 (flat fun i => R (8 + i)) (enc (R 0)) (wm_at (j := 4) (by omega)) (wm_at (j := 1) (by omega)) (by omega) (by omega) (by omega) (by omega) (by omega)
  refine h.trans (congrArg (fun q => some (none, q)) ?_)
  exact wm_now2 fun j hj => cp_out (P := fun i => R (8 + i)) hj
theorem lay_th : qRun 93 [.ref 628, .int 0, .ref 629, .int 0] (wm M c R A) = some (none, wm M c (us R 1 (R 0)) A) := by
  have h := @s_93 (wm M c R A) 628 629 640 640 0 0 (enc (R 0)) (enc (R 1)) (wm_at (j := 1) (by omega)) (wm_at (j := 2) (by omega)) (by omega) (by omega) (by omega) (by omega) (by omega)
  refine h.trans (congrArg (fun q => some (none, q)) ?_)
  exact wm_then2 fun j hj => cp_both hj
/-- a state is recorded: the number of those that are kept, the states -/
def rcK (k : Nat) : Nat := if k = 6 then 6 else k + 1
def rcR (R : Nat → Sg) (k : Nat) : Nat → Sg := if k = 6 then us (fun i => if 2 ≤ i ∧ i < 7 then R (i + 1) else R i) 7 (R 0) else us R (2 + k) (R 0)
def shP (R : Nat → Sg) (n j : Nat) : Int32 := if j < n then flat (fun i => R (2 + i)) (j + 640) else flat (fun i => R (2 + i)) j
theorem i640 (k : Nat) : (640 * nI k : Int32) = nI (640 * k) := by rw [show (640 * nI k : Int32) = nI 640 * nI k from rfl, pk_mul]
theorem wm_past {f : Nat → Int32} : hU (wm M c R A) 630 (8, ia 3840 f) = hU (wm M c R A) 630 (8, ia 3840 f) := rfl
theorem s_94 {k : Nat} (hk : c 0 = nI k) (h6 : k ≤ 6) : qRun 94 [.ref 627] (wm M c R A) = some (none, wm M (up c 0 (nI (rcK k))) (rcR R k) A) := by
  refine qRun_of ?_ rfl
  rw [en_94]
  have fin1 : ∀ (c' : Nat → Int32) (R' : Nat → Sg) (l1 : Option Value) (j : Nat), c' 0 = nI j → j < 6 → qEx 94 (50, [some (.ref 627), l1], [], wm M c' R' A) = some (none, wm M (up c' 0 (nI (j + 1))) (us R' (2 + j) (R' 0)) A) := by
    intro c' R' l1 j hj hj6
    simp only [x_94_0, x_94_1, x_94_4, x_94_6, x_94_9, x_94_10, x_94_11, x_94_12, x_94_15, x_94_18, x_94_19, x_94_22, x_94_23, x_94_24, x_94_27, x_94_28, x_94_31, x_94_32, x_94_33, x_94_34, x_94_37, x_94_40, x_94_41, x_94_42, x_94_45, x_94_46, x_94_47, x_94_50, x_94_51, x_94_54, x_94_55, x_94_56, x_94_59, x_94_62, x_94_63, x_94_66, x_94_67, x_94_70, x_94_71, x_94_72, x_94_75, x_94_76, x_94_77, x_94_80, Option.bind_some, Option.bind_none, Option.toList_some, Option.toList_none, List.cons_append, List.nil_append, pNl_i, pNl_r, pNl_u, pNl_n, bI_0, bI_1, nn_or, or_nn, not_false_eq_true, not_true_eq_false, i1000, i1e0, true_or, or_true, Decidable.not_not, if_true, if_false, Bool.false_eq_true, Int32.zero_add, true_and, and_true, wm_T, wg_0, wg_2, wg_3, wp_3, hj, i640, lay_in hj6, nI_1]
  by_cases c1 : k = 6
  · subst c1
    have h66 : (nI 6 = 6) = True := eq_true rfl
    have loop : ∀ (n i : Nat), i + n = 3200 → qEx 94 (11, [some (.ref 627), some (.int (nI i))], [], hU (wm M c R A) 630 (8, ia 3840 (shP R i))) = qEx 94 (40, [some (.ref 627), some (.int (nI 3200))], [], hU (wm M c R A) 630 (8, ia 3840 (shP R 3200))) := by
      intro n
      induction n with
      | zero =>
        intro i hi
        have hin : i = 3200 := by omega
        subst hin
        rw [x_94_11]
        have hle : ((3200 : Int32) ≤ nI 3200) = True := eq_true (by decide)
        simp only [x_94_0, x_94_1, x_94_4, x_94_6, x_94_9, x_94_10, x_94_12, x_94_15, x_94_18, x_94_19, x_94_22, x_94_23, x_94_24, x_94_27, x_94_28, x_94_31, x_94_32, x_94_33, x_94_34, x_94_37, x_94_41, x_94_42, x_94_45, x_94_46, x_94_47, x_94_50, x_94_51, x_94_54, x_94_55, x_94_56, x_94_59, x_94_62, x_94_63, x_94_66, x_94_67, x_94_70, x_94_71, x_94_72, x_94_75, x_94_76, x_94_77, x_94_80, Option.bind_some, Option.bind_none, Option.toList_some, Option.toList_none, List.cons_append, List.nil_append, pNl_i, pNl_r, pNl_u, pNl_n, bI_0, bI_1, nn_or, or_nn, not_false_eq_true, not_true_eq_false, i1000, i1e0, true_or, or_true, Decidable.not_not, if_true, if_false, Bool.false_eq_true, Int32.zero_add, true_and, and_true, hle]
      | succ n ih =>
        intro i hi
        have hlt : ((3200 : Int32) ≤ nI i) = False := by rw [show (3200 : Int32) = nI 3200 from rfl, nI_le_iff (by omega) (by omega)]; simp; omega
        have h0 : (hU (wm M c R A) 630 (8, ia 3840 (shP R i))).2 627 = some (7, [.ref 628, .ref 629, .ref 630, .int (c 0), .ref 631, .ref 632, .ref 633, .int (c 1), .int (c 2), .ref 634, .int (c 3)]) := by rw [hU_at, if_neg (by omega)]; exact wm_0
        have hg : hG (hU (wm M c R A) 630 (8, ia 3840 (shP R i))) 627 7 2 = some (.ref 630) := hG_of h0
        have hB : (hU (wm M c R A) 630 (8, ia 3840 (shP R i))).2 630 = some (8, ia 3840 (shP R i)) := by rw [hU_at, if_pos rfl]
        have e1 := hLI_nI (k := i + 640) hB (by omega) (by omega)
        have e2 := @hS_nI _ _ _ i _ (shP R i (i + 640)) hB (by omega) (by omega)
        rw [hU_hU] at e2
        have e3 : up (shP R i) i (shP R i (i + 640)) = shP R (i + 1) := by
          funext j
          unfold up shP
          by_cases hj : j = i
          · rw [if_pos hj, if_neg (by omega), if_pos (by omega), hj]
          · rw [if_neg hj]
            by_cases hj2 : j < i
            · rw [if_pos hj2, if_pos (by omega)]
            · rw [if_neg hj2, if_neg (by omega)]
        rw [e3] at e2
        have e4 : (nI i + 640 : Int32) = nI (i + 640) := nI_add i 640
        rw [← ih (i + 1) (by omega), x_94_11]
        simp only [x_94_0, x_94_1, x_94_4, x_94_6, x_94_9, x_94_10, x_94_12, x_94_15, x_94_18, x_94_19, x_94_22, x_94_23, x_94_24, x_94_27, x_94_28, x_94_31, x_94_32, x_94_33, x_94_34, x_94_37, x_94_41, x_94_42, x_94_45, x_94_46, x_94_47, x_94_50, x_94_51, x_94_54, x_94_55, x_94_56, x_94_59, x_94_62, x_94_63, x_94_66, x_94_67, x_94_70, x_94_71, x_94_72, x_94_75, x_94_76, x_94_77, x_94_80, Option.bind_some, Option.bind_none, Option.toList_some, Option.toList_none, List.cons_append, List.nil_append, pNl_i, pNl_r, pNl_u, pNl_n, bI_0, bI_1, nn_or, or_nn, not_false_eq_true, not_true_eq_false, i1000, i1e0, true_or, or_true, Decidable.not_not, if_true, if_false, Bool.false_eq_true, Int32.zero_add, true_and, and_true, hlt, hg, e4, e1, e2, nI_1]
    have hsh : hU (wm M c R A) 630 (8, ia 3840 (shP R 3200)) = wm M c (fun i => if 2 ≤ i ∧ i < 7 then R (i + 1) else R i) A := by
      refine wm_up (j := 3) (by omega) ?_ fun i hi h1 => ?_
      · refine congrArg (fun l => some (8, l)) (ia_ext fun j hj => ?_)
        unfold shP flat
        dsimp only
        by_cases h : j < 3200
        · rw [if_pos h, if_pos (by omega)]
          rw [show (j + 640) / 640 = j / 640 + 1 by omega, show (j + 640) % 640 = j % 640 by omega]
          rfl
        · rw [if_neg h, if_neg (by omega)]
      · match i with
        | 0 | 5 | 6 | 7 => rfl
        | 1 => rfl
        | 2 => rfl
        | 3 => omega
        | 4 =>
          refine congrArg (fun l => some (8, l)) (ia_ext fun j hj => ?_)
          unfold flat
          dsimp only
          rw [if_neg (by omega)]
        | n + 8 => omega
    have hs0 : wm M c R A = hU (wm M c R A) 630 (8, ia 3840 (shP R 0)) := by
      have : shP R 0 = flat fun i => R (2 + i) := by funext j; unfold shP; rw [if_neg (by omega)]
      rw [this]
      exact (hU_id (wm_at (j := 3) (by omega))).symm
    have hl := loop 3200 0 (by omega)
    rw [← hs0, hsh] at hl
    simp only [x_94_0, x_94_1, x_94_4, x_94_6, x_94_9, x_94_10, x_94_12, x_94_15, x_94_18, x_94_19, x_94_22, x_94_23, x_94_24, x_94_27, x_94_28, x_94_31, x_94_32, x_94_33, x_94_34, x_94_37, x_94_40, x_94_41, x_94_42, x_94_45, x_94_46, x_94_47, x_94_50, x_94_51, x_94_54, x_94_55, x_94_56, x_94_59, x_94_62, x_94_63, x_94_66, x_94_67, x_94_70, x_94_71, x_94_72, x_94_75, x_94_76, x_94_77, x_94_80, Option.bind_some, Option.bind_none, Option.toList_some, Option.toList_none, List.cons_append, List.nil_append, pNl_i, pNl_r, pNl_u, pNl_n, bI_0, bI_1, nn_or, or_nn, not_false_eq_true, not_true_eq_false, i1000, i1e0, true_or, or_true, Decidable.not_not, if_true, if_false, Bool.false_eq_true, Int32.zero_add, true_and, and_true, wm_T, wg_3, hk, h66]
    refine Eq.trans hl ?_
    have h5 : (nI 6 - 1 : Int32) = nI 5 := by decide
    simp only [x_94_0, x_94_1, x_94_4, x_94_6, x_94_9, x_94_10, x_94_11, x_94_12, x_94_15, x_94_18, x_94_19, x_94_22, x_94_23, x_94_24, x_94_27, x_94_28, x_94_31, x_94_32, x_94_33, x_94_34, x_94_37, x_94_40, x_94_41, x_94_42, x_94_45, x_94_46, x_94_47, x_94_51, x_94_54, x_94_55, x_94_56, x_94_59, x_94_62, x_94_63, x_94_66, x_94_67, x_94_70, x_94_71, x_94_72, x_94_75, x_94_76, x_94_77, x_94_80, Option.bind_some, Option.bind_none, Option.toList_some, Option.toList_none, List.cons_append, List.nil_append, pNl_i, pNl_r, pNl_u, pNl_n, bI_0, bI_1, nn_or, or_nn, not_false_eq_true, not_true_eq_false, i1000, i1e0, true_or, or_true, Decidable.not_not, if_true, if_false, Bool.false_eq_true, Int32.zero_add, true_and, and_true, wm_T, wg_3, wp_3, hk, h5]
    refine Eq.trans (fin1 (up c 0 (nI 5)) _ _ 5 (if_pos rfl) (by omega)) ?_
    have hup : up (up c 0 (nI 5)) 0 (nI (5 + 1)) = up c 0 (nI (rcK 6)) := by funext j; unfold up rcK; split <;> rfl
    rw [hup]
    rfl
  · have hne : (nI k = 6) = False := by rw [show (6 : Int32) = nI 6 from rfl, nI_eq_iff (by omega) (by omega)]; simp; omega
    simp only [x_94_0, x_94_1, x_94_4, x_94_6, x_94_9, x_94_10, x_94_11, x_94_12, x_94_15, x_94_18, x_94_19, x_94_22, x_94_23, x_94_24, x_94_27, x_94_28, x_94_31, x_94_32, x_94_33, x_94_34, x_94_37, x_94_40, x_94_41, x_94_42, x_94_45, x_94_46, x_94_47, x_94_51, x_94_54, x_94_55, x_94_56, x_94_59, x_94_62, x_94_63, x_94_66, x_94_67, x_94_70, x_94_71, x_94_72, x_94_75, x_94_76, x_94_77, x_94_80, Option.bind_some, Option.bind_none, Option.toList_some, Option.toList_none, List.cons_append, List.nil_append, pNl_i, pNl_r, pNl_u, pNl_n, bI_0, bI_1, nn_or, or_nn, not_false_eq_true, not_true_eq_false, i1000, i1e0, true_or, or_true, Decidable.not_not, if_true, if_false, Bool.false_eq_true, Int32.zero_add, true_and, and_true, wm_T, wg_3, hk, hne]
    refine Eq.trans (fin1 c R _ k hk (by omega)) ?_
    unfold rcK rcR
    rw [if_neg c1, if_neg c1]
end QM
