/-! the class: minutes pass, days to their end -/
section CJ
variable {M : qHp} {o : Nat} {s : Sg}
def idB (s : Sg) : Bool := decide (((s 3 0 = -6 ∧ s 6 0 ≤ 0) ∧ (s 4 0 = -6 ∧ s 6 1 ≤ 0) ∧ s 5 0 = -6 ∧ s 6 2 ≤ 0) ∧ s 0 4 = 0)
theorem s_25 : qRun 25 [.ref o] (cB M o s) = some (some (.int (bB (idB s))), cB M o s) := by
  refine qRun_of ?_ rfl
  rw [en_25]
  have g4 : hG (cB M o s) (o + 5) 5 1 = some (.int (s 0 4)) := rg_1 rw_h
  have step : ∀ m, m < 3 → s (3 + m) 0 = -6 ∧ s 6 m ≤ 0 → qEx 25 (2, [some (.ref o), some (.int (nI m))], [], cB M o s) = qEx 25 (2, [some (.ref o), some (.int (nI (m + 1)))], [], cB M o s) := by
    intro m hm hc
    have h3 : ((3 : Int32) ≤ nI m) = False := by rw [show (3 : Int32) = nI 3 from rfl, nI_le_iff (by omega) (by omega)]; simp; omega
    have m1 := @mg M o s m 0 hm (by omega)
    simp only [Nat.reduceAdd] at m1
    rw [x_25_2]
    simp only [x_25_0, x_25_1, x_25_3, x_25_4, x_25_7, x_25_8, x_25_11, x_25_12, x_25_13, x_25_16, x_25_18, x_25_21, x_25_22, x_25_25, x_25_26, x_25_27, x_25_30, x_25_33, x_25_36, x_25_37, x_25_38, x_25_41, x_25_44, x_25_45, x_25_48, x_25_51, x_25_54, x_25_55, x_25_58, x_25_59, Option.bind_some, Option.bind_none, Option.toList_some, Option.toList_none, List.cons_append, List.nil_append, pNl_i, pNl_r, pNl_u, pNl_n, bI_0, bI_1, nn_or, or_nn, not_false_eq_true, not_true_eq_false, i1000, i1e0, true_or, or_true, Decidable.not_not, if_true, if_false, Bool.false_eq_true, Int32.zero_add, true_and, and_true, cg_3, h3, mA hm, m1, mg_0 hm, rg_1 (rw_q hm), hc.1, hc.2, nI_1]
  have stop : ∀ m, m < 3 → ¬ (s (3 + m) 0 = -6 ∧ s 6 m ≤ 0) → qEx 25 (2, [some (.ref o), some (.int (nI m))], [], cB M o s) = some (some (.int 0), cB M o s) := by
    intro m hm hc
    have h3 : ((3 : Int32) ≤ nI m) = False := by rw [show (3 : Int32) = nI 3 from rfl, nI_le_iff (by omega) (by omega)]; simp; omega
    have m1 := @mg M o s m 0 hm (by omega)
    simp only [Nat.reduceAdd] at m1
    rw [x_25_2]
    by_cases c1 : s (3 + m) 0 = -6
    · have c2 : ¬ s 6 m ≤ 0 := fun q => hc ⟨c1, q⟩
      simp only [x_25_0, x_25_1, x_25_3, x_25_4, x_25_7, x_25_8, x_25_11, x_25_12, x_25_13, x_25_16, x_25_18, x_25_21, x_25_22, x_25_25, x_25_26, x_25_27, x_25_30, x_25_33, x_25_36, x_25_37, x_25_38, x_25_41, x_25_44, x_25_45, x_25_48, x_25_51, x_25_54, x_25_55, x_25_58, x_25_59, Option.bind_some, Option.bind_none, Option.toList_some, Option.toList_none, List.cons_append, List.nil_append, pNl_i, pNl_r, pNl_u, pNl_n, bI_0, bI_1, nn_or, or_nn, not_false_eq_true, not_true_eq_false, i1000, i1e0, true_or, or_true, Decidable.not_not, if_true, if_false, Bool.false_eq_true, Int32.zero_add, true_and, and_true, cg_3, h3, mA hm, m1, mg_0 hm, rg_1 (rw_q hm), c1, c2]
    · simp only [x_25_0, x_25_1, x_25_3, x_25_4, x_25_7, x_25_8, x_25_11, x_25_12, x_25_13, x_25_16, x_25_18, x_25_21, x_25_22, x_25_25, x_25_26, x_25_27, x_25_30, x_25_33, x_25_36, x_25_37, x_25_38, x_25_41, x_25_44, x_25_45, x_25_48, x_25_51, x_25_54, x_25_55, x_25_58, x_25_59, Option.bind_some, Option.bind_none, Option.toList_some, Option.toList_none, List.cons_append, List.nil_append, pNl_i, pNl_r, pNl_u, pNl_n, bI_0, bI_1, nn_or, or_nn, not_false_eq_true, not_true_eq_false, i1000, i1e0, true_or, or_true, Decidable.not_not, if_true, if_false, Bool.false_eq_true, Int32.zero_add, true_and, and_true, cg_3, h3, mA hm, m1, mg_0 hm, rg_1 (rw_q hm), c1]
  have last : qEx 25 (2, [some (.ref o), some (.int (nI (2 + 1)))], [], cB M o s) = some (some (.int (if s 0 4 = 0 then 1 else 0)), cB M o s) := by
    have h3 : ((3 : Int32) ≤ nI (2 + 1)) = True := eq_true (by decide)
    rw [x_25_2]
    by_cases c1 : s 0 4 = 0
    · simp only [x_25_0, x_25_1, x_25_3, x_25_4, x_25_7, x_25_8, x_25_11, x_25_12, x_25_13, x_25_16, x_25_18, x_25_21, x_25_22, x_25_25, x_25_26, x_25_27, x_25_30, x_25_33, x_25_36, x_25_37, x_25_38, x_25_41, x_25_44, x_25_45, x_25_48, x_25_51, x_25_54, x_25_55, x_25_58, x_25_59, Option.bind_some, Option.bind_none, Option.toList_some, Option.toList_none, List.cons_append, List.nil_append, pNl_i, pNl_r, pNl_u, pNl_n, bI_0, bI_1, nn_or, or_nn, not_false_eq_true, not_true_eq_false, i1000, i1e0, true_or, or_true, Decidable.not_not, if_true, if_false, Bool.false_eq_true, Int32.zero_add, true_and, and_true, cg_4, h3, g4, c1]
    · simp only [x_25_0, x_25_1, x_25_3, x_25_4, x_25_7, x_25_8, x_25_11, x_25_12, x_25_13, x_25_16, x_25_18, x_25_21, x_25_22, x_25_25, x_25_26, x_25_27, x_25_30, x_25_33, x_25_36, x_25_37, x_25_38, x_25_41, x_25_44, x_25_45, x_25_48, x_25_51, x_25_54, x_25_55, x_25_58, x_25_59, Option.bind_some, Option.bind_none, Option.toList_some, Option.toList_none, List.cons_append, List.nil_append, pNl_i, pNl_r, pNl_u, pNl_n, bI_0, bI_1, nn_or, or_nn, not_false_eq_true, not_true_eq_false, i1000, i1e0, true_or, or_true, Decidable.not_not, if_true, if_false, Bool.false_eq_true, Int32.zero_add, true_and, and_true, cg_4, h3, g4, c1]
  have start : qEx 25 (0, [some (.ref o), none], [], cB M o s) = qEx 25 (2, [some (.ref o), some (.int (nI 0))], [], cB M o s) := by
    simp only [x_25_0, x_25_1, x_25_3, x_25_4, x_25_7, x_25_8, x_25_11, x_25_12, x_25_13, x_25_16, x_25_18, x_25_21, x_25_22, x_25_25, x_25_26, x_25_27, x_25_30, x_25_33, x_25_36, x_25_37, x_25_38, x_25_41, x_25_44, x_25_45, x_25_48, x_25_51, x_25_54, x_25_55, x_25_58, x_25_59, Option.bind_some, Option.bind_none, Option.toList_some, Option.toList_none, List.cons_append, List.nil_append, pNl_i, pNl_r, pNl_u, pNl_n, bI_0, bI_1, nn_or, or_nn, not_false_eq_true, not_true_eq_false, i1000, i1e0, true_or, or_true, Decidable.not_not, if_true, if_false, Bool.false_eq_true, Int32.zero_add, true_and, and_true]; rfl
  rw [start]
  unfold idB
  by_cases c0 : s 3 0 = -6 ∧ s 6 0 ≤ 0
  · rw [step 0 (by omega) c0]
    by_cases c1 : s 4 0 = -6 ∧ s 6 1 ≤ 0
    · rw [step 1 (by omega) c1]
      by_cases c2 : s 5 0 = -6 ∧ s 6 2 ≤ 0
      · rw [step 2 (by omega) c2, last]
        by_cases c3 : s 0 4 = 0
        · rw [if_pos c3, decide_eq_true ⟨⟨c0, c1, c2⟩, c3⟩]; rfl
        · rw [if_neg c3, decide_eq_false (fun q => c3 q.2)]; rfl
      · rw [stop 2 (by omega) c2, decide_eq_false (fun q => c2 q.1.2.2)]; rfl
    · rw [stop 1 (by omega) c1, decide_eq_false (fun q => c1 q.1.2.1)]; rfl
  · rw [stop 0 (by omega) c0, decide_eq_false (fun q => c0 q.1.1)]; rfl
/-- to a minute, with nothing to do -/
def skF (s : Sg) (x : Int32) : Sg :=
  let d := (if s 1 4 < x then s 1 4 else x) - s 0 0
  u2 (u2 s 0 3 (s 0 3 + (if d < 0 then 0 else d) * s 1 2)) 0 0 x
theorem s_26 {x : Int32} : qRun 26 [.ref o, .int x] (cB M o s) = some (none, cB M o (skF s x)) := by
  refine qRun_of ?_ rfl
  rw [en_26]
  unfold skF
  simp only [x_26_0, x_26_1, x_26_2, x_26_5, x_26_6, x_26_7, x_26_10, x_26_11, x_26_14, x_26_15, x_26_16, x_26_17, x_26_18, x_26_21, x_26_22, x_26_23, x_26_26, x_26_27, x_26_30, x_26_31, x_26_32, x_26_33, x_26_34, x_26_37, x_26_38, x_26_39, x_26_42, Option.bind_some, Option.bind_none, Option.toList_some, Option.toList_none, List.cons_append, List.nil_append, pNl_i, pNl_r, pNl_u, pNl_n, bI_0, bI_1, nn_or, or_nn, not_false_eq_true, not_true_eq_false, i1000, i1e0, true_or, or_true, Decidable.not_not, if_true, if_false, Bool.false_eq_true, Int32.zero_add, true_and, and_true, cg_0, cg_6, cg_9, cp_9, cp_6, tl (i := 4) (x := 4) (by omega) rfl, tl (i := 2) (x := 2) (by omega) rfl]
def lpS (e : Int32) (s : Sg) : Sg := if s 0 0 < s 0 6 ∧ idB s = true then skF s (if e < s 0 6 then e else s 0 6) else pmF s
def lpF (e : Int32) : Nat → Sg → Sg
  | 0, s => s
  | f + 1, s => if e ≤ s 0 0 then s else lpF e f (lpS e s)
def lpOK (n : Nat) (e : Int32) : Nat → Sg → Prop
  | 0, _ => True
  | f + 1, s => e ≤ s 0 0 ∨ (((s 0 0 < s 0 6 ∧ idB s = true) ∨ pmOK n s) ∧ lpOK n e f (lpS e s))
theorem s_15_0 {x : Int32} (h : maP s x ≠ 0) : qRun 15 [.ref o, .int x] (cB M o s) = some (some (.int (maP s x)), cB M o s) := by
  refine qRun_of ?_ rfl
  rw [en_15]
  unfold maP at h ⊢
  by_cases c1 : 1 ≤ x
  · by_cases c2 : x ≤ 1440 - s 0 0
    · rw [if_pos c1, if_pos c2] at h; exact absurd rfl h
    · simp only [x_15_0, x_15_1, x_15_2, x_15_5, x_15_7, x_15_8, x_15_9, x_15_12, x_15_13, x_15_16, x_15_17, x_15_20, x_15_22, x_15_23, x_15_24, x_15_27, x_15_28, x_15_29, x_15_30, x_15_31, x_15_32, x_15_33, x_15_34, x_15_37, x_15_38, x_15_41, x_15_42, x_15_45, x_15_46, x_15_49, x_15_50, x_15_53, x_15_56, x_15_57, x_15_60, x_15_63, x_15_64, x_15_65, x_15_68, x_15_69, x_15_72, x_15_75, x_15_78, x_15_79, x_15_82, x_15_85, x_15_88, x_15_89, x_15_92, Option.bind_some, Option.bind_none, Option.toList_some, Option.toList_none, List.cons_append, List.nil_append, pNl_i, pNl_r, pNl_u, pNl_n, bI_0, bI_1, nn_or, or_nn, not_false_eq_true, not_true_eq_false, i1000, i1e0, true_or, or_true, Decidable.not_not, if_true, if_false, Bool.false_eq_true, Int32.zero_add, true_and, and_true, cg_6, c1, c2]
  · simp only [x_15_0, x_15_1, x_15_2, x_15_5, x_15_7, x_15_8, x_15_9, x_15_12, x_15_13, x_15_16, x_15_17, x_15_20, x_15_22, x_15_23, x_15_24, x_15_27, x_15_28, x_15_29, x_15_30, x_15_31, x_15_32, x_15_33, x_15_34, x_15_37, x_15_38, x_15_41, x_15_42, x_15_45, x_15_46, x_15_49, x_15_50, x_15_53, x_15_56, x_15_57, x_15_60, x_15_63, x_15_64, x_15_65, x_15_68, x_15_69, x_15_72, x_15_75, x_15_78, x_15_79, x_15_82, x_15_85, x_15_88, x_15_89, x_15_92, Option.bind_some, Option.bind_none, Option.toList_some, Option.toList_none, List.cons_append, List.nil_append, pNl_i, pNl_r, pNl_u, pNl_n, bI_0, bI_1, nn_or, or_nn, not_false_eq_true, not_true_eq_false, i1000, i1e0, true_or, or_true, Decidable.not_not, if_true, if_false, Bool.false_eq_true, Int32.zero_add, true_and, and_true, cg_6, c1]
theorem s_15 {n k : Nat} (h40 : n ≤ 40) (h : maP s (nI k) = 0) (hk : k ≤ 1440) (hok : lpOK n (s 0 0 + nI k) k s) : qRun 15 [.ref o, .int (nI k)] (cB M o s) = some (some (.int (lpF (s 0 0 + nI k) k s 0 0)), cB M o (lpF (s 0 0 + nI k) k s)) := by
  generalize he : s 0 0 + nI k = e at *
  have loop : ∀ (f i : Nat) (t : Sg), i + f = k → lpOK n e f t → qEx 15 (32, [some (.ref o), some (.int (nI k)), some (.int e), some (.int (nI i))], [], cB M o t) = some (some (.int (lpF e f t 0 0)), cB M o (lpF e f t)) := by
    intro f
    induction f with
    | zero =>
      intro i t hi hok
      have : i = k := by omega
      subst this
      rw [x_15_32]
      simp only [x_15_0, x_15_1, x_15_2, x_15_5, x_15_7, x_15_8, x_15_9, x_15_12, x_15_13, x_15_16, x_15_17, x_15_20, x_15_22, x_15_23, x_15_24, x_15_27, x_15_28, x_15_29, x_15_30, x_15_31, x_15_33, x_15_34, x_15_37, x_15_38, x_15_41, x_15_42, x_15_45, x_15_46, x_15_49, x_15_50, x_15_53, x_15_56, x_15_57, x_15_60, x_15_63, x_15_64, x_15_65, x_15_68, x_15_69, x_15_72, x_15_75, x_15_78, x_15_79, x_15_82, x_15_85, x_15_88, x_15_89, x_15_92, Option.bind_some, Option.bind_none, Option.toList_some, Option.toList_none, List.cons_append, List.nil_append, pNl_i, pNl_r, pNl_u, pNl_n, bI_0, bI_1, nn_or, or_nn, not_false_eq_true, not_true_eq_false, i1000, i1e0, true_or, or_true, Decidable.not_not, if_true, if_false, Bool.false_eq_true, Int32.zero_add, true_and, and_true, cg_6, Int32.le_refl]
      rfl
    | succ f ih =>
      intro i t hi hok
      have hlt : (nI k ≤ nI i) = False := by rw [nI_le_iff (by omega) (by omega)]; simp; omega
      rw [show lpF e (f + 1) t = if e ≤ t 0 0 then t else lpF e f (lpS e t) from rfl, x_15_32]
      by_cases c0 : e ≤ t 0 0
      · rw [if_pos c0]
        simp only [x_15_0, x_15_1, x_15_2, x_15_5, x_15_7, x_15_8, x_15_9, x_15_12, x_15_13, x_15_16, x_15_17, x_15_20, x_15_22, x_15_23, x_15_24, x_15_27, x_15_28, x_15_29, x_15_30, x_15_31, x_15_33, x_15_34, x_15_37, x_15_38, x_15_41, x_15_42, x_15_45, x_15_46, x_15_49, x_15_50, x_15_53, x_15_56, x_15_57, x_15_60, x_15_63, x_15_64, x_15_65, x_15_68, x_15_69, x_15_72, x_15_75, x_15_78, x_15_79, x_15_82, x_15_85, x_15_88, x_15_89, x_15_92, Option.bind_some, Option.bind_none, Option.toList_some, Option.toList_none, List.cons_append, List.nil_append, pNl_i, pNl_r, pNl_u, pNl_n, bI_0, bI_1, nn_or, or_nn, not_false_eq_true, not_true_eq_false, i1000, i1e0, true_or, or_true, Decidable.not_not, if_true, if_false, Bool.false_eq_true, Int32.zero_add, true_and, and_true, cg_6, hlt, c0]
      · rw [if_neg c0]
        rcases hok with hok | ⟨hp, hok⟩
        · exact absurd hok c0
        rw [← ih (i + 1) (lpS e t) (by omega) hok]
        unfold lpS at hok ⊢
        by_cases c1 : t 0 0 < t 0 6
        · have c1' : (t 0 6 ≤ t 0 0) = False := eq_false (Int32.not_le.mpr c1)
          have a25 := @s_25 M o t
          by_cases c2 : idB t = true
          · rw [if_pos ⟨c1, c2⟩]
            rw [c2] at a25
            simp only [x_15_0, x_15_1, x_15_2, x_15_5, x_15_7, x_15_8, x_15_9, x_15_12, x_15_13, x_15_16, x_15_17, x_15_20, x_15_22, x_15_23, x_15_24, x_15_27, x_15_28, x_15_29, x_15_30, x_15_31, x_15_33, x_15_34, x_15_37, x_15_38, x_15_41, x_15_42, x_15_45, x_15_46, x_15_49, x_15_50, x_15_53, x_15_56, x_15_57, x_15_60, x_15_63, x_15_64, x_15_65, x_15_68, x_15_69, x_15_72, x_15_75, x_15_78, x_15_79, x_15_82, x_15_85, x_15_88, x_15_89, x_15_92, Option.bind_some, Option.bind_none, Option.toList_some, Option.toList_none, List.cons_append, List.nil_append, pNl_i, pNl_r, pNl_u, pNl_n, bI_0, bI_1, nn_or, or_nn, not_false_eq_true, not_true_eq_false, i1000, i1e0, true_or, or_true, Decidable.not_not, if_true, if_false, Bool.false_eq_true, Int32.zero_add, true_and, and_true, cT, cg_6, cg_10, hlt, c0, c1', a25, bB_t, s_26, nI_1]
          · have c2' : idB t = false := by simpa using c2
            rw [if_neg (fun q => c2 q.2)]
            rw [c2'] at a25
            have a27 := @s_27 M o t n h40 (by
              rcases hp with hp | hp
              · exact absurd hp.2 c2
              · exact hp)
            simp only [x_15_0, x_15_1, x_15_2, x_15_5, x_15_7, x_15_8, x_15_9, x_15_12, x_15_13, x_15_16, x_15_17, x_15_20, x_15_22, x_15_23, x_15_24, x_15_27, x_15_28, x_15_29, x_15_30, x_15_31, x_15_33, x_15_34, x_15_37, x_15_38, x_15_41, x_15_42, x_15_45, x_15_46, x_15_49, x_15_50, x_15_53, x_15_56, x_15_57, x_15_60, x_15_63, x_15_64, x_15_65, x_15_68, x_15_69, x_15_72, x_15_75, x_15_78, x_15_79, x_15_82, x_15_85, x_15_88, x_15_89, x_15_92, Option.bind_some, Option.bind_none, Option.toList_some, Option.toList_none, List.cons_append, List.nil_append, pNl_i, pNl_r, pNl_u, pNl_n, bI_0, bI_1, nn_or, or_nn, not_false_eq_true, not_true_eq_false, i1000, i1e0, true_or, or_true, Decidable.not_not, if_true, if_false, Bool.false_eq_true, Int32.zero_add, true_and, and_true, cT, cg_6, cg_10, hlt, c0, c1', a25, bB_f, a27, nI_1]
        · have c1' : (t 0 6 ≤ t 0 0) = True := eq_true (Int32.not_lt.mp c1)
          rw [if_neg (fun q => c1 q.1)]
          have a27 := @s_27 M o t n h40 (by
            rcases hp with hp | hp
            · exact absurd hp.1 c1
            · exact hp)
          simp only [x_15_0, x_15_1, x_15_2, x_15_5, x_15_7, x_15_8, x_15_9, x_15_12, x_15_13, x_15_16, x_15_17, x_15_20, x_15_22, x_15_23, x_15_24, x_15_27, x_15_28, x_15_29, x_15_30, x_15_31, x_15_33, x_15_34, x_15_37, x_15_38, x_15_41, x_15_42, x_15_45, x_15_46, x_15_49, x_15_50, x_15_53, x_15_56, x_15_57, x_15_60, x_15_63, x_15_64, x_15_65, x_15_68, x_15_69, x_15_72, x_15_75, x_15_78, x_15_79, x_15_82, x_15_85, x_15_88, x_15_89, x_15_92, Option.bind_some, Option.bind_none, Option.toList_some, Option.toList_none, List.cons_append, List.nil_append, pNl_i, pNl_r, pNl_u, pNl_n, bI_0, bI_1, nn_or, or_nn, not_false_eq_true, not_true_eq_false, i1000, i1e0, true_or, or_true, Decidable.not_not, if_true, if_false, Bool.false_eq_true, Int32.zero_add, true_and, and_true, cT, cg_6, cg_10, hlt, c0, c1', a27, nI_1]
  have hl := loop k 0 s (by omega) hok
  refine qRun_of ?_ rfl
  rw [en_15, ← hl]
  unfold maP at h
  by_cases c1 : 1 ≤ nI k
  · rw [if_pos c1] at h
    by_cases c2 : nI k ≤ 1440 - s 0 0
    · simp only [x_15_0, x_15_1, x_15_2, x_15_5, x_15_7, x_15_8, x_15_9, x_15_12, x_15_13, x_15_16, x_15_17, x_15_20, x_15_22, x_15_23, x_15_24, x_15_27, x_15_28, x_15_29, x_15_30, x_15_31, x_15_33, x_15_34, x_15_37, x_15_38, x_15_41, x_15_42, x_15_45, x_15_46, x_15_49, x_15_50, x_15_53, x_15_56, x_15_57, x_15_60, x_15_63, x_15_64, x_15_65, x_15_68, x_15_69, x_15_72, x_15_75, x_15_78, x_15_79, x_15_82, x_15_85, x_15_88, x_15_89, x_15_92, Option.bind_some, Option.bind_none, Option.toList_some, Option.toList_none, List.cons_append, List.nil_append, pNl_i, pNl_r, pNl_u, pNl_n, bI_0, bI_1, nn_or, or_nn, not_false_eq_true, not_true_eq_false, i1000, i1e0, true_or, or_true, Decidable.not_not, if_true, if_false, Bool.false_eq_true, Int32.zero_add, true_and, and_true, cg_6, c1, c2, he]
      rfl
    · rw [if_neg c2] at h; exact absurd h (by decide)
  · rw [if_neg c1] at h; exact absurd h (by decide)
/-- a class's day after k minutes -/
def pmN (s : Sg) (k : Nat) : Sg := itF (fun _ => pmF) k s
theorem s_23 {n N : Nat} (h40 : n ≤ 40) (hn : ∀ k, k ≤ N → pmN s k 0 1 = nI n) (h1 : ∀ k, k < N → pmOK n (pmN s k) ∧ ¬ 1440 ≤ pmN s k 0 0 ∧ alB (pmN s k) n = false) (hN : N ≤ 1440) (h2 : N = 1440 ∨ 1440 ≤ pmN s N 0 0 ∨ alB (pmN s N) n = true) : qRun 23 [.ref o] (cB M o s) = some (some (.int (if alB (pmN s N) n = true then pmN s N 0 0 else -6)), cB M o (pmN s N)) := by
  have fin : ∀ l : Option Value, qEx 23 (36, [some (.ref o), l], [], cB M o (pmN s N)) = some (some (.int (if alB (pmN s N) n = true then pmN s N 0 0 else -6)), cB M o (pmN s N)) := by
    intro l
    have a22 := @s_22 M o (pmN s N) n (hn N (Nat.le_refl _)) h40
    cases c : alB (pmN s N) n with
    | true =>
      rw [c] at a22
      simp only [x_23_0, x_23_1, x_23_2, x_23_3, x_23_6, x_23_9, x_23_10, x_23_13, x_23_16, x_23_19, x_23_20, x_23_23, x_23_26, x_23_27, x_23_30, x_23_33, x_23_36, x_23_37, x_23_40, x_23_43, x_23_44, x_23_47, x_23_50, x_23_52, Option.bind_some, Option.bind_none, Option.toList_some, Option.toList_none, List.cons_append, List.nil_append, pNl_i, pNl_r, pNl_u, pNl_n, bI_0, bI_1, nn_or, or_nn, not_false_eq_true, not_true_eq_false, i1000, i1e0, true_or, or_true, Decidable.not_not, if_true, if_false, Bool.false_eq_true, Int32.zero_add, true_and, and_true, cT, cg_6, a22, bB_t]
    | false =>
      rw [c] at a22
      simp only [x_23_0, x_23_1, x_23_2, x_23_3, x_23_6, x_23_9, x_23_10, x_23_13, x_23_16, x_23_19, x_23_20, x_23_23, x_23_26, x_23_27, x_23_30, x_23_33, x_23_36, x_23_37, x_23_40, x_23_43, x_23_44, x_23_47, x_23_50, x_23_52, Option.bind_some, Option.bind_none, Option.toList_some, Option.toList_none, List.cons_append, List.nil_append, pNl_i, pNl_r, pNl_u, pNl_n, bI_0, bI_1, nn_or, or_nn, not_false_eq_true, not_true_eq_false, i1000, i1e0, true_or, or_true, Decidable.not_not, if_true, if_false, Bool.false_eq_true, Int32.zero_add, true_and, and_true, cT, cg_6, a22, bB_f]
  have loop : ∀ (f i : Nat), i + f = N → qEx 23 (2, [some (.ref o), some (.int (nI i))], [], cB M o (pmN s i)) = some (some (.int (if alB (pmN s N) n = true then pmN s N 0 0 else -6)), cB M o (pmN s N)) := by
    intro f
    induction f with
    | zero =>
      intro i hi
      have : i = N := by omega
      subst this
      rw [x_23_2, ← fin (some (.int (nI i)))]
      by_cases c0 : i = 1440
      · have e : ((1440 : Int32) ≤ nI i) = True := eq_true (by rw [c0]; decide)
        simp only [x_23_0, x_23_1, x_23_3, x_23_6, x_23_9, x_23_10, x_23_13, x_23_16, x_23_19, x_23_20, x_23_23, x_23_26, x_23_27, x_23_30, x_23_33, x_23_37, x_23_40, x_23_43, x_23_44, x_23_47, x_23_50, x_23_52, Option.bind_some, Option.bind_none, Option.toList_some, Option.toList_none, List.cons_append, List.nil_append, pNl_i, pNl_r, pNl_u, pNl_n, bI_0, bI_1, nn_or, or_nn, not_false_eq_true, not_true_eq_false, i1000, i1e0, true_or, or_true, Decidable.not_not, if_true, if_false, Bool.false_eq_true, Int32.zero_add, true_and, and_true, e]
      · have e : ((1440 : Int32) ≤ nI i) = False := eq_false (by rw [show (1440 : Int32) = nI 1440 from rfl, nI_le_iff (by omega) (by omega)]; omega)
        by_cases c1 : 1440 ≤ pmN s i 0 0
        · simp only [x_23_0, x_23_1, x_23_3, x_23_6, x_23_9, x_23_10, x_23_13, x_23_16, x_23_19, x_23_20, x_23_23, x_23_26, x_23_27, x_23_30, x_23_33, x_23_37, x_23_40, x_23_43, x_23_44, x_23_47, x_23_50, x_23_52, Option.bind_some, Option.bind_none, Option.toList_some, Option.toList_none, List.cons_append, List.nil_append, pNl_i, pNl_r, pNl_u, pNl_n, bI_0, bI_1, nn_or, or_nn, not_false_eq_true, not_true_eq_false, i1000, i1e0, true_or, or_true, Decidable.not_not, if_true, if_false, Bool.false_eq_true, Int32.zero_add, true_and, and_true, cg_6, e, c1]
        · have c2 : alB (pmN s i) n = true := by
            rcases h2 with q | q | q
            · exact absurd q c0
            · exact absurd q c1
            · exact q
          have a22 := @s_22 M o (pmN s i) n (hn i (Nat.le_refl _)) h40
          rw [c2] at a22
          simp only [x_23_0, x_23_1, x_23_3, x_23_6, x_23_9, x_23_10, x_23_13, x_23_16, x_23_19, x_23_20, x_23_23, x_23_26, x_23_27, x_23_30, x_23_33, x_23_37, x_23_40, x_23_43, x_23_44, x_23_47, x_23_50, x_23_52, Option.bind_some, Option.bind_none, Option.toList_some, Option.toList_none, List.cons_append, List.nil_append, pNl_i, pNl_r, pNl_u, pNl_n, bI_0, bI_1, nn_or, or_nn, not_false_eq_true, not_true_eq_false, i1000, i1e0, true_or, or_true, Decidable.not_not, if_true, if_false, Bool.false_eq_true, Int32.zero_add, true_and, and_true, cT, cg_6, e, c1, a22, bB_t]
    | succ f ih =>
      intro i hi
      obtain ⟨k1, k2, k3⟩ := h1 i (by omega)
      have e : ((1440 : Int32) ≤ nI i) = False := eq_false (by rw [show (1440 : Int32) = nI 1440 from rfl, nI_le_iff (by omega) (by omega)]; omega)
      have a22 := @s_22 M o (pmN s i) n (hn i (by omega)) h40
      rw [k3] at a22
      have a27 := @s_27 M o (pmN s i) n h40 k1
      rw [show pmF (pmN s i) = pmN s (i + 1) from rfl] at a27
      rw [← ih (i + 1) (by omega), x_23_2]
      simp only [x_23_0, x_23_1, x_23_3, x_23_6, x_23_9, x_23_10, x_23_13, x_23_16, x_23_19, x_23_20, x_23_23, x_23_26, x_23_27, x_23_30, x_23_33, x_23_37, x_23_40, x_23_43, x_23_44, x_23_47, x_23_50, x_23_52, Option.bind_some, Option.bind_none, Option.toList_some, Option.toList_none, List.cons_append, List.nil_append, pNl_i, pNl_r, pNl_u, pNl_n, bI_0, bI_1, nn_or, or_nn, not_false_eq_true, not_true_eq_false, i1000, i1e0, true_or, or_true, Decidable.not_not, if_true, if_false, Bool.false_eq_true, Int32.zero_add, true_and, and_true, cT, cg_6, e, k2, a22, bB_f, a27, nI_1]
  refine qRun_of ?_ rfl
  rw [en_23]
  simp only [x_23_0, x_23_1, x_23_3, x_23_6, x_23_9, x_23_10, x_23_13, x_23_16, x_23_19, x_23_20, x_23_23, x_23_26, x_23_27, x_23_30, x_23_33, x_23_37, x_23_40, x_23_43, x_23_44, x_23_47, x_23_50, x_23_52, Option.bind_some, Option.bind_none, Option.toList_some, Option.toList_none, List.cons_append, List.nil_append, pNl_i, pNl_r, pNl_u, pNl_n, bI_0, bI_1, nn_or, or_nn, not_false_eq_true, not_true_eq_false, i1000, i1e0, true_or, or_true, Decidable.not_not, if_true, if_false, Bool.false_eq_true, Int32.zero_add, true_and, and_true]
  exact loop N 0 (by omega)
def meX (s : Sg) : Nat := nN (s 0 6 + 1 - s 0 0)
def meS (s : Sg) : Sg := lpF (s 0 0 + nI (meX s)) (meX s) s
def meF (n : Nat) (lim : Int32) : Nat → Sg → Sg
  | 0, s => s
  | f + 1, s => if 1440 ≤ s 0 6 then s else if lim < smF s 8 (-6) n then s else meF n lim f (meS s)
def meOK (n : Nat) (lim : Int32) : Nat → Sg → Prop
  | 0, s => s 0 1 = nI n
  | f + 1, s => s 0 1 = nI n ∧ (1440 ≤ s 0 6 ∨ lim < smF s 8 (-6) n ∨ (s 0 6 + 1 - s 0 0 = nI (meX s) ∧ meX s ≤ 1440 ∧ maP s (nI (meX s)) = 0 ∧ lpOK n (s 0 0 + nI (meX s)) (meX s) s ∧ meOK n lim f (meS s)))
theorem me_n {n : Nat} {lim : Int32} {f : Nat} (h : meOK n lim f s) : s 0 1 = nI n := by
  cases f with
  | zero => exact h
  | succ f => exact h.1
theorem s_24 {n : Nat} {lim : Int32} (h40 : n ≤ 40) (h : meOK n lim 1440 s) : qRun 24 [.ref o, .int lim] (cB M o s) = some (some (.int (smF (meF n lim 1440 s) 8 (-6) n)), cB M o (meF n lim 1440 s)) := by
  have loop : ∀ (f i : Nat) (t : Sg), i + f = 1440 → meOK n lim f t → qEx 24 (11, [some (.ref o), some (.int lim), some (.int (smF t 8 (-6) n)), some (.int (nI i))], [], cB M o t) = some (some (.int (smF (meF n lim f t) 8 (-6) n)), cB M o (meF n lim f t)) := by
    intro f
    induction f with
    | zero =>
      intro i t hi hok
      have : i = 1440 := by omega
      subst this
      have e : ((1440 : Int32) ≤ nI 1440) = True := eq_true (by decide)
      rw [x_24_11]
      simp only [x_24_0, x_24_1, x_24_3, x_24_5, x_24_8, x_24_9, x_24_10, x_24_12, x_24_15, x_24_18, x_24_19, x_24_22, x_24_25, x_24_28, x_24_29, x_24_30, x_24_33, x_24_34, x_24_35, x_24_38, x_24_39, x_24_40, x_24_41, x_24_44, x_24_45, x_24_48, x_24_49, x_24_50, x_24_52, x_24_54, x_24_57, x_24_58, x_24_61, x_24_64, x_24_65, Option.bind_some, Option.bind_none, Option.toList_some, Option.toList_none, List.cons_append, List.nil_append, pNl_i, pNl_r, pNl_u, pNl_n, bI_0, bI_1, nn_or, or_nn, not_false_eq_true, not_true_eq_false, i1000, i1e0, true_or, or_true, Decidable.not_not, if_true, if_false, Bool.false_eq_true, Int32.zero_add, true_and, and_true, e]
      rfl
    | succ f ih =>
      intro i t hi hok
      have e : ((1440 : Int32) ≤ nI i) = False := eq_false (by rw [show (1440 : Int32) = nI 1440 from rfl, nI_le_iff (by omega) (by omega)]; omega)
      rw [show meF n lim (f + 1) t = if 1440 ≤ t 0 6 then t else if lim < smF t 8 (-6) n then t else meF n lim f (meS t) from rfl, x_24_11]
      obtain ⟨hn, hok⟩ := hok
      by_cases c1 : 1440 ≤ t 0 6
      · rw [if_pos c1]
        simp only [x_24_0, x_24_1, x_24_3, x_24_5, x_24_8, x_24_9, x_24_10, x_24_12, x_24_15, x_24_18, x_24_19, x_24_22, x_24_25, x_24_28, x_24_29, x_24_30, x_24_33, x_24_34, x_24_35, x_24_38, x_24_39, x_24_40, x_24_41, x_24_44, x_24_45, x_24_48, x_24_49, x_24_50, x_24_52, x_24_54, x_24_57, x_24_58, x_24_61, x_24_64, x_24_65, Option.bind_some, Option.bind_none, Option.toList_some, Option.toList_none, List.cons_append, List.nil_append, pNl_i, pNl_r, pNl_u, pNl_n, bI_0, bI_1, nn_or, or_nn, not_false_eq_true, not_true_eq_false, i1000, i1e0, true_or, or_true, Decidable.not_not, if_true, if_false, Bool.false_eq_true, Int32.zero_add, true_and, and_true, cg_10, e, c1]
      · rw [if_neg c1]
        by_cases c2 : lim < smF t 8 (-6) n
        · rw [if_pos c2]
          simp only [x_24_0, x_24_1, x_24_3, x_24_5, x_24_8, x_24_9, x_24_10, x_24_12, x_24_15, x_24_18, x_24_19, x_24_22, x_24_25, x_24_28, x_24_29, x_24_30, x_24_33, x_24_34, x_24_35, x_24_38, x_24_39, x_24_40, x_24_41, x_24_44, x_24_45, x_24_48, x_24_49, x_24_50, x_24_52, x_24_54, x_24_57, x_24_58, x_24_61, x_24_64, x_24_65, Option.bind_some, Option.bind_none, Option.toList_some, Option.toList_none, List.cons_append, List.nil_append, pNl_i, pNl_r, pNl_u, pNl_n, bI_0, bI_1, nn_or, or_nn, not_false_eq_true, not_true_eq_false, i1000, i1e0, true_or, or_true, Decidable.not_not, if_true, if_false, Bool.false_eq_true, Int32.zero_add, true_and, and_true, cg_10, e, c1, c2]
        · rw [if_neg c2]
          rcases hok with q | q | ⟨q1, q2, q3, q4, q5⟩
          · exact absurd q c1
          · exact absurd q c2
          have a15 := @s_15 M o t n (meX t) h40 q3 q2 q4
          rw [show lpF (t 0 0 + nI (meX t)) (meX t) t = meS t from rfl] at a15
          have a20 := @s_20 M o (meS t) 8 n 8 (-6) (by omega) rfl (me_n q5) h40
          rw [← ih (i + 1) (meS t) (by omega) q5]
          simp only [x_24_0, x_24_1, x_24_3, x_24_5, x_24_8, x_24_9, x_24_10, x_24_12, x_24_15, x_24_18, x_24_19, x_24_22, x_24_25, x_24_28, x_24_29, x_24_30, x_24_33, x_24_34, x_24_35, x_24_38, x_24_39, x_24_40, x_24_41, x_24_44, x_24_45, x_24_48, x_24_49, x_24_50, x_24_52, x_24_54, x_24_57, x_24_58, x_24_61, x_24_64, x_24_65, Option.bind_some, Option.bind_none, Option.toList_some, Option.toList_none, List.cons_append, List.nil_append, pNl_i, pNl_r, pNl_u, pNl_n, bI_0, bI_1, nn_or, or_nn, not_false_eq_true, not_true_eq_false, i1000, i1e0, true_or, or_true, Decidable.not_not, if_true, if_false, Bool.false_eq_true, Int32.zero_add, true_and, and_true, cT, cg_6, cg_10, e, c1, c2, q1, a15, a20, nI_1]
  have hl := loop 1440 0 s (by omega) h
  have a20 := @s_20 M o s 8 n 8 (-6) (by omega) rfl (me_n h) h40
  refine qRun_of ?_ rfl
  rw [en_24, ← hl]
  simp only [x_24_0, x_24_1, x_24_3, x_24_5, x_24_8, x_24_9, x_24_10, x_24_12, x_24_15, x_24_18, x_24_19, x_24_22, x_24_25, x_24_28, x_24_29, x_24_30, x_24_33, x_24_34, x_24_35, x_24_38, x_24_39, x_24_40, x_24_41, x_24_44, x_24_45, x_24_48, x_24_49, x_24_50, x_24_52, x_24_54, x_24_57, x_24_58, x_24_61, x_24_64, x_24_65, Option.bind_some, Option.bind_none, Option.toList_some, Option.toList_none, List.cons_append, List.nil_append, pNl_i, pNl_r, pNl_u, pNl_n, bI_0, bI_1, nn_or, or_nn, not_false_eq_true, not_true_eq_false, i1000, i1e0, true_or, or_true, Decidable.not_not, if_true, if_false, Bool.false_eq_true, Int32.zero_add, true_and, and_true, cT, a20]
  rfl
end CJ
