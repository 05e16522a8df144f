/-! texts, and carrying them out -/
theorem or_le {y : Nat → Nat} {P p : Nat} (h : p ≤ P) : p ≤ (orP y P p).2.2.2.2 ∧ (orP y P p).2.2.2.2 ≤ P ∧ ((orP y P p).1 = true → p + 2 ≤ (orP y P p).2.2.2.2 ∧ knP (srP y P p) ≠ 0 ∧ p < P) := by
  have hlt : knP (srP y P p) ≠ 0 → p < P := by
    intro h
    rcases Nat.lt_or_ge p P with q | q
    · exact q
    · unfold srP at h; rw [if_neg (by omega)] at h; exact absurd rfl h
  unfold orP
  by_cases k3 : knP (srP y P p) = 3
  · rw [if_pos k3]
    have hl := hlt (by omega)
    unfold o3P
    dsimp only
    have b1 := @nu_le y P (p + 1) (by omega)
    by_cases f1 : (nuP y P (p + 1)).1 = false
    · rw [if_pos f1]; simp; omega
    rw [if_neg f1]
    have b2 := @sg_le y P 62 _ b1.2.1
    by_cases f2 : (sgP y P 62 (nuP y P (p + 1)).2.2).1 = false
    · rw [if_pos f2]; simp; omega
    rw [if_neg f2]
    have b3 := @dg_le y P _ b2.2.1
    by_cases f3 : (dgP y P (sgP y P 62 (nuP y P (p + 1)).2.2).2).1 = false
    · rw [if_pos f3]; simp; omega
    rw [if_neg f3]
    have b4 := @sg_le y P 64 _ b3.2.1
    by_cases f4 : (sgP y P 64 (dgP y P (sgP y P 62 (nuP y P (p + 1)).2.2).2).2.2).1 = false
    · rw [if_pos f4]; simp; omega
    rw [if_neg f4]
    have b5 := @nu_le y P _ b4.2.1
    by_cases f5 : (nuP y P (sgP y P 64 (dgP y P (sgP y P 62 (nuP y P (p + 1)).2.2).2).2.2).2).1 = false
    · rw [if_pos f5]; simp; omega
    rw [if_neg f5]
    have q1 := b1.2.2 (by simpa using f1)
    exact ⟨by dsimp only; omega, by dsimp only; omega, fun _ => ⟨by dsimp only; omega, by omega, hl⟩⟩
  rw [if_neg k3]
  by_cases k2 : knP (srP y P p) = 2
  · rw [if_pos k2]
    have hl := hlt (by omega)
    unfold o2P
    dsimp only
    have b1 := @dg_le y P (p + 1) (by omega)
    by_cases f1 : (dgP y P (p + 1)).1 = false
    · rw [if_pos f1]; simp; omega
    rw [if_neg f1]
    have b2 := @sg_le y P 61 _ b1.2.1
    by_cases f2 : (sgP y P 61 (dgP y P (p + 1)).2.2).1 = false
    · rw [if_pos f2]; simp; omega
    rw [if_neg f2]
    have b3 := @nu_le y P _ b2.2.1
    by_cases f3 : (nuP y P (sgP y P 61 (dgP y P (p + 1)).2.2).2).1 = false
    · rw [if_pos f3]; simp; omega
    rw [if_neg f3]
    have q1 := b1.2.2 (by simpa using f1)
    exact ⟨by dsimp only; omega, by dsimp only; omega, fun _ => ⟨by dsimp only; omega, by omega, hl⟩⟩
  rw [if_neg k2]
  by_cases k1 : knP (srP y P p) = 1
  · rw [if_pos k1]
    have hl := hlt (by omega)
    unfold o1P
    dsimp only
    have b1 := @nu_le y P (p + 1) (by omega)
    by_cases f1 : (nuP y P (p + 1)).1 = false
    · rw [if_pos f1]; simp; omega
    rw [if_neg f1]
    have q1 := b1.2.2 (by simpa using f1)
    exact ⟨by dsimp only; omega, by dsimp only; omega, fun _ => ⟨by dsimp only; omega, by omega, hl⟩⟩
  rw [if_neg k1]
  exact ⟨Nat.le_refl _, h, fun q => absurd q (by simp)⟩
/-- a text from a place on: whether it is one, where reading stops, how many orders there are -/
def txL (y : Nat → Nat) (P : Nat) : Nat → Nat → Nat → Bool × Nat × Nat
  | 0, p, o => (false, p, o)
  | f + 1, p, o => if (orP y P p).1 = false then (false, (orP y P p).2.2.2.2, o) else if (sgP y P 59 (orP y P p).2.2.2.2).1 = false then (decide ((orP y P p).2.2.2.2 = P), (orP y P p).2.2.2.2, o + 1) else txL y P f (sgP y P 59 (orP y P p).2.2.2.2).2 (o + 1)
/-- where the k-th order begins -/
def psP (y : Nat → Nat) (P : Nat) : Nat → Nat
  | 0 => 0
  | k + 1 => (orP y P (psP y P k)).2.2.2.2 + 1
section QI
variable {M : qHp} {c : Nat → Int32} {R : Nat → Sg} {A : Nat → Nat → Int32} {y : Nat → Nat} {P : Nat}
def opH (A' : Nat → Nat → Int32) (o u : Nat) (r : qO5) : Prop := r.1 = true ∧ A' 2 (4 * o) = nI u ∧ A' 2 (4 * o + 1) = nI r.2.1 ∧ (knP u ≠ 1 → A' 2 (4 * o + 2) = nI r.2.2.1) ∧ (knP u = 3 → A' 2 (4 * o + 3) = nI r.2.2.2.1)
/-- the first n orders of the pad are laid down -/
def ohH (A' : Nat → Nat → Int32) (y : Nat → Nat) (P n : Nat) : Prop := ∀ k, k < n → opH A' k (srP y P (psP y P k)) (orP y P (psP y P k))
theorem sg_f {ch p : Nat} (h : (sgP y P ch p).1 = false) : (sgP y P ch p).2 = p := by
  unfold sgP at h ⊢
  split
  · rfl
  · rename_i q; rw [if_neg q] at h; exact absurd h (by simp)
theorem sg_t {ch p : Nat} (h : ¬ (sgP y P ch p).1 = false) : (sgP y P ch p).2 = p + 1 := by
  unfold sgP at h ⊢
  split
  · rename_i q; rw [if_pos q] at h; exact absurd rfl h
  · rfl
theorem s_143 (hy : pdOK c A y P) : ∃ A', qRun 143 [.ref 627] (wm M c R A) = some (some (.int (bB (txL y P 81 0 0).1)), wm M (up (up c 2 (nI (txL y P 81 0 0).2.1)) 3 (nI (txL y P 81 0 0).2.2)) R A') ∧ A' 0 = A 0 ∧ A' 1 = A 1 ∧ ohH A' y P (txL y P 81 0 0).2.2 ∧ (txL y P 81 0 0).2.2 ≤ 27 := by
  have hP := hy.1
  have loop : ∀ (f p o : Nat) (A1 : Nat → Nat → Int32), P < p + f → p ≤ P → 3 * o ≤ p → p = psP y P o → A1 0 = A 0 → A1 1 = A 1 → ohH A1 y P o → ∃ A', qEx 143 (12, [some (.ref 627), some (.int 1)], [], wm M (up (up c 2 (nI p)) 3 (nI o)) R A1) = some (some (.int (bB (txL y P f p o).1)), wm M (up (up c 2 (nI (txL y P f p o).2.1)) 3 (nI (txL y P f p o).2.2)) R A') ∧ A' 0 = A 0 ∧ A' 1 = A 1 ∧ ohH A' y P (txL y P f p o).2.2 ∧ (txL y P f p o).2.2 ≤ 27 := by
    intro f
    induction f with
    | zero => intro p o A1 h1 h2; omega
    | succ f ih =>
      intro p o A1 h1 h2 h3 hps a0 a1 hoh
      have cc : ∀ q o', up (up c 2 (nI q)) 3 (nI o') 2 = nI q := fun q o' => (up_n (by omega)).trans up_at
      have cw : ∀ q q' o', up (up (up c 2 (nI q)) 3 (nI o')) 2 (nI q') = up (up c 2 (nI q')) 3 (nI o') := by
        intro q q' o'
        funext j
        unfold up
        by_cases j2 : j = 2
        · subst j2; simp
        · simp [j2]
      have hy1 : pdOK (up (up c 2 (nI p)) 3 (nI o)) A1 y P := pd_up hy rfl a1
      obtain ⟨A2, e1, r0, r1, r2, r3⟩ := @s_142 M (up (up c 2 (nI p)) 3 (nI o)) R A1 y P p o hy1 (cc p o) h2 up_at h3
      have hl := @or_le y P p h2
      rw [cw] at e1
      unfold txL
      by_cases f1 : (orP y P p).1 = false
      · rw [if_pos f1]
        rw [f1] at e1
        refine ⟨A2, ?_, r0.trans a0, r1.trans a1, fun k hk => ?_, by dsimp only; omega⟩
        · rw [x_143_12]
          simp only [x_143_0, x_143_1, x_143_2, x_143_5, x_143_6, x_143_7, x_143_10, x_143_11, x_143_13, x_143_16, x_143_17, x_143_20, x_143_23, x_143_24, x_143_25, x_143_26, x_143_27, x_143_30, x_143_31, x_143_32, x_143_35, x_143_36, x_143_38, x_143_41, x_143_42, x_143_45, x_143_46, x_143_49, x_143_50, x_143_53, x_143_56, x_143_57, x_143_60, x_143_61, Option.bind_some, Option.bind_none, Option.toList_some, Option.toList_none, List.cons_append, List.nil_append, pNl_i, pNl_r, pNl_u, pNl_n, bI_0, bI_1, nn_or, or_nn, not_false_eq_true, not_true_eq_false, i1000, i1e0, true_or, or_true, Decidable.not_not, if_true, if_false, Bool.false_eq_true, Int32.zero_add, true_and, and_true, wm_T, wg_0, wg_1, wg_2, wg_3, wg_4, wg_5, wg_6, wg_7, wg_8, wg_9, wg_10, wp_3, wp_7, wp_8, wp_10, e1, bB_f]
        · obtain ⟨q1, q2, q3, q4, q5⟩ := hoh k hk
          refine ⟨q1, ?_, ?_, fun z => ?_, fun z => ?_⟩
          · rw [r2 _ (by dsimp only at hk; omega)]; exact q2
          · rw [r2 _ (by dsimp only at hk; omega)]; exact q3
          · rw [r2 _ (by dsimp only at hk; omega)]; exact q4 z
          · rw [r2 _ (by dsimp only at hk; omega)]; exact q5 z
      · rw [if_neg f1]
        have f1' : (orP y P p).1 = true := by simpa using f1
        rw [f1'] at e1
        have hl2 := hl.2.2 f1'
        have g1 : ohH A2 y P (o + 1) := by
          intro k hk
          rcases Nat.lt_or_ge k o with q | q
          · obtain ⟨q1, q2, q3, q4, q5⟩ := hoh k q
            refine ⟨q1, ?_, ?_, fun z => ?_, fun z => ?_⟩
            · rw [r2 _ (by omega)]; exact q2
            · rw [r2 _ (by omega)]; exact q3
            · rw [r2 _ (by omega)]; exact q4 z
            · rw [r2 _ (by omega)]; exact q5 z
          · have : k = o := by omega
            subst this
            rw [← hps]
            exact ⟨f1', r3 f1'⟩
        have e2 := @s_139 M (up (up c 2 (nI (orP y P p).2.2.2.2)) 3 (nI (o + 1))) R A2 y P (orP y P p).2.2.2.2 59 (pd_up hy rfl (r1.trans a1)) (cc _ _) (by omega) (by omega)
        rw [cw, show nI 59 = 59 from rfl] at e2
        have u3 : up (up (up c 2 (nI (orP y P p).2.2.2.2)) 3 (nI o)) 3 (nI (o + 1)) = up (up c 2 (nI (orP y P p).2.2.2.2)) 3 (nI (o + 1)) := up_u
        have u4 : up (up c 2 (nI (orP y P p).2.2.2.2)) 3 (nI o) 3 = nI o := up_at
        by_cases f2 : (sgP y P 59 (orP y P p).2.2.2.2).1 = false
        · rw [if_pos f2]
          have f3 := sg_f f2
          rw [f2, f3] at e2
          have c1 : up (up c 2 (nI (orP y P p).2.2.2.2)) 3 (nI (o + 1)) 1 = nI P := (up_n (by omega)).trans ((up_n (by omega)).trans hy.2.1)
          have c3 : (nI (orP y P p).2.2.2.2 = nI P) = ((orP y P p).2.2.2.2 = P) := nI_eq_iff (by omega) (by omega)
          refine ⟨A2, ?_, r0.trans a0, r1.trans a1, g1, by dsimp only; omega⟩
          rw [x_143_12]
          by_cases c2 : (orP y P p).2.2.2.2 = P
          · rw [decide_eq_true c2]
            have c4 := eq_true c2
            simp only [x_143_0, x_143_1, x_143_2, x_143_5, x_143_6, x_143_7, x_143_10, x_143_11, x_143_12, x_143_13, x_143_16, x_143_17, x_143_20, x_143_23, x_143_24, x_143_25, x_143_26, x_143_27, x_143_30, x_143_31, x_143_32, x_143_35, x_143_36, x_143_38, x_143_41, x_143_42, x_143_45, x_143_46, x_143_49, x_143_50, x_143_53, x_143_56, x_143_57, x_143_60, x_143_61, Option.bind_some, Option.bind_none, Option.toList_some, Option.toList_none, List.cons_append, List.nil_append, pNl_i, pNl_r, pNl_u, pNl_n, bI_0, bI_1, nn_or, or_nn, not_false_eq_true, not_true_eq_false, i1000, i1e0, true_or, or_true, Decidable.not_not, if_true, if_false, Bool.false_eq_true, Int32.zero_add, true_and, and_true, wm_T, wg_0, wg_1, wg_2, wg_3, wg_4, wg_5, wg_6, wg_7, wg_8, wg_9, wg_10, wp_3, wp_7, wp_8, wp_10, e1, bB_t, u3, u4, nI_1, e2, bB_f, cc, c1, c3, c4]
          · rw [decide_eq_false c2]
            simp only [x_143_0, x_143_1, x_143_2, x_143_5, x_143_6, x_143_7, x_143_10, x_143_11, x_143_12, x_143_13, x_143_16, x_143_17, x_143_20, x_143_23, x_143_24, x_143_25, x_143_26, x_143_27, x_143_30, x_143_31, x_143_32, x_143_35, x_143_36, x_143_38, x_143_41, x_143_42, x_143_45, x_143_46, x_143_49, x_143_50, x_143_53, x_143_56, x_143_57, x_143_60, x_143_61, Option.bind_some, Option.bind_none, Option.toList_some, Option.toList_none, List.cons_append, List.nil_append, pNl_i, pNl_r, pNl_u, pNl_n, bI_0, bI_1, nn_or, or_nn, not_false_eq_true, not_true_eq_false, i1000, i1e0, true_or, or_true, Decidable.not_not, if_true, if_false, Bool.false_eq_true, Int32.zero_add, true_and, and_true, wm_T, wg_0, wg_1, wg_2, wg_3, wg_4, wg_5, wg_6, wg_7, wg_8, wg_9, wg_10, wp_3, wp_7, wp_8, wp_10, e1, bB_t, u3, u4, nI_1, e2, bB_f, cc, c1, c3, c2]
        · rw [if_neg f2]
          have f4 := sg_t f2
          have f2' : (sgP y P 59 (orP y P p).2.2.2.2).1 = true := by simpa using f2
          have b1 := @sg_le y P 59 (orP y P p).2.2.2.2 hl.2.1
          rw [f2'] at e2
          obtain ⟨A3, e3⟩ := ih (sgP y P 59 (orP y P p).2.2.2.2).2 (o + 1) A2 (by omega) b1.2.1 (by omega) (by rw [f4, hps]; rfl) (r0.trans a0) (r1.trans a1) g1
          refine ⟨A3, ?_, e3.2⟩
          rw [x_143_12]
          simp only [x_143_0, x_143_1, x_143_2, x_143_5, x_143_6, x_143_7, x_143_10, x_143_11, x_143_13, x_143_16, x_143_17, x_143_20, x_143_23, x_143_24, x_143_25, x_143_26, x_143_27, x_143_30, x_143_31, x_143_32, x_143_35, x_143_36, x_143_38, x_143_41, x_143_42, x_143_45, x_143_46, x_143_49, x_143_50, x_143_53, x_143_56, x_143_57, x_143_60, x_143_61, Option.bind_some, Option.bind_none, Option.toList_some, Option.toList_none, List.cons_append, List.nil_append, pNl_i, pNl_r, pNl_u, pNl_n, bI_0, bI_1, nn_or, or_nn, not_false_eq_true, not_true_eq_false, i1000, i1e0, true_or, or_true, Decidable.not_not, if_true, if_false, Bool.false_eq_true, Int32.zero_add, true_and, and_true, wm_T, wg_0, wg_1, wg_2, wg_3, wg_4, wg_5, wg_6, wg_7, wg_8, wg_9, wg_10, wp_3, wp_7, wp_8, wp_10, e1, bB_t, u3, u4, nI_1, e2]
          exact e3.1
  obtain ⟨A', h1, h2⟩ := loop 81 0 0 A (by omega) (by omega) (by omega) rfl rfl rfl (fun k hk => by omega)
  refine ⟨A', ?_, h2⟩
  refine qRun_of ?_ rfl
  rw [en_143, ← h1]
  simp only [x_143_0, x_143_1, x_143_2, x_143_5, x_143_6, x_143_7, x_143_10, x_143_11, x_143_13, x_143_16, x_143_17, x_143_20, x_143_23, x_143_24, x_143_25, x_143_26, x_143_27, x_143_30, x_143_31, x_143_32, x_143_35, x_143_36, x_143_38, x_143_41, x_143_42, x_143_45, x_143_46, x_143_49, x_143_50, x_143_53, x_143_56, x_143_57, x_143_60, x_143_61, Option.bind_some, Option.bind_none, Option.toList_some, Option.toList_none, List.cons_append, List.nil_append, pNl_i, pNl_r, pNl_u, pNl_n, bI_0, bI_1, nn_or, or_nn, not_false_eq_true, not_true_eq_false, i1000, i1e0, true_or, or_true, Decidable.not_not, if_true, if_false, Bool.false_eq_true, Int32.zero_add, true_and, and_true, wm_T, wg_0, wg_1, wg_2, wg_3, wg_4, wg_5, wg_6, wg_7, wg_8, wg_9, wg_10, wp_3, wp_7, wp_8, wp_10]
  rfl
theorem s_144 (hy : pdOK c A y P) : ∃ A', qRun 144 [.ref 627] (wm M c R A) = some (some (.int (if (txL y P 81 0 0).1 = true then -6 else nI (txL y P 81 0 0).2.1)), wm M (up (up c 2 (nI (txL y P 81 0 0).2.1)) 3 (nI (txL y P 81 0 0).2.2)) R A') ∧ A' 0 = A 0 ∧ A' 1 = A 1 := by
  obtain ⟨A', h1, h2, h3, h4⟩ := @s_143 M c R A y P hy
  refine ⟨A', ?_, h2, h3⟩
  have cc : ∀ q o', up (up c 2 (nI q)) 3 (nI o') 2 = nI q := fun q o' => (up_n (by omega)).trans up_at
  refine qRun_of ?_ rfl
  rw [en_144]
  cases f1 : (txL y P 81 0 0).1 with
  | false =>
    rw [f1] at h1
    simp only [x_144_0, x_144_1, x_144_4, x_144_7, x_144_9, x_144_12, x_144_13, x_144_16, Option.bind_some, Option.bind_none, Option.toList_some, Option.toList_none, List.cons_append, List.nil_append, pNl_i, pNl_r, pNl_u, pNl_n, bI_0, bI_1, nn_or, or_nn, not_false_eq_true, not_true_eq_false, i1000, i1e0, true_or, or_true, Decidable.not_not, if_true, if_false, Bool.false_eq_true, Int32.zero_add, true_and, and_true, wm_T, wg_0, wg_1, wg_2, wg_3, wg_4, wg_5, wg_6, wg_7, wg_8, wg_9, wg_10, wp_3, wp_7, wp_8, wp_10, h1, bB_f, cc]
  | true =>
    rw [f1] at h1
    simp only [x_144_0, x_144_1, x_144_4, x_144_7, x_144_9, x_144_12, x_144_13, x_144_16, Option.bind_some, Option.bind_none, Option.toList_some, Option.toList_none, List.cons_append, List.nil_append, pNl_i, pNl_r, pNl_u, pNl_n, bI_0, bI_1, nn_or, or_nn, not_false_eq_true, not_true_eq_false, i1000, i1e0, true_or, or_true, Decidable.not_not, if_true, if_false, Bool.false_eq_true, Int32.zero_add, true_and, and_true, wm_T, wg_0, wg_1, wg_2, wg_3, wg_4, wg_5, wg_6, wg_7, wg_8, wg_9, wg_10, wp_3, wp_7, wp_8, wp_10, h1, bB_t, cc]
end QI
