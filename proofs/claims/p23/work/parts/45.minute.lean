/-! the class: what a minute is made of -/
section CG
variable {M : qHp} {o : Nat} {s : Sg}
theorem s_21 {n : Nat} {d : Int32} (hn : s 0 1 = nI n) (h40 : n ≤ 40) : qRun 21 [.ref o, .int d] (cB M o s) = some (some (.long (dyF s d n)), cB M o s) := by
  have loop : ∀ (k i : Nat), i + k = n → qEx 21 (5, [some (.ref o), some (.int d), some (.long (dyF s d i)), none, some (.int (nI i))], [], cB M o s) = some (some (.long (dyF s d n)), cB M o s) := by
    intro k
    induction k with
    | zero =>
      intro i hi
      have hin : i = n := by omega
      subst hin
      rw [x_21_5]
      simp only [x_21_0, x_21_1, x_21_2, x_21_3, x_21_7, x_21_8, x_21_11, x_21_14, x_21_15, x_21_18, x_21_20, x_21_21, x_21_24, x_21_25, x_21_28, x_21_29, x_21_30, x_21_32, x_21_33, x_21_34, x_21_35, x_21_38, x_21_41, x_21_42, Option.bind_some, Option.bind_none, Option.toList_some, Option.toList_none, List.cons_append, List.nil_append, pNl_i, pNl_r, pNl_u, pNl_n, bI_0, bI_1, nn_or, or_nn, not_false_eq_true, not_true_eq_false, i1000, i1e0, true_or, or_true, Decidable.not_not, if_true, if_false, Bool.false_eq_true, Int32.zero_add, true_and, and_true, cg_5, hn, Int32.le_refl]
    | succ k ih =>
      intro i hi
      have hlt : (nI n ≤ nI i) = False := by rw [nI_le_iff (by omega) (by omega)]; simp; omega
      have hb : i < 40 := by omega
      rw [← ih (i + 1) (by omega), x_21_5]
      rw [show dyF s d (i + 1) = dyF s d i ||| (if s (11 + i) 9 = d then 1 <<< ((nI i).toInt64 &&& 63) else 0) from rfl]
      by_cases c1 : s (11 + i) 9 = d
      · simp only [x_21_0, x_21_1, x_21_2, x_21_3, x_21_7, x_21_8, x_21_11, x_21_14, x_21_15, x_21_18, x_21_20, x_21_21, x_21_24, x_21_25, x_21_28, x_21_29, x_21_30, x_21_32, x_21_33, x_21_34, x_21_35, x_21_38, x_21_41, x_21_42, Option.bind_some, Option.bind_none, Option.toList_some, Option.toList_none, List.cons_append, List.nil_append, pNl_i, pNl_r, pNl_u, pNl_n, bI_0, bI_1, nn_or, or_nn, not_false_eq_true, not_true_eq_false, i1000, i1e0, true_or, or_true, Decidable.not_not, if_true, if_false, Bool.false_eq_true, Int32.zero_add, true_and, and_true, cg_5, cg_2, hn, hlt, bA hb, bg hb, Nat.reduceLT, c1, nI_1]
      · simp only [x_21_0, x_21_1, x_21_2, x_21_3, x_21_7, x_21_8, x_21_11, x_21_14, x_21_15, x_21_18, x_21_20, x_21_21, x_21_24, x_21_25, x_21_28, x_21_29, x_21_30, x_21_32, x_21_33, x_21_34, x_21_35, x_21_38, x_21_41, x_21_42, Option.bind_some, Option.bind_none, Option.toList_some, Option.toList_none, List.cons_append, List.nil_append, pNl_i, pNl_r, pNl_u, pNl_n, bI_0, bI_1, nn_or, or_nn, not_false_eq_true, not_true_eq_false, i1000, i1e0, true_or, or_true, Decidable.not_not, if_true, if_false, Bool.false_eq_true, Int32.zero_add, true_and, and_true, cg_5, cg_2, hn, hlt, bA hb, bg hb, Nat.reduceLT, c1, nI_1, Int64.or_zero]
  refine qRun_of ?_ rfl
  rw [en_21]
  simp only [x_21_0, x_21_1, x_21_2, x_21_3, x_21_7, x_21_8, x_21_11, x_21_14, x_21_15, x_21_18, x_21_20, x_21_21, x_21_24, x_21_25, x_21_28, x_21_29, x_21_30, x_21_32, x_21_33, x_21_34, x_21_35, x_21_38, x_21_41, x_21_42, Option.bind_some, Option.bind_none, Option.toList_some, Option.toList_none, List.cons_append, List.nil_append, pNl_i, pNl_r, pNl_u, pNl_n, bI_0, bI_1, nn_or, or_nn, not_false_eq_true, not_true_eq_false, i1000, i1e0, true_or, or_true, Decidable.not_not, if_true, if_false, Bool.false_eq_true, Int32.zero_add, true_and, and_true]
  exact loop n 0 (by omega)
/-- nothing is left of the first n batches -/
def alB (s : Sg) : Nat → Bool
  | 0 => true
  | b + 1 => alB s b && decide (s (11 + b) 4 = 0 ∧ s (11 + b) 5 = 0)
theorem al_m {k n : Nat} (h : k ≤ n) (h1 : alB s k = false) : alB s n = false := by
  induction n with
  | zero =>
    have : k = 0 := by omega
    subst this; exact h1
  | succ n ih =>
    rcases Nat.lt_or_ge k (n + 1) with q | q
    · show (alB s n && _) = false
      rw [ih (by omega)]; rfl
    · have : k = n + 1 := by omega
      subst this; exact h1
theorem s_22 {n : Nat} (hn : s 0 1 = nI n) (h40 : n ≤ 40) : qRun 22 [.ref o] (cB M o s) = some (some (.int (bB (alB s n))), cB M o s) := by
  have loop : ∀ (k i : Nat), i + k = n → alB s i = true → qEx 22 (2, [some (.ref o), some (.int (nI i))], [], cB M o s) = some (some (.int (bB (alB s n))), cB M o s) := by
    intro k
    induction k with
    | zero =>
      intro i hi ht
      have hin : i = n := by omega
      subst hin
      rw [x_22_2, ht]
      simp only [x_22_0, x_22_1, x_22_3, x_22_4, x_22_7, x_22_10, x_22_11, x_22_14, x_22_15, x_22_16, x_22_19, x_22_22, x_22_23, x_22_24, x_22_27, x_22_30, x_22_31, Option.bind_some, Option.bind_none, Option.toList_some, Option.toList_none, List.cons_append, List.nil_append, pNl_i, pNl_r, pNl_u, pNl_n, bI_0, bI_1, nn_or, or_nn, not_false_eq_true, not_true_eq_false, i1000, i1e0, true_or, or_true, Decidable.not_not, if_true, if_false, Bool.false_eq_true, Int32.zero_add, true_and, and_true, cg_5, hn, Int32.le_refl]
      rfl
    | succ k ih =>
      intro i hi ht
      have hlt : (nI n ≤ nI i) = False := by rw [nI_le_iff (by omega) (by omega)]; simp; omega
      have hb : i < 40 := by omega
      have e : alB s (i + 1) = (alB s i && decide (s (11 + i) 4 = 0 ∧ s (11 + i) 5 = 0)) := rfl
      rw [x_22_2]
      by_cases c1 : s (11 + i) 4 = 0 ∧ s (11 + i) 5 = 0
      · rw [ht, decide_eq_true c1] at e
        have h4 := @s_4 M o s i hb
        rw [show bI (s (11 + i) 4 = 0 ∧ s (11 + i) 5 = 0) = 1 from if_pos c1] at h4
        rw [← ih (i + 1) (by omega) e]
        simp only [x_22_0, x_22_1, x_22_3, x_22_4, x_22_7, x_22_10, x_22_11, x_22_14, x_22_15, x_22_16, x_22_19, x_22_22, x_22_23, x_22_24, x_22_27, x_22_30, x_22_31, Option.bind_some, Option.bind_none, Option.toList_some, Option.toList_none, List.cons_append, List.nil_append, pNl_i, pNl_r, pNl_u, pNl_n, bI_0, bI_1, nn_or, or_nn, not_false_eq_true, not_true_eq_false, i1000, i1e0, true_or, or_true, Decidable.not_not, if_true, if_false, Bool.false_eq_true, Int32.zero_add, true_and, and_true, cg_5, cg_2, hn, hlt, bA hb, bT hb, h4, nI_1]
      · rw [decide_eq_false c1, Bool.and_false] at e
        rw [al_m (show i + 1 ≤ n by omega) e]
        have h4 := @s_4 M o s i hb
        rw [show bI (s (11 + i) 4 = 0 ∧ s (11 + i) 5 = 0) = 0 from if_neg c1] at h4
        simp only [x_22_0, x_22_1, x_22_3, x_22_4, x_22_7, x_22_10, x_22_11, x_22_14, x_22_15, x_22_16, x_22_19, x_22_22, x_22_23, x_22_24, x_22_27, x_22_30, x_22_31, Option.bind_some, Option.bind_none, Option.toList_some, Option.toList_none, List.cons_append, List.nil_append, pNl_i, pNl_r, pNl_u, pNl_n, bI_0, bI_1, nn_or, or_nn, not_false_eq_true, not_true_eq_false, i1000, i1e0, true_or, or_true, Decidable.not_not, if_true, if_false, Bool.false_eq_true, Int32.zero_add, true_and, and_true, cg_5, cg_2, hn, hlt, bA hb, bT hb, h4, bB_f]
  refine qRun_of ?_ rfl
  rw [en_22]
  simp only [x_22_0, x_22_1, x_22_3, x_22_4, x_22_7, x_22_10, x_22_11, x_22_14, x_22_15, x_22_16, x_22_19, x_22_22, x_22_23, x_22_24, x_22_27, x_22_30, x_22_31, Option.bind_some, Option.bind_none, Option.toList_some, Option.toList_none, List.cons_append, List.nil_append, pNl_i, pNl_r, pNl_u, pNl_n, bI_0, bI_1, nn_or, or_nn, not_false_eq_true, not_true_eq_false, i1000, i1e0, true_or, or_true, Decidable.not_not, if_true, if_false, Bool.false_eq_true, Int32.zero_add, true_and, and_true]
  exact loop n 0 (by omega) rfl
/-- batches come -/
def ltS (b : Nat) (s : Sg) : Sg := if s (11 + b) 3 = s 0 0 then ccF (u2 (u2 s (7 + nN (s (11 + b) 0)) (nN (s 6 (nN (s (11 + b) 0)))) (nI b)) 6 (nN (s (11 + b) 0)) (nI (nN (s 6 (nN (s (11 + b) 0))) + 1))) b (s 2 (nN (s (11 + b) 2))) else s
def ltOK (n : Nat) (s : Sg) (b : Nat) : Prop := s 0 1 = nI n ∧ ∃ m r, m < 3 ∧ r < 8 ∧ s (11 + b) 0 = nI m ∧ s (11 + b) 2 = nI r ∧ (s (11 + b) 3 = s 0 0 → ∃ q, q < 40 ∧ s 6 m = nI q)
theorem s_28 {n : Nat} (hn : n ≤ 40) (h1 : ∀ b, b < n → ltOK n (itF ltS b s) b) (h2 : (itF ltS n s) 0 1 = nI n) : qRun 28 [.ref o] (cB M o s) = some (none, cB M o (itF ltS n s)) := by
  have loop : ∀ (k b : Nat) (l2 l3 : Option Value), qNl (some l2) = true → qNl (some l3) = true → b + k = n → qEx 28 (2, [some (.ref o), some (.int (nI b)), l2, l3], [], cB M o (itF ltS b s)) = some (none, cB M o (itF ltS n s)) := by
    intro k
    induction k with
    | zero =>
      intro b l2 l3 n2 n3 hb
      have hbn : b = n := by omega
      subst hbn
      rw [x_28_2]
      simp only [x_28_0, x_28_1, x_28_3, x_28_4, x_28_7, x_28_10, x_28_11, x_28_14, x_28_15, x_28_16, x_28_17, x_28_18, x_28_19, x_28_22, x_28_25, x_28_26, x_28_27, x_28_30, x_28_31, x_28_34, x_28_37, x_28_38N, x_28_38, x_28_41, x_28_42, x_28_45, x_28_46, x_28_49, x_28_50, x_28_51, x_28_52, x_28_55, x_28_58, x_28_61, x_28_64, x_28_67, Option.bind_some, Option.bind_none, Option.toList_some, Option.toList_none, List.cons_append, List.nil_append, pNl_i, pNl_r, pNl_u, pNl_n, bI_0, bI_1, nn_or, or_nn, not_false_eq_true, not_true_eq_false, i1000, i1e0, true_or, or_true, Decidable.not_not, if_true, if_false, Bool.false_eq_true, Int32.zero_add, true_and, and_true, cg_5, h2, Int32.le_refl]
    | succ k ih =>
      intro b l2 l3 n2 n3 hb
      have hb40 : b < 40 := by omega
      obtain ⟨hm, m, r, hm3, hr8, e0, e2, hc⟩ := h1 b (by omega)
      have hlt : (nI n ≤ nI b) = False := by rw [nI_le_iff (by omega) (by omega)]; simp; omega
      have ih2 := fun l2 l3 n2 n3 => ih (b + 1) l2 l3 n2 n3 (by omega)
      have hst : itF ltS (b + 1) s = ltS b (itF ltS b s) := rfl
      rw [hst] at ih2
      generalize itF ltS b s = t at hm hc ih2 e0 e2 ⊢
      rw [x_28_2]
      by_cases he : t (11 + b) 3 = t 0 0
      · obtain ⟨q, hq40, e6⟩ := hc he
        have hcm : ltS b t = ccF (u2 (u2 t (7 + m) q (nI b)) 6 m (nI (q + 1))) b (t 2 r) := by
          unfold ltS
          rw [if_pos he, e0, e2, nN_nI (by omega), nN_nI (by omega), e6, nN_nI (by omega)]
        rw [hcm] at ih2
        have a1 := @s_61 M o t (o + 48 + 3 * m) (7 + m) 6 m q (rw_q hm3) (nI b) e6 hq40
        have g2 : ∀ s' : Sg, s' = u2 (u2 t (7 + m) q (nI b)) 6 m (nI (q + 1)) → s' (11 + b) 2 = nI r ∧ s' 2 r = t 2 r := by
          intro s' hs'
          subst hs'
          constructor
          · rw [u2_at, if_neg (by omega), u2_at, if_neg (by omega)]; exact e2
          · rw [u2_at, if_neg (by omega), u2_at, if_neg (by omega)]
        generalize hs' : u2 (u2 t (7 + m) q (nI b)) 6 m (nI (q + 1)) = s' at *
        obtain ⟨g3, g4⟩ := g2 s' rfl
        simp only [x_28_0, x_28_1, x_28_3, x_28_4, x_28_7, x_28_10, x_28_11, x_28_14, x_28_15, x_28_16, x_28_17, x_28_18, x_28_19, x_28_22, x_28_25, x_28_26, x_28_27, x_28_30, x_28_31, x_28_34, x_28_37, x_28_38N, x_28_38, x_28_41, x_28_42, x_28_45, x_28_46, x_28_49, x_28_50, x_28_51, x_28_52, x_28_55, x_28_58, x_28_61, x_28_64, x_28_67, Option.bind_some, Option.bind_none, Option.toList_some, Option.toList_none, List.cons_append, List.nil_append, pNl_i, pNl_r, pNl_u, pNl_n, bI_0, bI_1, nn_or, or_nn, not_false_eq_true, not_true_eq_false, i1000, i1e0, true_or, or_true, Decidable.not_not, if_true, if_false, Bool.false_eq_true, Int32.zero_add, true_and, and_true, n2, n3, cT, cg_5, cg_2, cg_6, hm, hlt, bA hb40, bT hb40, bg hb40, Nat.reduceLT, he, e0, s_18 hm3, mg_0 hm3, rT (rw_q hm3), a1, g3, s_19 hr8, g4, s_6 hb40, nI_1]
        exact ih2 _ _ rfl rfl
      · have hcm : ltS b t = t := by unfold ltS; rw [if_neg he]
        rw [hcm] at ih2
        simp only [x_28_0, x_28_1, x_28_3, x_28_4, x_28_7, x_28_10, x_28_11, x_28_14, x_28_15, x_28_16, x_28_17, x_28_18, x_28_19, x_28_22, x_28_25, x_28_26, x_28_27, x_28_30, x_28_31, x_28_34, x_28_37, x_28_38N, x_28_38, x_28_41, x_28_42, x_28_45, x_28_46, x_28_49, x_28_50, x_28_51, x_28_52, x_28_55, x_28_58, x_28_61, x_28_64, x_28_67, Option.bind_some, Option.bind_none, Option.toList_some, Option.toList_none, List.cons_append, List.nil_append, pNl_i, pNl_r, pNl_u, pNl_n, bI_0, bI_1, nn_or, or_nn, not_false_eq_true, not_true_eq_false, i1000, i1e0, true_or, or_true, Decidable.not_not, if_true, if_false, Bool.false_eq_true, Int32.zero_add, true_and, and_true, n2, n3, cT, cg_5, cg_2, cg_6, hm, hlt, bA hb40, bT hb40, bg hb40, Nat.reduceLT, he, e0, s_18 hm3, nI_1]
        exact ih2 _ _ rfl rfl
  refine qRun_of ?_ rfl
  rw [en_28]
  rw [x_28_0, x_28_1 pNl_r]
  exact loop n 0 none none rfl rfl (by omega)
/-- what is sorted goes -/
def lgS (b : Nat) (s : Sg) : Sg := if s (11 + b) 3 ≤ s 0 0 ∧ s 2 (nN (s (11 + b) 2)) = s 0 0 then cgF s b else s
theorem s_29 {n : Nat} (hn : n ≤ 40) (h1 : ∀ b, b ≤ n → (itF lgS b s) 0 1 = nI n) (h2 : ∀ b, b < n → ∃ r, r < 8 ∧ (itF lgS b s) (11 + b) 2 = nI r) : qRun 29 [.ref o] (cB M o s) = some (none, cB M o (itF lgS n s)) := by
  have loop : ∀ (k b : Nat) (l2 : Option Value), qNl (some l2) = true → b + k = n → qEx 29 (2, [some (.ref o), some (.int (nI b)), l2], [], cB M o (itF lgS b s)) = some (none, cB M o (itF lgS n s)) := by
    intro k
    induction k with
    | zero =>
      intro b l2 n2 hb
      have hbn : b = n := by omega
      subst hbn
      rw [x_29_2]
      simp only [x_29_0, x_29_1, x_29_3, x_29_4, x_29_7, x_29_10, x_29_11, x_29_14, x_29_15, x_29_16, x_29_17, x_29_18, x_29_21, x_29_22, x_29_25, x_29_28, x_29_29, x_29_30, x_29_33, x_29_36, x_29_37, x_29_40, x_29_43, x_29_44, x_29_47, x_29_50, x_29_53, Option.bind_some, Option.bind_none, Option.toList_some, Option.toList_none, List.cons_append, List.nil_append, pNl_i, pNl_r, pNl_u, pNl_n, bI_0, bI_1, nn_or, or_nn, not_false_eq_true, not_true_eq_false, i1000, i1e0, true_or, or_true, Decidable.not_not, if_true, if_false, Bool.false_eq_true, Int32.zero_add, true_and, and_true, cg_5, h1 b (Nat.le_refl _), Int32.le_refl]
    | succ k ih =>
      intro b l2 n2 hb
      have hb40 : b < 40 := by omega
      have hm := h1 b (by omega)
      obtain ⟨r, hr8, e2⟩ := h2 b (by omega)
      have hlt : (nI n ≤ nI b) = False := by rw [nI_le_iff (by omega) (by omega)]; simp; omega
      have ih2 := fun l2 n2 => ih (b + 1) l2 n2 (by omega)
      have hst : itF lgS (b + 1) s = lgS b (itF lgS b s) := rfl
      rw [hst] at ih2
      generalize itF lgS b s = t at hm ih2 e2 ⊢
      unfold lgS at ih2
      rw [e2, nN_nI (by omega)] at ih2
      have ngt : (t 0 0 < t (11 + b) 3) = ¬ t (11 + b) 3 ≤ t 0 0 := propext Int32.not_le.symm
      rw [x_29_2]
      by_cases c1 : t (11 + b) 3 ≤ t 0 0
      · by_cases c2 : t 2 r = t 0 0
        · rw [if_pos ⟨c1, c2⟩] at ih2
          simp only [x_29_0, x_29_1, x_29_3, x_29_4, x_29_7, x_29_10, x_29_11, x_29_14, x_29_15, x_29_16, x_29_17, x_29_18, x_29_21, x_29_22, x_29_25, x_29_28, x_29_29, x_29_30, x_29_33, x_29_36, x_29_37, x_29_40, x_29_43, x_29_44, x_29_47, x_29_50, x_29_53, Option.bind_some, Option.bind_none, Option.toList_some, Option.toList_none, List.cons_append, List.nil_append, pNl_i, pNl_r, pNl_u, pNl_n, bI_0, bI_1, nn_or, or_nn, not_false_eq_true, not_true_eq_false, i1000, i1e0, true_or, or_true, Decidable.not_not, if_true, if_false, Bool.false_eq_true, Int32.zero_add, true_and, and_true, n2, cT, cg_5, cg_2, cg_6, hm, hlt, bA hb40, bT hb40, bg hb40, Nat.reduceLT, ngt, c1, e2, s_19 hr8, c2, s_7 hb40, nI_1]
          exact ih2 _ rfl
        · rw [if_neg (fun q => c2 q.2)] at ih2
          simp only [x_29_0, x_29_1, x_29_3, x_29_4, x_29_7, x_29_10, x_29_11, x_29_14, x_29_15, x_29_16, x_29_17, x_29_18, x_29_21, x_29_22, x_29_25, x_29_28, x_29_29, x_29_30, x_29_33, x_29_36, x_29_37, x_29_40, x_29_43, x_29_44, x_29_47, x_29_50, x_29_53, Option.bind_some, Option.bind_none, Option.toList_some, Option.toList_none, List.cons_append, List.nil_append, pNl_i, pNl_r, pNl_u, pNl_n, bI_0, bI_1, nn_or, or_nn, not_false_eq_true, not_true_eq_false, i1000, i1e0, true_or, or_true, Decidable.not_not, if_true, if_false, Bool.false_eq_true, Int32.zero_add, true_and, and_true, n2, cT, cg_5, cg_2, cg_6, hm, hlt, bA hb40, bT hb40, bg hb40, Nat.reduceLT, ngt, c1, e2, s_19 hr8, c2, s_7 hb40, nI_1]
          exact ih2 _ rfl
      · rw [if_neg (fun q => c1 q.1)] at ih2
        simp only [x_29_0, x_29_1, x_29_3, x_29_4, x_29_7, x_29_10, x_29_11, x_29_14, x_29_15, x_29_16, x_29_17, x_29_18, x_29_21, x_29_22, x_29_25, x_29_28, x_29_29, x_29_30, x_29_33, x_29_36, x_29_37, x_29_40, x_29_43, x_29_44, x_29_47, x_29_50, x_29_53, Option.bind_some, Option.bind_none, Option.toList_some, Option.toList_none, List.cons_append, List.nil_append, pNl_i, pNl_r, pNl_u, pNl_n, bI_0, bI_1, nn_or, or_nn, not_false_eq_true, not_true_eq_false, i1000, i1e0, true_or, or_true, Decidable.not_not, if_true, if_false, Bool.false_eq_true, Int32.zero_add, true_and, and_true, n2, cT, cg_5, cg_2, cg_6, hm, hlt, bA hb40, bT hb40, bg hb40, Nat.reduceLT, ngt, c1, nI_1]
        exact ih2 _ rfl
  refine qRun_of ?_ rfl
  rw [en_29]
  rw [x_29_0, x_29_1 pNl_r]
  exact loop n 0 none rfl (by omega)
/-- the next minute in which something may happen -/
def neB (s : Sg) : Nat → Int32
  | 0 => 1440
  | b + 1 => if s (11 + b) 3 ≤ s 0 0 then neB s b else if s (11 + b) 3 < neB s b then s (11 + b) 3 else neB s b
def neC (s : Sg) (z : Int32) : Nat → Int32
  | 0 => z
  | r + 1 => if s 2 r ≤ s 0 0 then neC s z r else if s 2 r < neC s z r then s 2 r else neC s z r
def neF (s : Sg) (n : Nat) : Int32 := neC s (neB s n) 8
theorem s_30 {n : Nat} (hn : s 0 1 = nI n) (h40 : n ≤ 40) : qRun 30 [.ref o] (cB M o s) = some (some (.int (neF s n)), cB M o s) := by
  have loop2 : ∀ (k r : Nat), r + k = 8 → qEx 30 (52, [some (.ref o), some (.int (neC s (neB s n) r)), some (.int (nI r))], [], cB M o s) = some (some (.int (neF s n)), cB M o s) := by
    intro k
    induction k with
    | zero =>
      intro r hr
      have : r = 8 := by omega
      subst this
      rw [x_30_52]
      have h8 : ((8 : Int32) ≤ nI 8) = True := eq_true (by decide)
      simp only [x_30_0, x_30_3, x_30_4, x_30_5, x_30_6, x_30_7, x_30_8, x_30_11, x_30_14, x_30_15, x_30_18, x_30_19, x_30_20, x_30_23, x_30_24, x_30_27, x_30_30, x_30_31, x_30_32, x_30_35, x_30_36, x_30_37, x_30_40, x_30_43, x_30_44, x_30_47, x_30_50, x_30_51, x_30_53, x_30_55, x_30_58, x_30_59, x_30_62, x_30_63, x_30_64, x_30_65, x_30_68, x_30_71, x_30_72, x_30_73, x_30_76, x_30_77, x_30_78, x_30_81, x_30_82, x_30_85, x_30_88, x_30_89, Option.bind_some, Option.bind_none, Option.toList_some, Option.toList_none, List.cons_append, List.nil_append, pNl_i, pNl_r, pNl_u, pNl_n, bI_0, bI_1, nn_or, or_nn, not_false_eq_true, not_true_eq_false, i1000, i1e0, true_or, or_true, Decidable.not_not, if_true, if_false, Bool.false_eq_true, Int32.zero_add, true_and, and_true, h8]
      rfl
    | succ k ih =>
      intro r hr
      have hlt : ((8 : Int32) ≤ nI r) = False := by rw [show (8 : Int32) = nI 8 from rfl, nI_le_iff (by omega) (by omega)]; simp; omega
      have hr8 : r < 8 := by omega
      rw [← ih (r + 1) (by omega), x_30_52]
      rw [show neC s (neB s n) (r + 1) = if s 2 r ≤ s 0 0 then neC s (neB s n) r else if s 2 r < neC s (neB s n) r then s 2 r else neC s (neB s n) r from rfl]
      by_cases c1 : s 2 r ≤ s 0 0
      · simp only [x_30_0, x_30_3, x_30_4, x_30_5, x_30_6, x_30_7, x_30_8, x_30_11, x_30_14, x_30_15, x_30_18, x_30_19, x_30_20, x_30_23, x_30_24, x_30_27, x_30_30, x_30_31, x_30_32, x_30_35, x_30_36, x_30_37, x_30_40, x_30_43, x_30_44, x_30_47, x_30_50, x_30_51, x_30_53, x_30_55, x_30_58, x_30_59, x_30_62, x_30_63, x_30_64, x_30_65, x_30_68, x_30_71, x_30_72, x_30_73, x_30_76, x_30_77, x_30_78, x_30_81, x_30_82, x_30_85, x_30_88, x_30_89, Option.bind_some, Option.bind_none, Option.toList_some, Option.toList_none, List.cons_append, List.nil_append, pNl_i, pNl_r, pNl_u, pNl_n, bI_0, bI_1, nn_or, or_nn, not_false_eq_true, not_true_eq_false, i1000, i1e0, true_or, or_true, Decidable.not_not, if_true, if_false, Bool.false_eq_true, Int32.zero_add, true_and, and_true, cg_1, cg_6, hlt, ul hr8, c1, nI_1]
      · simp only [x_30_0, x_30_3, x_30_4, x_30_5, x_30_6, x_30_7, x_30_8, x_30_11, x_30_14, x_30_15, x_30_18, x_30_19, x_30_20, x_30_23, x_30_24, x_30_27, x_30_30, x_30_31, x_30_32, x_30_35, x_30_36, x_30_37, x_30_40, x_30_43, x_30_44, x_30_47, x_30_50, x_30_51, x_30_53, x_30_55, x_30_58, x_30_59, x_30_62, x_30_63, x_30_64, x_30_65, x_30_68, x_30_71, x_30_72, x_30_73, x_30_76, x_30_77, x_30_78, x_30_81, x_30_82, x_30_85, x_30_88, x_30_89, Option.bind_some, Option.bind_none, Option.toList_some, Option.toList_none, List.cons_append, List.nil_append, pNl_i, pNl_r, pNl_u, pNl_n, bI_0, bI_1, nn_or, or_nn, not_false_eq_true, not_true_eq_false, i1000, i1e0, true_or, or_true, Decidable.not_not, if_true, if_false, Bool.false_eq_true, Int32.zero_add, true_and, and_true, cg_1, cg_6, hlt, ul hr8, c1, nI_1]
  have loop : ∀ (k b : Nat), b + k = n → qEx 30 (6, [some (.ref o), some (.int (neB s b)), some (.int (nI b))], [], cB M o s) = some (some (.int (neF s n)), cB M o s) := by
    intro k
    induction k with
    | zero =>
      intro b hb
      have : b = n := by omega
      subst this
      have h := loop2 8 0 (by omega)
      rw [x_30_6]
      simp only [x_30_0, x_30_3, x_30_4, x_30_5, x_30_7, x_30_8, x_30_11, x_30_14, x_30_15, x_30_18, x_30_19, x_30_20, x_30_23, x_30_24, x_30_27, x_30_30, x_30_31, x_30_32, x_30_35, x_30_36, x_30_37, x_30_40, x_30_43, x_30_44, x_30_47, x_30_50, x_30_51, x_30_53, x_30_55, x_30_58, x_30_59, x_30_62, x_30_63, x_30_64, x_30_65, x_30_68, x_30_71, x_30_72, x_30_73, x_30_76, x_30_77, x_30_78, x_30_81, x_30_82, x_30_85, x_30_88, x_30_89, Option.bind_some, Option.bind_none, Option.toList_some, Option.toList_none, List.cons_append, List.nil_append, pNl_i, pNl_r, pNl_u, pNl_n, bI_0, bI_1, nn_or, or_nn, not_false_eq_true, not_true_eq_false, i1000, i1e0, true_or, or_true, Decidable.not_not, if_true, if_false, Bool.false_eq_true, Int32.zero_add, true_and, and_true, cg_5, hn, Int32.le_refl]
      exact h
    | succ k ih =>
      intro b hb
      have hlt : (nI n ≤ nI b) = False := by rw [nI_le_iff (by omega) (by omega)]; simp; omega
      have hb40 : b < 40 := by omega
      rw [← ih (b + 1) (by omega), x_30_6]
      rw [show neB s (b + 1) = if s (11 + b) 3 ≤ s 0 0 then neB s b else if s (11 + b) 3 < neB s b then s (11 + b) 3 else neB s b from rfl]
      by_cases c1 : s (11 + b) 3 ≤ s 0 0
      · simp only [x_30_0, x_30_3, x_30_4, x_30_5, x_30_7, x_30_8, x_30_11, x_30_14, x_30_15, x_30_18, x_30_19, x_30_20, x_30_23, x_30_24, x_30_27, x_30_30, x_30_31, x_30_32, x_30_35, x_30_36, x_30_37, x_30_40, x_30_43, x_30_44, x_30_47, x_30_50, x_30_51, x_30_53, x_30_55, x_30_58, x_30_59, x_30_62, x_30_63, x_30_64, x_30_65, x_30_68, x_30_71, x_30_72, x_30_73, x_30_76, x_30_77, x_30_78, x_30_81, x_30_82, x_30_85, x_30_88, x_30_89, Option.bind_some, Option.bind_none, Option.toList_some, Option.toList_none, List.cons_append, List.nil_append, pNl_i, pNl_r, pNl_u, pNl_n, bI_0, bI_1, nn_or, or_nn, not_false_eq_true, not_true_eq_false, i1000, i1e0, true_or, or_true, Decidable.not_not, if_true, if_false, Bool.false_eq_true, Int32.zero_add, true_and, and_true, cg_5, cg_2, cg_6, hn, hlt, bA hb40, bg hb40, Nat.reduceLT, c1, nI_1]
      · simp only [x_30_0, x_30_3, x_30_4, x_30_5, x_30_7, x_30_8, x_30_11, x_30_14, x_30_15, x_30_18, x_30_19, x_30_20, x_30_23, x_30_24, x_30_27, x_30_30, x_30_31, x_30_32, x_30_35, x_30_36, x_30_37, x_30_40, x_30_43, x_30_44, x_30_47, x_30_50, x_30_51, x_30_53, x_30_55, x_30_58, x_30_59, x_30_62, x_30_63, x_30_64, x_30_65, x_30_68, x_30_71, x_30_72, x_30_73, x_30_76, x_30_77, x_30_78, x_30_81, x_30_82, x_30_85, x_30_88, x_30_89, Option.bind_some, Option.bind_none, Option.toList_some, Option.toList_none, List.cons_append, List.nil_append, pNl_i, pNl_r, pNl_u, pNl_n, bI_0, bI_1, nn_or, or_nn, not_false_eq_true, not_true_eq_false, i1000, i1e0, true_or, or_true, Decidable.not_not, if_true, if_false, Bool.false_eq_true, Int32.zero_add, true_and, and_true, cg_5, cg_2, cg_6, hn, hlt, bA hb40, bg hb40, Nat.reduceLT, c1, nI_1]
  refine qRun_of ?_ rfl
  rw [en_30]
  simp only [x_30_0, x_30_3, x_30_4, x_30_5, x_30_7, x_30_8, x_30_11, x_30_14, x_30_15, x_30_18, x_30_19, x_30_20, x_30_23, x_30_24, x_30_27, x_30_30, x_30_31, x_30_32, x_30_35, x_30_36, x_30_37, x_30_40, x_30_43, x_30_44, x_30_47, x_30_50, x_30_51, x_30_53, x_30_55, x_30_58, x_30_59, x_30_62, x_30_63, x_30_64, x_30_65, x_30_68, x_30_71, x_30_72, x_30_73, x_30_76, x_30_77, x_30_78, x_30_81, x_30_82, x_30_85, x_30_88, x_30_89, Option.bind_some, Option.bind_none, Option.toList_some, Option.toList_none, List.cons_append, List.nil_append, pNl_i, pNl_r, pNl_u, pNl_n, bI_0, bI_1, nn_or, or_nn, not_false_eq_true, not_true_eq_false, i1000, i1e0, true_or, or_true, Decidable.not_not, if_true, if_false, Bool.false_eq_true, Int32.zero_add, true_and, and_true]
  exact loop n 0 (by omega)
end CG
