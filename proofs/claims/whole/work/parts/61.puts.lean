/-! the class: put, to its end -/
section KV
variable {M : qHp} {K : Nat → Sg} {d v x : Nat → Int32} {P : Nat}
theorem s_48_0 {X : Int64} {a : Nat} {N : qHp} (h : ∀ n, ¬ tdOK (byB X) n) : qRun 48 [.ref a, .long X] N = some (some (.int 0), N) := by
  have first : ∀ q, q ≤ 8 → (∀ k, k < q → 33 ≤ byN X k ∧ byN X k ≤ 126) ∨ ∃ i, i < q ∧ (∀ k, k < i → 33 ≤ byN X k ∧ byN X k ≤ 126) ∧ ¬ (33 ≤ byN X i ∧ byN X i ≤ 126) := by
    intro q
    induction q with
    | zero => intro _; exact Or.inl fun k hk => by omega
    | succ q ih =>
      intro hq
      rcases ih (by omega) with i1 | ⟨i, i1, i2, i3⟩
      · by_cases c : 33 ≤ byN X q ∧ byN X q ≤ 126
        · refine Or.inl fun k hk => ?_
          rcases Nat.lt_or_ge k q with z | z
          · exact i1 k z
          · have : k = q := by omega
            subst this; exact c
        · exact Or.inr ⟨q, by omega, i1, c⟩
      · exact Or.inr ⟨i, by omega, i2, i3⟩
  rcases first 8 (Nat.le_refl _) with f | ⟨i, f1, f2, f3⟩
  · exact absurd (td_n.mpr ⟨Nat.le_refl _, by omega, f, Nat.div_eq_of_lt X.toUInt64.toNat_lt⟩) (h 8)
  · refine s_48_go (by omega) f2 fun R l6 hR => ?_
    have h8 : ((8 : Int32) ≤ nI i) = False := eq_false (by rw [show (8 : Int32) = nI 8 from rfl, nI_le_iff (by omega) (by omega)]; omega)
    have hm : xN R % 256 = byN X i := by rw [hR]; rfl
    rw [x_48_5]
    by_cases z : xN R = 0
    · have c0 : (lg_cmp R 0 = 0) = True := by rw [cmp_0]; exact eq_true z
      have hi0 : i = 0 := by
        rcases Nat.eq_zero_or_pos i with q | q
        · exact q
        · exact absurd (td_n.mpr ⟨by omega, q, f2, by rw [← hR]; exact z⟩) (h i)
      simp only [x_48_0, x_48_1, x_48_2, x_48_3, x_48_6, x_48_8, x_48_11, x_48_13, x_48_14, x_48_15, x_48_18, x_48_20, x_48_23, x_48_24, x_48_26, x_48_28, x_48_31, x_48_32, x_48_35, x_48_37, x_48_40, x_48_41, x_48_44, x_48_45, x_48_46, x_48_49, x_48_51, x_48_53, x_48_54, x_48_56, x_48_59, x_48_60, Option.bind_some, Option.bind_none, Option.toList_some, Option.toList_none, List.cons_append, List.nil_append, pNl_i, pNl_r, pNl_u, pNl_n, bI_0, bI_1, nn_or, or_nn, not_false_eq_true, not_true_eq_false, i1000, i1e0, true_or, or_true, Decidable.not_not, if_true, if_false, Bool.false_eq_true, Int32.zero_add, true_and, and_true, h8, c0]
      rw [hi0]; rfl
    · have c0 : (lg_cmp R 0 = 0) = False := by rw [cmp_0]; exact eq_false z
      have e : R &&& 255 = Int64.ofNat (byN X i) := by rw [and_n, hm]
      by_cases c1 : 33 ≤ byN X i
      · have c1' : (lg_cmp (Int64.ofNat (byN X i)) 33 < 0) = False := by rw [cmp_lo _ byN_lt]; exact eq_false (by omega)
        have c2' : (lg_cmp (Int64.ofNat (byN X i)) 126 ≤ 0) = False := by rw [cmp_hi _ byN_lt]; exact eq_false (by omega)
        simp only [x_48_0, x_48_1, x_48_2, x_48_3, x_48_6, x_48_8, x_48_11, x_48_13, x_48_14, x_48_15, x_48_18, x_48_20, x_48_23, x_48_24, x_48_26, x_48_28, x_48_31, x_48_32, x_48_35, x_48_37, x_48_40, x_48_41, x_48_44, x_48_45, x_48_46, x_48_49, x_48_51, x_48_53, x_48_54, x_48_56, x_48_59, x_48_60, Option.bind_some, Option.bind_none, Option.toList_some, Option.toList_none, List.cons_append, List.nil_append, pNl_i, pNl_r, pNl_u, pNl_n, bI_0, bI_1, nn_or, or_nn, not_false_eq_true, not_true_eq_false, i1000, i1e0, true_or, or_true, Decidable.not_not, if_true, if_false, Bool.false_eq_true, Int32.zero_add, true_and, and_true, h8, c0, e, c1', c2']
      · have c1' : (lg_cmp (Int64.ofNat (byN X i)) 33 < 0) = True := by rw [cmp_lo _ byN_lt]; exact eq_true (by omega)
        simp only [x_48_0, x_48_1, x_48_2, x_48_3, x_48_6, x_48_8, x_48_11, x_48_13, x_48_14, x_48_15, x_48_18, x_48_20, x_48_23, x_48_24, x_48_26, x_48_28, x_48_31, x_48_32, x_48_35, x_48_37, x_48_40, x_48_41, x_48_44, x_48_45, x_48_46, x_48_49, x_48_51, x_48_53, x_48_54, x_48_56, x_48_59, x_48_60, Option.bind_some, Option.bind_none, Option.toList_some, Option.toList_none, List.cons_append, List.nil_append, pNl_i, pNl_r, pNl_u, pNl_n, bI_0, bI_1, nn_or, or_nn, not_false_eq_true, not_true_eq_false, i1000, i1e0, true_or, or_true, Decidable.not_not, if_true, if_false, Bool.false_eq_true, Int32.zero_add, true_and, and_true, h8, c0, e, c1']
theorem kC_x {x' : Nat → Int32} {q : Nat} (h1 : q ≠ 514) : kC K d v x' q = kC K d v x q := by
  unfold kC
  simp only [h1, if_false]
theorem kx_s {k : Nat} {w : Int32} (hk : k < 80) : hS (kW M K d v x) 10 514 (nI k) (.int w) = some (kW M K d v (up x k w)) := by
  have hc : (nI k).toNatClampNeg = k := nI_clamp (by omega)
  rw [hS_of k_514 (nI_pos (by omega)) (by rw [hc, ia_len]; exact hk), hc, ia_set]
  exact congrArg some (kW_up (by omega) rfl fun q _ hn => kC_x hn)
def ptX (x : Nat → Int32) (P n i : Nat) (f : Nat → Int32) : Nat → Int32 := fun k => if P ≤ k ∧ k < P + i then f (n - 1 - (k - P)) else x k
theorem ush_n {X : Int64} {k : Nat} (hk : k < 8) : ((((X.toUInt64 >>> ((8 * nI k).toInt64.toUInt64 &&& Int64.toUInt64 63)).toInt64 &&& 255).toInt32).toUInt32 % 65536).toInt32 = byB X k := by
  have e : ∀ k, k < 8 → ((8 * nI k).toInt64.toUInt64 &&& Int64.toUInt64 63).toNat % 64 = 8 * k := by decide
  rw [and_n, xN_shr (e k hk), byB_n hk, l2i _ (Nat.mod_lt _ (by omega))]
  exact ch_ok _ byN_lt
theorem chB {X : Int64} {k : Nat} (hk : k < 8) : ((byB X k).toUInt32 % 65536).toInt32 = byB X k := by
  rw [byB_n hk]; exact ch_ok _ byN_lt
theorem s_47_0 {X : Int64} (h : ∀ n, ¬ tdOK (byB X) n) : qRun 47 [.ref 513, .long X] (kW M K d v x) = some (some (.int (-2)), kW M K d v x) := by
  refine qRun_of ?_ rfl
  rw [en_47]
  have e : ((1 : Int32) ≤ 0) = False := eq_false (by decide)
  simp only [x_47_0, x_47_1, x_47_2, x_47_5, x_47_6, x_47_7, x_47_8, x_47_11, x_47_13, x_47_14, x_47_15, x_47_18, x_47_19, x_47_20, x_47_22, x_47_25, x_47_27, x_47_28, x_47_29, x_47_30, x_47_31, x_47_33, x_47_35, x_47_38, x_47_39, x_47_42, x_47_43, x_47_46, x_47_47, x_47_49, x_47_51, x_47_52, x_47_53, x_47_56, x_47_57, x_47_58, x_47_59, x_47_60, x_47_61, x_47_62, x_47_65, x_47_66, x_47_67, x_47_70, x_47_73, x_47_76, x_47_77, x_47_80, Option.bind_some, Option.bind_none, Option.toList_some, Option.toList_none, List.cons_append, List.nil_append, pNl_i, pNl_r, pNl_u, pNl_n, bI_0, bI_1, nn_or, or_nn, not_false_eq_true, not_true_eq_false, i1000, i1e0, true_or, or_true, Decidable.not_not, if_true, if_false, Bool.false_eq_true, Int32.zero_add, true_and, and_true, kTp, s_48_0 h, e]
theorem s_47_1 {X : Int64} {n : Nat} (h : tdOK (byB X) n) (hP : d 2 = nI P) (h80 : P ≤ 80) (h2 : 80 < P + n) : qRun 47 [.ref 513, .long X] (kW M K d v x) = some (some (.int (-4)), kW M K d v x) := by
  have h1 := h.1
  have hp := h.2.1
  refine qRun_of ?_ rfl
  rw [en_47]
  have e : ((1 : Int32) ≤ nI n) = True := eq_true (by rw [show (1 : Int32) = nI 1 from rfl, nI_le_iff (by omega) (by omega)]; omega)
  have e2 : (nI (P + n) ≤ (80 : Int32)) = False := by rw [show (80 : Int32) = nI 80 from rfl, nI_le_iff (by omega) (by omega)]; simp; omega
  simp only [x_47_0, x_47_1, x_47_2, x_47_5, x_47_6, x_47_7, x_47_8, x_47_11, x_47_13, x_47_14, x_47_15, x_47_18, x_47_19, x_47_20, x_47_22, x_47_25, x_47_27, x_47_28, x_47_29, x_47_30, x_47_31, x_47_33, x_47_35, x_47_38, x_47_39, x_47_42, x_47_43, x_47_46, x_47_47, x_47_49, x_47_51, x_47_52, x_47_53, x_47_56, x_47_57, x_47_58, x_47_59, x_47_60, x_47_61, x_47_62, x_47_65, x_47_66, x_47_67, x_47_70, x_47_73, x_47_76, x_47_77, x_47_80, Option.bind_some, Option.bind_none, Option.toList_some, Option.toList_none, List.cons_append, List.nil_append, pNl_i, pNl_r, pNl_u, pNl_n, bI_0, bI_1, nn_or, or_nn, not_false_eq_true, not_true_eq_false, i1000, i1e0, true_or, or_true, Decidable.not_not, if_true, if_false, Bool.false_eq_true, Int32.zero_add, true_and, and_true, kTp, s_48 h, kq_1, e, hP, nI_add, e2]
theorem s_47 {X : Int64} {n : Nat} (h : tdOK (byB X) n) (hP : d 2 = nI P) (h2 : P + n ≤ 80) : qRun 47 [.ref 513, .long X] (kW M K d v x) = some (some (.int (nI (P + n))), kW M K (up d 2 (nI (P + n))) v (ptX x P n n (byB X))) := by
  have h1 := h.1
  have hp := h.2.1
  have e : ((1 : Int32) ≤ nI n) = True := eq_true (by rw [show (1 : Int32) = nI 1 from rfl, nI_le_iff (by omega) (by omega)]; omega)
  have e2 : (nI (P + n) ≤ (80 : Int32)) = True := eq_true (by rw [show (80 : Int32) = nI 80 from rfl, nI_le_iff (by omega) (by omega)]; omega)
  have loop : ∀ (q i : Nat), i + q = n → qEx 47 (33, [some (.ref 513), some (.long X), none, some (.int (nI n)), some (.int (nI q - 1))], [], kW M K (up d 2 (nI (P + i))) v (ptX x P n i (byB X))) = some (some (.int (nI (P + n))), kW M K (up d 2 (nI (P + n))) v (ptX x P n n (byB X))) := by
    intro q
    induction q with
    | zero =>
      intro i hi
      have hin : i = n := by omega
      subst hin
      have e3 : (nI 0 - 1 < 0) = True := eq_true (by decide)
      have e4 : up d 2 (nI (P + i)) 2 = nI (P + i) := up_at
      rw [x_47_33]
      simp only [x_47_0, x_47_1, x_47_2, x_47_5, x_47_6, x_47_7, x_47_8, x_47_11, x_47_13, x_47_14, x_47_15, x_47_18, x_47_19, x_47_20, x_47_22, x_47_25, x_47_27, x_47_28, x_47_29, x_47_30, x_47_31, x_47_35, x_47_38, x_47_39, x_47_42, x_47_43, x_47_46, x_47_47, x_47_49, x_47_51, x_47_52, x_47_53, x_47_56, x_47_57, x_47_58, x_47_59, x_47_60, x_47_61, x_47_62, x_47_65, x_47_66, x_47_67, x_47_70, x_47_73, x_47_76, x_47_77, x_47_80, Option.bind_some, Option.bind_none, Option.toList_some, Option.toList_none, List.cons_append, List.nil_append, pNl_i, pNl_r, pNl_u, pNl_n, bI_0, bI_1, nn_or, or_nn, not_false_eq_true, not_true_eq_false, i1000, i1e0, true_or, or_true, Decidable.not_not, if_true, if_false, Bool.false_eq_true, Int32.zero_add, true_and, and_true, kq_1, e3, e4]
    | succ q ih =>
      intro i hi
      have e5 : (nI (q + 1) - 1 : Int32) = nI q := by rw [← nI_1]; exact Int32.add_sub_cancel _ _
      have e3 : (nI q < 0) = False := eq_false (nI_pos (by omega))
      have e4 : up d 2 (nI (P + i)) 2 = nI (P + i) := up_at
      have e6 := @kx_s M K (up d 2 (nI (P + i))) v (ptX x P n i (byB X)) (P + i) (byB X q) (by omega)
      have e7 : up (ptX x P n i (byB X)) (P + i) (byB X q) = ptX x P n (i + 1) (byB X) := by
        funext k
        unfold up ptX
        by_cases c2 : k = P + i
        · rw [if_pos c2, if_pos ⟨by omega, by omega⟩]
          congr 1; omega
        · rw [if_neg c2]
          by_cases c3 : P ≤ k ∧ k < P + i
          · rw [if_pos c3, if_pos ⟨c3.1, by omega⟩]
          · rw [if_neg c3, if_neg (fun a => c3 ⟨a.1, by omega⟩)]
      rw [e7] at e6
      have e8 : up (up d 2 (nI (P + i))) 2 (nI (P + i + 1)) = up d 2 (nI (P + (i + 1))) := up_u
      have e9 : (nI q + -1 : Int32) = nI q - 1 := (Int32.sub_eq_add_neg _ _).symm
      have e10 := @ush_n X q (by omega)
      have e11 := @chB X q (by omega)
      rw [← ih (i + 1) (by omega), x_47_33]
      simp only [x_47_0, x_47_1, x_47_2, x_47_5, x_47_6, x_47_7, x_47_8, x_47_11, x_47_13, x_47_14, x_47_15, x_47_18, x_47_19, x_47_20, x_47_22, x_47_25, x_47_27, x_47_28, x_47_29, x_47_30, x_47_31, x_47_35, x_47_38, x_47_39, x_47_42, x_47_43, x_47_46, x_47_47, x_47_49, x_47_51, x_47_52, x_47_53, x_47_56, x_47_57, x_47_58, x_47_59, x_47_60, x_47_61, x_47_62, x_47_65, x_47_66, x_47_67, x_47_70, x_47_73, x_47_76, x_47_77, x_47_80, Option.bind_some, Option.bind_none, Option.toList_some, Option.toList_none, List.cons_append, List.nil_append, pNl_i, pNl_r, pNl_u, pNl_n, bI_0, bI_1, nn_or, or_nn, not_false_eq_true, not_true_eq_false, i1000, i1e0, true_or, or_true, Decidable.not_not, if_true, if_false, Bool.false_eq_true, Int32.zero_add, true_and, and_true, kq_0, kq_1, kw_1, e5, e3, e4, e10, e11, e6, nI_1, e8, e9]
  have hA : ptX x P n 0 (byB X) = x := by
    funext k; unfold ptX; rw [if_neg (by omega)]
  have hl := loop n 0 (by omega)
  rw [hA, Nat.add_zero, up_same hP] at hl
  refine qRun_of ?_ rfl
  rw [en_47]
  simp only [x_47_0, x_47_1, x_47_2, x_47_5, x_47_6, x_47_7, x_47_8, x_47_11, x_47_13, x_47_14, x_47_15, x_47_18, x_47_19, x_47_20, x_47_22, x_47_25, x_47_27, x_47_28, x_47_29, x_47_30, x_47_31, x_47_35, x_47_38, x_47_39, x_47_42, x_47_43, x_47_46, x_47_47, x_47_49, x_47_51, x_47_52, x_47_53, x_47_56, x_47_57, x_47_58, x_47_59, x_47_60, x_47_61, x_47_62, x_47_65, x_47_66, x_47_67, x_47_70, x_47_73, x_47_76, x_47_77, x_47_80, Option.bind_some, Option.bind_none, Option.toList_some, Option.toList_none, List.cons_append, List.nil_append, pNl_i, pNl_r, pNl_u, pNl_n, bI_0, bI_1, nn_or, or_nn, not_false_eq_true, not_true_eq_false, i1000, i1e0, true_or, or_true, Decidable.not_not, if_true, if_false, Bool.false_eq_true, Int32.zero_add, true_and, and_true, kTp, s_48 h, kq_1, e, hP, nI_add, e2]
  exact hl
theorem s_78_0 {X : Int64} (h : ∀ n, ¬ tdOK (byB X) n) : qRun 78 [.ref 4, .long X] (kW M K d v x) = some (some (.int (-2)), kW M K d v x) := by
  refine qRun_of ?_ rfl
  rw [en_78]
  simp only [x_78_0, x_78_1, x_78_4, x_78_5, x_78_8, Option.bind_some, Option.bind_none, Option.toList_some, Option.toList_none, List.cons_append, List.nil_append, pNl_i, pNl_r, pNl_u, pNl_n, bI_0, bI_1, nn_or, or_nn, not_false_eq_true, not_true_eq_false, i1000, i1e0, true_or, or_true, Decidable.not_not, if_true, if_false, Bool.false_eq_true, Int32.zero_add, true_and, and_true, k4_5, kTp, s_47_0 h]
theorem s_78_1 {X : Int64} {n : Nat} (h : tdOK (byB X) n) (hP : d 2 = nI P) (h80 : P ≤ 80) (h2 : 80 < P + n) : qRun 78 [.ref 4, .long X] (kW M K d v x) = some (some (.int (-4)), kW M K d v x) := by
  refine qRun_of ?_ rfl
  rw [en_78]
  simp only [x_78_0, x_78_1, x_78_4, x_78_5, x_78_8, Option.bind_some, Option.bind_none, Option.toList_some, Option.toList_none, List.cons_append, List.nil_append, pNl_i, pNl_r, pNl_u, pNl_n, bI_0, bI_1, nn_or, or_nn, not_false_eq_true, not_true_eq_false, i1000, i1e0, true_or, or_true, Decidable.not_not, if_true, if_false, Bool.false_eq_true, Int32.zero_add, true_and, and_true, k4_5, kTp, s_47_1 h hP h80 h2]
theorem s_78 {X : Int64} {n : Nat} (h : tdOK (byB X) n) (hP : d 2 = nI P) (h2 : P + n ≤ 80) : qRun 78 [.ref 4, .long X] (kW M K d v x) = some (some (.int (nI (P + n))), kW M K (up d 2 (nI (P + n))) v (ptX x P n n (byB X))) := by
  refine qRun_of ?_ rfl
  rw [en_78]
  simp only [x_78_0, x_78_1, x_78_4, x_78_5, x_78_8, Option.bind_some, Option.bind_none, Option.toList_some, Option.toList_none, List.cons_append, List.nil_append, pNl_i, pNl_r, pNl_u, pNl_n, bI_0, bI_1, nn_or, or_nn, not_false_eq_true, not_true_eq_false, i1000, i1e0, true_or, or_true, Decidable.not_not, if_true, if_false, Bool.false_eq_true, Int32.zero_add, true_and, and_true, k4_5, kTp, s_47 h hP h2]
end KV
