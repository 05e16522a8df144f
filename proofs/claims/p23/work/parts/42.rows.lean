/-! the class: rows and machines -/
def ug (s : Sg) (g : Nat) (f : Nat → Int32) : Sg := fun g' => if g' = g then f else s g'
section CD
variable {M : qHp} {o : Nat} {s : Sg}
/-- a row at a: its numbers are the day's g, its size is the day's gi gk -/
def rwOK (M : qHp) (o a g gi gk : Nat) : Prop := gi ≠ g ∧ ∀ s : Sg, (cB M o s).2 a = some (5, [.ref (a + 1), .int (s gi gk)]) ∧ (cB M o s).2 (a + 1) = some (8, ia 40 (s g)) ∧ (∀ v, hU (cB M o s) a (5, [.ref (a + 1), .int v]) = cB M o (u2 s gi gk v)) ∧ ∀ f, hU (cB M o s) (a + 1) (8, ia 40 f) = cB M o (ug s g f)
theorem ug_ne {g j : Nat} {f : Nat → Int32} (h : ∀ k, ow g k ≠ j) (hg : 7 ≤ g ∧ g ≤ 10) (hj : j < 56) : cbC o (ug s g f) j = cbC o s j := by
  have h0 := h 0
  unfold ow at h0
  rw [if_neg (by omega), if_neg (by omega), if_neg (by omega), if_neg (by omega), if_neg (by omega)] at h0
  have ne : ∀ g', g' ≠ g → ug s g f g' = s g' := fun g' q => if_neg q
  unfold cbC
  by_cases j0 : j = 0
  · rw [if_pos j0, if_pos j0, ne 0 (by omega)]
  rw [if_neg j0, if_neg j0]
  by_cases j1 : j = 1
  · rw [if_pos j1, if_pos j1, ne 1 (by omega)]
  rw [if_neg j1, if_neg j1]
  by_cases j2 : j = 2
  · rw [if_pos j2, if_pos j2, ne 2 (by omega)]
  rw [if_neg j2, if_neg j2]
  by_cases j3 : j = 3
  · rw [if_pos j3, if_pos j3]
  rw [if_neg j3, if_neg j3]
  by_cases j4 : j = 4
  · rw [if_pos j4, if_pos j4]
  rw [if_neg j4, if_neg j4]
  by_cases j5 : j = 5
  · rw [if_pos j5, if_pos j5, ne 0 (by omega)]
  rw [if_neg j5, if_neg j5]
  by_cases j6 : j = 6
  · rw [if_pos j6, if_pos j6, ne]
    intro q; subst q; simp at h0; omega
  rw [if_neg j6, if_neg j6]
  by_cases j7 : j < 47
  · rw [if_pos j7, if_pos j7, ne _ (by omega)]
  rw [if_neg j7, if_neg j7]
  by_cases j8 : (j - 47) % 3 = 0
  · rw [if_pos j8, if_pos j8, ne _ (by omega)]
  rw [if_neg j8, if_neg j8]
  by_cases j9 : (j - 47) % 3 = 1
  · rw [if_pos j9, if_pos j9, ne _ (by omega)]
  rw [if_neg j9, if_neg j9, ne]
  intro q
  rw [if_pos (by omega)] at h0
  omega
theorem rw_h : rwOK M o (o + 5) 10 0 4 := by
  refine ⟨by omega, fun s => ⟨cb_at (j := 5) (by omega), cb_at (j := 6) (by omega), fun v => cb_u2 (g := 0) (k := 4) (by decide) rfl, fun f => ?_⟩⟩
  refine cb_up (j := 6) (by omega) rfl fun i hi hn => ug_ne (fun k q => hn ?_) (by omega) hi
  rw [← q]; rfl
theorem cb_qr {m : Nat} (hm : m < 3) : cbC o s (48 + 3 * m) = some (5, [.ref (o + 48 + 3 * m + 1), .int (s 6 m)]) := by
  unfold cbC
  rw [if_neg (by omega), if_neg (by omega), if_neg (by omega), if_neg (by omega), if_neg (by omega), if_neg (by omega), if_neg (by omega), if_neg (by omega), if_neg (by omega), if_pos (by omega), show (48 + 3 * m - 47) / 3 = m by omega, show o + (48 + 3 * m) + 1 = o + 48 + 3 * m + 1 by omega]
theorem cb_qa {m : Nat} (hm : m < 3) : cbC o s (49 + 3 * m) = some (8, ia 40 (s (7 + m))) := by
  unfold cbC
  rw [if_neg (by omega), if_neg (by omega), if_neg (by omega), if_neg (by omega), if_neg (by omega), if_neg (by omega), if_neg (by omega), if_neg (by omega), if_neg (by omega), if_neg (by omega), show (49 + 3 * m - 47) / 3 = m by omega]
theorem cb_mc {m : Nat} (hm : m < 3) : cbC o s (47 + 3 * m) = some (3, .ref (o + 48 + 3 * m) :: ia 5 (s (3 + m))) := by
  unfold cbC
  rw [if_neg (by omega), if_neg (by omega), if_neg (by omega), if_neg (by omega), if_neg (by omega), if_neg (by omega), if_neg (by omega), if_neg (by omega), if_pos (by omega), show (47 + 3 * m - 47) / 3 = m by omega, show o + (47 + 3 * m) + 1 = o + 48 + 3 * m by omega]
theorem rw_q {m : Nat} (hm : m < 3) : rwOK M o (o + 48 + 3 * m) (7 + m) 6 m := by
  have e1 : o + 48 + 3 * m = o + (48 + 3 * m) := by omega
  have e2 : o + 48 + 3 * m + 1 = o + (49 + 3 * m) := by omega
  have w1 : ow 6 m = 48 + 3 * m := by unfold ow; rw [if_neg (by omega), if_neg (by omega), if_neg (by omega), if_neg (by omega), if_pos rfl]
  have w2 : ∀ k, ow (7 + m) k = 49 + 3 * m := by intro k; unfold ow; rw [if_neg (by omega), if_neg (by omega), if_neg (by omega), if_neg (by omega), if_neg (by omega), if_pos (by omega), Nat.add_sub_cancel_left]
  refine ⟨by omega, fun s => ⟨?_, ?_, fun v => ?_, fun f => ?_⟩⟩
  · rw [← cb_qr hm, e1]; exact cb_at (by omega)
  · rw [e2, ← cb_qa hm]; exact cb_at (by omega)
  · have h := @cb_u2 M o s 6 m (5, [.ref (o + 48 + 3 * m + 1), .int v]) v (by rw [w1]; omega) (by rw [w1, cb_qr hm, u2_s])
    rw [w1] at h
    rw [e1] at h ⊢
    exact h
  · rw [e2]
    refine cb_up (j := 49 + 3 * m) (by omega) ?_ fun i hi hn => ug_ne (fun k q => hn ?_) (by omega) hi
    · rw [cb_qa hm]; unfold ug; rw [if_pos rfl]
    · rw [← q, w2]
section RW
variable {a g gi gk k : Nat}
theorem rT (H : rwOK M o a g gi gk) : hT (cB M o s) a 5 = true := hT_of (H.2 s).1
theorem rg_0 (H : rwOK M o a g gi gk) : hG (cB M o s) a 5 0 = some (.ref (a + 1)) := hG_of (H.2 s).1
theorem rg_1 (H : rwOK M o a g gi gk) : hG (cB M o s) a 5 1 = some (.int (s gi gk)) := hG_of (H.2 s).1
theorem rp_1 (H : rwOK M o a g gi gk) {v : Int32} : hP (cB M o s) a 5 1 .int (.int v) = some (cB M o (u2 s gi gk v)) := by
  rw [hP_of (H.2 s).1 (Nat.le_of_ble_eq_true rfl) rfl]
  exact congrArg some ((H.2 s).2.2.1 v)
theorem rl (H : rwOK M o a g gi gk) {i : Nat} (hi : i < 40) : hLI (cB M o s) (a + 1) (nI i) = some (.int (s g i)) := hLI_nI (H.2 s).2.1 hi (by omega)
theorem rs (H : rwOK M o a g gi gk) {i : Nat} {v : Int32} (hi : i < 40) : hS (cB M o s) 8 (a + 1) (nI i) (.int v) = some (cB M o (u2 s g i v)) := by
  rw [hS_nI (H.2 s).2.1 hi (by omega), (H.2 s).2.2.2, up_u2]
  congr 2
  funext g'
  unfold ug
  by_cases h : g' = g
  · rw [if_pos h, h]
  · rw [if_neg h, u2_g h]
theorem s_60 (H : rwOK M o a g gi gk) {i : Nat} (hk : s gi gk = nI k) (h40 : k ≤ 40) (hi : i < 1000) : qRun 60 [.ref a, .int (nI i)] (cB M o s) = some (some (.int (if i < k then s g i else -6)), cB M o s) := by
  refine qRun_of ?_ rfl
  rw [en_60]
  have h0 : (nI i < 0) = False := eq_false (nI_pos (by omega))
  have h1 : (nI k ≤ nI i) = (k ≤ i) := nI_le_iff (by omega) (by omega)
  by_cases c1 : i < k
  · have c2 : (k ≤ i) = False := eq_false (by omega)
    rw [if_pos c1]
    simp only [x_60_0, x_60_1, x_60_4, x_60_5, x_60_6, x_60_9, x_60_12, x_60_13, x_60_16, x_60_17, x_60_18, x_60_21, x_60_23, Option.bind_some, Option.bind_none, Option.toList_some, Option.toList_none, List.cons_append, List.nil_append, pNl_i, pNl_r, pNl_u, pNl_n, bI_0, bI_1, nn_or, or_nn, not_false_eq_true, not_true_eq_false, i1000, i1e0, true_or, or_true, Decidable.not_not, if_true, if_false, Bool.false_eq_true, Int32.zero_add, true_and, and_true, rg_0 H, rg_1 H, hk, h0, h1, c2, rl H (show i < 40 by omega)]
  · have c2 : (k ≤ i) = True := eq_true (by omega)
    rw [if_neg c1]
    simp only [x_60_0, x_60_1, x_60_4, x_60_5, x_60_6, x_60_9, x_60_12, x_60_13, x_60_16, x_60_17, x_60_18, x_60_21, x_60_23, Option.bind_some, Option.bind_none, Option.toList_some, Option.toList_none, List.cons_append, List.nil_append, pNl_i, pNl_r, pNl_u, pNl_n, bI_0, bI_1, nn_or, or_nn, not_false_eq_true, not_true_eq_false, i1000, i1e0, true_or, or_true, Decidable.not_not, if_true, if_false, Bool.false_eq_true, Int32.zero_add, true_and, and_true, rg_0 H, rg_1 H, hk, h0, h1, c2]
theorem s_61 (H : rwOK M o a g gi gk) {v : Int32} (hk : s gi gk = nI k) (h40 : k < 40) : qRun 61 [.ref a, .int v] (cB M o s) = some (none, cB M o (u2 (u2 s g k v) gi gk (nI (k + 1)))) := by
  refine qRun_of ?_ rfl
  rw [en_61]
  have h1 : ((40 : Int32) ≤ nI k) = False := eq_false (by rw [show (40 : Int32) = nI 40 from rfl, nI_le_iff (by omega) (by omega)]; omega)
  have hne : u2 s g k v gi gk = nI k := by rw [u2_at, if_neg (fun q => H.1 q.1)]; exact hk
  simp only [x_61_0, x_61_1, x_61_4, x_61_6, x_61_9, x_61_10, x_61_13, x_61_14, x_61_17, x_61_18, x_61_19, x_61_20, x_61_21, x_61_24, x_61_25, x_61_26, x_61_29, Option.bind_some, Option.bind_none, Option.toList_some, Option.toList_none, List.cons_append, List.nil_append, pNl_i, pNl_r, pNl_u, pNl_n, bI_0, bI_1, nn_or, or_nn, not_false_eq_true, not_true_eq_false, i1000, i1e0, true_or, or_true, Decidable.not_not, if_true, if_false, Bool.false_eq_true, Int32.zero_add, true_and, and_true, rg_0 H, rg_1 H, rp_1 H, hk, h1, rs H h40, hne, nI_1]
def rmF (s : Sg) (g gi gk k : Nat) : Sg := ug (u2 s gi gk (nI (k - 1))) g (fun i => if i + 1 < k then s g (i + 1) else s g i)
theorem s_62_0 (H : rwOK M o a g gi gk) (hk : s gi gk = 0) : qRun 62 [.ref a] (cB M o s) = some (none, cB M o s) := by
  refine qRun_of ?_ rfl
  rw [en_62]
  simp only [x_62_0, x_62_1, x_62_4, x_62_7, x_62_8, x_62_9, x_62_12, x_62_13, x_62_14, x_62_17, x_62_18, x_62_21, x_62_22, x_62_23, x_62_26, x_62_27, x_62_28, x_62_31, x_62_34, Option.bind_some, Option.bind_none, Option.toList_some, Option.toList_none, List.cons_append, List.nil_append, pNl_i, pNl_r, pNl_u, pNl_n, bI_0, bI_1, nn_or, or_nn, not_false_eq_true, not_true_eq_false, i1000, i1e0, true_or, or_true, Decidable.not_not, if_true, if_false, Bool.false_eq_true, Int32.zero_add, true_and, and_true, rg_0 H, rg_1 H, hk, Int32.le_refl]
theorem s_62 (H : rwOK M o a g gi gk) (hk : s gi gk = nI k) (h1 : 0 < k) (h40 : k ≤ 40) : qRun 62 [.ref a] (cB M o s) = some (none, cB M o (rmF s g gi gk k)) := by
  refine qRun_of ?_ rfl
  rw [en_62]
  have h2 : (nI k ≤ 0) = False := eq_false (by rw [show (0 : Int32) = nI 0 from rfl, nI_le_iff (by omega) (by omega)]; omega)
  have h3 : (nI k - 1 : Int32) = nI (k - 1) := by rw [show k = (k - 1) + 1 by omega, ← nI_1]; exact Int32.add_sub_cancel _ _
  have hg : u2 s gi gk (nI (k - 1)) g = s g := u2_g H.1.symm
  have hq := (H.2 (u2 s gi gk (nI (k - 1)))).2.1
  have h4 := @hC_ia (cB M o (u2 s gi gk (nI (k - 1)))) (a + 1) (a + 1) 40 40 1 0 (k - 1) _ _ hq hq (by omega) (by omega) (by omega) (by omega)
  rw [(H.2 _).2.2.2, nl_1, nl_0, hg] at h4
  have h5 : (fun i => if 0 ≤ i ∧ i < 0 + (k - 1) then s g (1 + (i - 0)) else s g i) = fun i => if i + 1 < k then s g (i + 1) else s g i := by
    funext i
    by_cases c : i + 1 < k
    · rw [if_pos c, if_pos (by omega)]; congr 1; omega
    · rw [if_neg c, if_neg (by omega)]
  rw [h5] at h4
  simp only [x_62_0, x_62_1, x_62_4, x_62_7, x_62_8, x_62_9, x_62_12, x_62_13, x_62_14, x_62_17, x_62_18, x_62_21, x_62_22, x_62_23, x_62_26, x_62_27, x_62_28, x_62_31, x_62_34, Option.bind_some, Option.bind_none, Option.toList_some, Option.toList_none, List.cons_append, List.nil_append, pNl_i, pNl_r, pNl_u, pNl_n, bI_0, bI_1, nn_or, or_nn, not_false_eq_true, not_true_eq_false, i1000, i1e0, true_or, or_true, Decidable.not_not, if_true, if_false, Bool.false_eq_true, Int32.zero_add, true_and, and_true, rg_0 H, rg_1 H, rp_1 H, hk, h2, h3, u2_s, h4]
  rfl
end RW
end CD
