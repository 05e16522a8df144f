/-! the class: a centre takes over another -/
/-- a place of the day that a centre has -/
def vl (g k : Nat) : Prop := (g = 0 ∧ k < 7) ∨ (g = 1 ∧ k < 9) ∨ (g = 2 ∧ k < 8) ∨ ((3 ≤ g ∧ g < 6) ∧ k < 5) ∨ (g = 6 ∧ k < 3) ∨ ((7 ≤ g ∧ g ≤ 10) ∧ k < 40) ∨ ((11 ≤ g ∧ g < 51) ∧ k < 11)
theorem cbC_ext {o j : Nat} {s t : Sg} (h : ∀ g k, vl g k → s g k = t g k) (hj : j < 56) : cbC o s j = cbC o t j := by
  unfold vl at h
  unfold cbC
  by_cases j0 : j = 0
  · rw [if_pos j0, if_pos j0, h 0 1 (by omega), h 0 0 (by omega), h 0 5 (by omega), h 0 2 (by omega), h 0 3 (by omega), h 0 6 (by omega)]
  rw [if_neg j0, if_neg j0]
  by_cases j1 : j = 1
  · rw [if_pos j1, if_pos j1, ia_ext fun k hk => h 1 k (by omega)]
  rw [if_neg j1, if_neg j1]
  by_cases j2 : j = 2
  · rw [if_pos j2, if_pos j2, ia_ext fun k hk => h 2 k (by omega)]
  rw [if_neg j2, if_neg j2]
  by_cases j3 : j = 3
  · rw [if_pos j3, if_pos j3]
  rw [if_neg j3, if_neg j3]
  by_cases j4 : j = 4
  · rw [if_pos j4, if_pos j4]
  rw [if_neg j4, if_neg j4]
  by_cases j5 : j = 5
  · rw [if_pos j5, if_pos j5, h 0 4 (by omega)]
  rw [if_neg j5, if_neg j5]
  by_cases j6 : j = 6
  · rw [if_pos j6, if_pos j6, ia_ext fun k hk => h 10 k (by omega)]
  rw [if_neg j6, if_neg j6]
  by_cases j7 : j < 47
  · rw [if_pos j7, if_pos j7, ia_ext fun k hk => h (11 + (j - 7)) k (by omega)]
  rw [if_neg j7, if_neg j7]
  by_cases j8 : (j - 47) % 3 = 0
  · rw [if_pos j8, if_pos j8, ia_ext fun k hk => h (3 + (j - 47) / 3) k (by omega)]
  rw [if_neg j8, if_neg j8]
  by_cases j9 : (j - 47) % 3 = 1
  · rw [if_pos j9, if_pos j9, h 6 ((j - 47) / 3) (by omega)]
  rw [if_neg j9, if_neg j9, ia_ext fun k hk => h (7 + (j - 47) / 3) k (by omega)]
section CK
variable {M : qHp} {o o' : Nat} {s t : Sg}
theorem cB_ext {s' : Sg} (h : ∀ g k, vl g k → s g k = s' g k) : cB M o s = cB M o s' := by
  refine Prod.ext rfl (funext fun q => ?_)
  simp only [cB]
  by_cases hr : o ≤ q ∧ q < o + 56
  · rw [if_pos hr, if_pos hr, cbC_ext h (by omega)]
  · rw [if_neg hr, if_neg hr]
/-- another centre stands at o', it holds t -/
def srcOK (M : qHp) (o o' : Nat) (t : Sg) : Prop := (o' + 56 ≤ o ∨ o + 56 ≤ o') ∧ ∀ j, j < 56 → M.2 (o' + j) = cbC o' t j
theorem sr_at (h : srcOK M o o' t) {j : Nat} (hj : j < 56) : (cB M o s).2 (o' + j) = (cB M o' t).2 (o' + j) := by
  rw [cb_out (by have := h.1; omega), h.2 j hj, cb_at hj]
theorem sr_b (h : srcOK M o o' t) {b w : Nat} (hb : b < 40) (hw : w < 11) : hG (cB M o s) (o' + 7 + b) 0 w = some (.int (t (11 + b) w)) := by
  have e := @sr_at M o o' s t h (7 + b) (by omega)
  rw [← Nat.add_assoc, cb_b hb] at e
  rw [hG_of e]; exact ia_at hw
theorem s_2 (h : srcOK M o o' t) {b : Nat} (hb : b < 40) : qRun 2 [.ref (o + 7 + b), .ref (o' + 7 + b)] (cB M o s) = some (none, cB M o (ug s (11 + b) (t (11 + b)))) := by
  refine qRun_of ?_ rfl
  rw [en_2]
  have e : cB M o (ug s (11 + b) (t (11 + b))) = cB M o (u2 (u2 (u2 (u2 (u2 (u2 (u2 (u2 (u2 (u2 (u2 s (11 + b) 0 (t (11 + b) 0)) (11 + b) 1 (t (11 + b) 1)) (11 + b) 2 (t (11 + b) 2)) (11 + b) 3 (t (11 + b) 3)) (11 + b) 4 (t (11 + b) 4)) (11 + b) 5 (t (11 + b) 5)) (11 + b) 6 (t (11 + b) 6)) (11 + b) 7 (t (11 + b) 7)) (11 + b) 8 (t (11 + b) 8)) (11 + b) 9 (t (11 + b) 9)) (11 + b) 10 (t (11 + b) 10)) := by
    refine cB_ext fun g k hv => ?_
    simp only [u2_at]
    unfold ug
    by_cases hg : g = 11 + b
    · have hk : k < 11 := by unfold vl at hv; omega
      subst hg
      rw [if_pos rfl]
      match k, hk with
      | 0, _ | 1, _ | 2, _ | 3, _ | 4, _ | 5, _ | 6, _ | 7, _ | 8, _ | 9, _ | 10, _ => simp
    · simp only [hg, false_and, if_false]
  rw [e]
  simp only [x_2_0, x_2_1, x_2_2, x_2_5, x_2_8, x_2_9, x_2_10, x_2_13, x_2_16, x_2_17, x_2_18, x_2_21, x_2_24, x_2_25, x_2_26, x_2_29, x_2_32, x_2_33, x_2_34, x_2_37, x_2_40, x_2_41, x_2_42, x_2_45, x_2_48, x_2_49, x_2_50, x_2_53, x_2_56, x_2_57, x_2_58, x_2_61, x_2_64, x_2_65, x_2_66, x_2_69, x_2_72, x_2_73, x_2_74, x_2_77, x_2_80, x_2_81, x_2_82, x_2_85, x_2_88, Option.bind_some, Option.bind_none, Option.toList_some, Option.toList_none, List.cons_append, List.nil_append, pNl_i, pNl_r, pNl_u, pNl_n, bI_0, bI_1, nn_or, or_nn, not_false_eq_true, not_true_eq_false, i1000, i1e0, true_or, or_true, Decidable.not_not, if_true, if_false, Bool.false_eq_true, Int32.zero_add, true_and, and_true, sr_b h hb, bp hb, Nat.reduceLT]
theorem s_59 {a g gi gk a' : Nat} {f : Nat → Int32} {z : Int32} (H : rwOK M o a g gi gk) (h : ∀ s, (cB M o s).2 a' = some (5, [.ref (a' + 1), .int z]) ∧ (cB M o s).2 (a' + 1) = some (8, ia 40 f)) : qRun 59 [.ref a, .ref a'] (cB M o s) = some (none, cB M o (u2 (ug s g f) gi gk z)) := by
  refine qRun_of ?_ rfl
  rw [en_59]
  have g0 : ∀ s, hG (cB M o s) a' 5 0 = some (.ref (a' + 1)) := fun s => hG_of (h s).1
  have g1 : ∀ s, hG (cB M o s) a' 5 1 = some (.int z) := fun s => hG_of (h s).1
  have h4 := @hC_ia (cB M o s) (a' + 1) (a + 1) 40 40 0 0 40 _ _ (h s).2 (H.2 s).2.1 (by omega) (by omega) (by omega) (by omega)
  rw [show ia 40 (fun k => if 0 ≤ k ∧ k < 0 + 40 then f (0 + (k - 0)) else s g k) = ia 40 f from ia_ext fun k hk => by rw [if_pos (by omega)]; congr 1; omega, (H.2 _).2.2.2, nl_0, show nI 40 = 40 from rfl] at h4
  simp only [x_59_0, x_59_1, x_59_4, x_59_5, x_59_6, x_59_9, x_59_10, x_59_12, x_59_15, x_59_16, x_59_17, x_59_20, x_59_23, Option.bind_some, Option.bind_none, Option.toList_some, Option.toList_none, List.cons_append, List.nil_append, pNl_i, pNl_r, pNl_u, pNl_n, bI_0, bI_1, nn_or, or_nn, not_false_eq_true, not_true_eq_false, i1000, i1e0, true_or, or_true, Decidable.not_not, if_true, if_false, Bool.false_eq_true, Int32.zero_add, true_and, and_true, g0, g1, rg_0 H, rp_1 H, h4]
/-- machine m as t has it -/
def tmF (s t : Sg) (m : Nat) : Sg := fun g k => if g = 7 + m then t g k else if g = 6 ∧ k = m then t g k else if g = 3 + m ∧ k < 5 then t g k else s g k
theorem sr_m (h : srcOK M o o' t) {m : Nat} (hm : m < 3) : (cB M o s).2 (o' + 47 + 3 * m) = some (3, .ref (o' + 48 + 3 * m) :: ia 5 (t (3 + m))) := by
  have e := @sr_at M o o' s t h (47 + 3 * m) (by omega)
  rw [cb_at (by omega), cb_mc hm] at e
  rw [show o' + 47 + 3 * m = o' + (47 + 3 * m) by omega]; exact e
theorem sr_q (h : srcOK M o o' t) {m : Nat} (hm : m < 3) (s : Sg) : (cB M o s).2 (o' + 48 + 3 * m) = some (5, [.ref (o' + 48 + 3 * m + 1), .int (t 6 m)]) ∧ (cB M o s).2 (o' + 48 + 3 * m + 1) = some (8, ia 40 (t (7 + m))) := by
  have e := @sr_at M o o' s t h (48 + 3 * m) (by omega)
  rw [cb_at (by omega), cb_qr hm] at e
  have e2 := @sr_at M o o' s t h (49 + 3 * m) (by omega)
  rw [cb_at (by omega), cb_qa hm] at e2
  refine ⟨?_, ?_⟩
  · rw [show o' + 48 + 3 * m = o' + (48 + 3 * m) by omega] at e ⊢; exact e
  · rw [show o' + 48 + 3 * m + 1 = o' + (49 + 3 * m) by omega]; exact e2
theorem s_43 (h : srcOK M o o' t) {m : Nat} (hm : m < 3) : qRun 43 [.ref (o + 47 + 3 * m), .ref (o' + 47 + 3 * m)] (cB M o s) = some (none, cB M o (tmF s t m)) := by
  refine qRun_of ?_ rfl
  rw [en_43]
  have g0 : ∀ s, hG (cB M o s) (o' + 47 + 3 * m) 3 0 = some (.ref (o' + 48 + 3 * m)) := fun s => hG_of (sr_m h hm)
  have gw : ∀ s w, w < 5 → hG (cB M o s) (o' + 47 + 3 * m) 3 (w + 1) = some (.int (t (3 + m) w)) := fun s w hw => by
    rw [hG_of (sr_m h hm), List.getElem?_cons_succ]; exact ia_at hw
  have g1 := fun s => gw s 0 (by omega)
  have g2 := fun s => gw s 1 (by omega)
  have g3 := fun s => gw s 2 (by omega)
  have g4 := fun s => gw s 3 (by omega)
  have g5 := fun s => gw s 4 (by omega)
  have p1 := fun s v => @mp M o s m 0 v hm (by omega)
  have p2 := fun s v => @mp M o s m 1 v hm (by omega)
  have p3 := fun s v => @mp M o s m 2 v hm (by omega)
  have p4 := fun s v => @mp M o s m 3 v hm (by omega)
  have p5 := fun s v => @mp M o s m 4 v hm (by omega)
  simp only [Nat.reduceAdd] at g1 g2 g3 g4 g5 p1 p2 p3 p4 p5
  have a59 := @s_59 M o s (o + 48 + 3 * m) (7 + m) 6 m (o' + 48 + 3 * m) (t (7 + m)) (t 6 m) (rw_q hm) (sr_q h hm)
  simp only [x_43_0, x_43_1, x_43_4, x_43_5, x_43_8, x_43_11, x_43_12, x_43_13, x_43_16, x_43_19, x_43_20, x_43_21, x_43_24, x_43_27, x_43_28, x_43_29, x_43_32, x_43_35, x_43_36, x_43_37, x_43_40, x_43_43, x_43_44, x_43_45, x_43_48, x_43_51, Option.bind_some, Option.bind_none, Option.toList_some, Option.toList_none, List.cons_append, List.nil_append, pNl_i, pNl_r, pNl_u, pNl_n, bI_0, bI_1, nn_or, or_nn, not_false_eq_true, not_true_eq_false, i1000, i1e0, true_or, or_true, Decidable.not_not, if_true, if_false, Bool.false_eq_true, Int32.zero_add, true_and, and_true, mg_0 hm, g0, rT (rw_q hm), a59, g1, g2, g3, g4, g5, p1, p2, p3, p4, p5]
  refine congrArg (fun q => some (none, q)) (cB_ext fun g k hv => ?_)
  simp only [u2_at]
  unfold ug tmF
  by_cases hg : g = 3 + m
  · have hk : k < 5 := by unfold vl at hv; omega
    subst hg
    rw [if_neg (show ¬ 3 + m = 7 + m by omega), if_neg (show ¬ (3 + m = 6 ∧ k = m) by omega), if_pos (show 3 + m = 3 + m ∧ k < 5 from ⟨rfl, hk⟩)]
    match k, hk with
    | 0, _ | 1, _ | 2, _ | 3, _ | 4, _ => simp
  · rw [if_neg (fun q => hg q.1), if_neg (fun q => hg q.1), if_neg (fun q => hg q.1), if_neg (fun q => hg q.1), if_neg (fun q => hg q.1), if_neg (show ¬ (g = 3 + m ∧ k < 5) from fun q => hg q.1)]
    by_cases h7 : g = 7 + m
    · rw [if_pos h7, if_neg (by omega), if_pos h7, h7]
    · rw [if_neg h7, if_neg h7]
      by_cases h6 : g = 6 ∧ k = m
      · rw [if_pos h6, if_pos h6, h6.1, h6.2]
      · rw [if_neg h6, if_neg h6]
/-- what a centre holds that has taken over one with n batches -/
def tvF (s t : Sg) (n : Nat) : Sg := fun g k => if 11 + n ≤ g then s g k else t g k
def tvB (s t : Sg) (n : Nat) : Sg := fun g k => if g = 1 ∨ g = 2 then t g k else if 11 ≤ g ∧ g < 11 + n then t g k else s g k
theorem sr_0 (h : srcOK M o o' t) : (cB M o s).2 o' = some (1, [.ref (o' + 1), .ref (o' + 2), .ref (o' + 3), .ref (o' + 4), .ref (o' + 5), .int (t 0 1), .int (t 0 0), .int (t 0 5), .int (t 0 2), .int (t 0 3), .int (t 0 6)]) := by
  have e := @sr_at M o o' s t h 0 (by omega)
  rw [cb_at (by omega)] at e
  exact e
theorem sr_A (h : srcOK M o o' t) {b : Nat} (hb : b < 40) : hLA (cB M o s) (o' + 3) (nI b) = some (.ref (o' + 7 + b)) := by
  have e := @sr_at M o o' s t h 3 (by omega)
  have e2 := @bA M o' t b hb
  unfold hLA at e2 ⊢
  rw [e]; exact e2
theorem sr_mA (h : srcOK M o o' t) {m : Nat} (hm : m < 3) : hLA (cB M o s) (o' + 4) (nI m) = some (.ref (o' + 47 + 3 * m)) := by
  have e := @sr_at M o o' s t h 4 (by omega)
  have e2 := @mA M o' t m hm
  unfold hLA at e2 ⊢
  rw [e]; exact e2
theorem sr_mT (h : srcOK M o o' t) {m : Nat} (hm : m < 3) : hT (cB M o s) (o' + 47 + 3 * m) 3 = true := hT_of (sr_m h hm)
theorem s_11 (h : srcOK M o o' t) {n : Nat} (hn : t 0 1 = nI n) (h40 : n ≤ 40) : qRun 11 [.ref o, .ref o'] (cB M o s) = some (none, cB M o (tvF s t n)) := by
  have q0 : ∀ s, hG (cB M o s) o' 1 0 = some (.ref (o' + 1)) := fun s => hG_of (sr_0 h)
  have q1 : ∀ s, hG (cB M o s) o' 1 1 = some (.ref (o' + 2)) := fun s => hG_of (sr_0 h)
  have q2 : ∀ s, hG (cB M o s) o' 1 2 = some (.ref (o' + 3)) := fun s => hG_of (sr_0 h)
  have q3 : ∀ s, hG (cB M o s) o' 1 3 = some (.ref (o' + 4)) := fun s => hG_of (sr_0 h)
  have q4 : ∀ s, hG (cB M o s) o' 1 4 = some (.ref (o' + 5)) := fun s => hG_of (sr_0 h)
  have q5 : ∀ s, hG (cB M o s) o' 1 5 = some (.int (t 0 1)) := fun s => hG_of (sr_0 h)
  have q6 : ∀ s, hG (cB M o s) o' 1 6 = some (.int (t 0 0)) := fun s => hG_of (sr_0 h)
  have q7 : ∀ s, hG (cB M o s) o' 1 7 = some (.int (t 0 5)) := fun s => hG_of (sr_0 h)
  have q8 : ∀ s, hG (cB M o s) o' 1 8 = some (.int (t 0 2)) := fun s => hG_of (sr_0 h)
  have q9 : ∀ s, hG (cB M o s) o' 1 9 = some (.int (t 0 3)) := fun s => hG_of (sr_0 h)
  have q10 : ∀ s, hG (cB M o s) o' 1 10 = some (.int (t 0 6)) := fun s => hG_of (sr_0 h)
  have c1 : ∀ s : Sg, hC (cB M o s) (o' + 1) 0 (o + 1) 0 9 = some (cB M o (ug s 1 (t 1))) := by
    intro s
    have e := @sr_at M o o' s t h 1 (by omega)
    rw [cb_at (by omega)] at e
    have h4 := @hC_ia (cB M o s) (o' + 1) (o + 1) 9 9 0 0 9 (t 1) (s 1) e (cb_at (j := 1) (by omega)) (by omega) (by omega) (by omega) (by omega)
    rw [show ia 9 (fun k => if 0 ≤ k ∧ k < 0 + 9 then t 1 (0 + (k - 0)) else s 1 k) = ia 9 (t 1) from ia_ext fun k hk => by rw [if_pos (by omega)]; congr 1; omega] at h4
    refine h4.trans (congrArg some (cb_up (j := 1) (by omega) rfl fun i hi hn => ?_))
    unfold cbC
    by_cases i0 : i = 0
    · rw [if_pos i0, if_pos i0]; rfl
    rw [if_neg i0, if_neg i0, if_neg hn, if_neg hn]
    simp only [ug, show ¬ 2 = 1 by omega, show ¬ 0 = 1 by omega, show ¬ 10 = 1 by omega, show ¬ 11 + (i - 7) = 1 by omega, show ¬ 3 + (i - 47) / 3 = 1 by omega, show ¬ 7 + (i - 47) / 3 = 1 by omega, show ¬ 6 = 1 by omega, if_false]
  have c2 : ∀ s : Sg, hC (cB M o s) (o' + 2) 0 (o + 2) 0 8 = some (cB M o (ug s 2 (t 2))) := by
    intro s
    have e := @sr_at M o o' s t h 2 (by omega)
    rw [cb_at (by omega)] at e
    have h4 := @hC_ia (cB M o s) (o' + 2) (o + 2) 8 8 0 0 8 (t 2) (s 2) e (cb_at (j := 2) (by omega)) (by omega) (by omega) (by omega) (by omega)
    rw [show ia 8 (fun k => if 0 ≤ k ∧ k < 0 + 8 then t 2 (0 + (k - 0)) else s 2 k) = ia 8 (t 2) from ia_ext fun k hk => by rw [if_pos (by omega)]; congr 1; omega] at h4
    refine h4.trans (congrArg some (cb_up (j := 2) (by omega) rfl fun i hi hn => ?_))
    unfold cbC
    by_cases i0 : i = 0
    · rw [if_pos i0, if_pos i0]; rfl
    rw [if_neg i0, if_neg i0]
    by_cases i1 : i = 1
    · rw [if_pos i1, if_pos i1]; rfl
    rw [if_neg i1, if_neg i1, if_neg hn, if_neg hn]
    simp only [ug, show ¬ 0 = 2 by omega, show ¬ 10 = 2 by omega, show ¬ 11 + (i - 7) = 2 by omega, show ¬ 3 + (i - 47) / 3 = 2 by omega, show ¬ 7 + (i - 47) / 3 = 2 by omega, show ¬ 6 = 2 by omega, if_false]
  have loop : ∀ (k b : Nat), b + k = n → qEx 11 (32, [some (.ref o), some (.ref o'), some (.int (nI b))], [], cB M o (tvB s t b)) = qEx 11 (61, [some (.ref o), some (.ref o'), some (.int (nI n))], [], cB M o (tvB s t n)) := by
    intro k
    induction k with
    | zero =>
      intro b hb
      have : b = n := by omega
      subst this
      rw [x_11_32]
      simp only [x_11_0, x_11_1, x_11_4, x_11_5, x_11_6, x_11_9, x_11_10, x_11_12, x_11_15, x_11_16, x_11_19, x_11_20, x_11_21, x_11_24, x_11_25, x_11_27, x_11_30, x_11_31, x_11_33, x_11_34, x_11_37, x_11_40, x_11_41, x_11_44, x_11_45, x_11_46, x_11_47, x_11_50, x_11_51, x_11_52, x_11_55, x_11_58, x_11_62, x_11_63, x_11_64, x_11_65, x_11_68, x_11_69, x_11_72, x_11_73, x_11_74, x_11_75, x_11_78, x_11_79, x_11_80, x_11_83, x_11_86, x_11_89, x_11_90, x_11_93, x_11_94, x_11_97, x_11_100, x_11_101, x_11_102, x_11_105, x_11_108, x_11_109, x_11_110, x_11_113, x_11_116, x_11_117, x_11_118, x_11_121, x_11_124, x_11_125, x_11_126, x_11_129, x_11_132, x_11_133, x_11_134, x_11_137, x_11_140, x_11_141, x_11_142, x_11_145, x_11_148, Option.bind_some, Option.bind_none, Option.toList_some, Option.toList_none, List.cons_append, List.nil_append, pNl_i, pNl_r, pNl_u, pNl_n, bI_0, bI_1, nn_or, or_nn, not_false_eq_true, not_true_eq_false, i1000, i1e0, true_or, or_true, Decidable.not_not, if_true, if_false, Bool.false_eq_true, Int32.zero_add, true_and, and_true, q5, hn, Int32.le_refl]
    | succ k ih =>
      intro b hb
      have hb40 : b < 40 := by omega
      have hlt : (nI n ≤ nI b) = False := by rw [nI_le_iff (by omega) (by omega)]; simp; omega
      have e3 : ug (tvB s t b) (11 + b) (t (11 + b)) = tvB s t (b + 1) := by
        funext g k
        unfold ug tvB
        by_cases hg : g = 11 + b
        · rw [if_pos hg, if_neg (by omega), if_pos (by omega), hg]
        · rw [if_neg hg]
          by_cases h12 : g = 1 ∨ g = 2
          · rw [if_pos h12, if_pos h12]
          · rw [if_neg h12, if_neg h12]
            by_cases hb2 : 11 ≤ g ∧ g < 11 + b
            · rw [if_pos hb2, if_pos (by omega)]
            · rw [if_neg hb2, if_neg (by omega)]
      have a2 := @s_2 M o o' (tvB s t b) t h b hb40
      rw [e3] at a2
      rw [← ih (b + 1) (by omega), x_11_32]
      simp only [x_11_0, x_11_1, x_11_4, x_11_5, x_11_6, x_11_9, x_11_10, x_11_12, x_11_15, x_11_16, x_11_19, x_11_20, x_11_21, x_11_24, x_11_25, x_11_27, x_11_30, x_11_31, x_11_33, x_11_34, x_11_37, x_11_40, x_11_41, x_11_44, x_11_45, x_11_46, x_11_47, x_11_50, x_11_51, x_11_52, x_11_55, x_11_58, x_11_62, x_11_63, x_11_64, x_11_65, x_11_68, x_11_69, x_11_72, x_11_73, x_11_74, x_11_75, x_11_78, x_11_79, x_11_80, x_11_83, x_11_86, x_11_89, x_11_90, x_11_93, x_11_94, x_11_97, x_11_100, x_11_101, x_11_102, x_11_105, x_11_108, x_11_109, x_11_110, x_11_113, x_11_116, x_11_117, x_11_118, x_11_121, x_11_124, x_11_125, x_11_126, x_11_129, x_11_132, x_11_133, x_11_134, x_11_137, x_11_140, x_11_141, x_11_142, x_11_145, x_11_148, Option.bind_some, Option.bind_none, Option.toList_some, Option.toList_none, List.cons_append, List.nil_append, pNl_i, pNl_r, pNl_u, pNl_n, bI_0, bI_1, nn_or, or_nn, not_false_eq_true, not_true_eq_false, i1000, i1e0, true_or, or_true, Decidable.not_not, if_true, if_false, Bool.false_eq_true, Int32.zero_add, true_and, and_true, cg_2, q2, q5, hn, hlt, bA hb40, sr_A h hb40, bT hb40, a2, nI_1]
  have mac : ∀ (m : Nat) (x : Sg), m < 3 → qEx 11 (63, [some (.ref o), some (.ref o'), some (.int (nI m))], [], cB M o x) = qEx 11 (63, [some (.ref o), some (.ref o'), some (.int (nI (m + 1)))], [], cB M o (tmF x t m)) := by
    intro m x hm
    have h3 : ((3 : Int32) ≤ nI m) = False := by rw [show (3 : Int32) = nI 3 from rfl, nI_le_iff (by omega) (by omega)]; simp; omega
    have a43 := @s_43 M o o' x t h m hm
    rw [x_11_63]
    simp only [x_11_0, x_11_1, x_11_4, x_11_5, x_11_6, x_11_9, x_11_10, x_11_12, x_11_15, x_11_16, x_11_19, x_11_20, x_11_21, x_11_24, x_11_25, x_11_27, x_11_30, x_11_31, x_11_33, x_11_34, x_11_37, x_11_40, x_11_41, x_11_44, x_11_45, x_11_46, x_11_47, x_11_50, x_11_51, x_11_52, x_11_55, x_11_58, x_11_62, x_11_64, x_11_65, x_11_68, x_11_69, x_11_72, x_11_73, x_11_74, x_11_75, x_11_78, x_11_79, x_11_80, x_11_83, x_11_86, x_11_89, x_11_90, x_11_93, x_11_94, x_11_97, x_11_100, x_11_101, x_11_102, x_11_105, x_11_108, x_11_109, x_11_110, x_11_113, x_11_116, x_11_117, x_11_118, x_11_121, x_11_124, x_11_125, x_11_126, x_11_129, x_11_132, x_11_133, x_11_134, x_11_137, x_11_140, x_11_141, x_11_142, x_11_145, x_11_148, Option.bind_some, Option.bind_none, Option.toList_some, Option.toList_none, List.cons_append, List.nil_append, pNl_i, pNl_r, pNl_u, pNl_n, bI_0, bI_1, nn_or, or_nn, not_false_eq_true, not_true_eq_false, i1000, i1e0, true_or, or_true, Decidable.not_not, if_true, if_false, Bool.false_eq_true, Int32.zero_add, true_and, and_true, cg_3, q3, h3, mA hm, sr_mA h hm, mT hm, a43, nI_1]
  have first : qEx 11 (0, [some (.ref o), some (.ref o'), none], [], cB M o s) = qEx 11 (32, [some (.ref o), some (.ref o'), some (.int (nI 0))], [], cB M o (tvB s t 0)) := by
    have e : ug (ug s 1 (t 1)) 2 (t 2) = tvB s t 0 := by
      funext g k
      unfold ug tvB
      by_cases g2 : g = 2
      · rw [if_pos g2, if_pos (Or.inr g2), g2]
      · rw [if_neg g2]
        by_cases g1 : g = 1
        · rw [if_pos g1, if_pos (Or.inl g1), g1]
        · rw [if_neg g1, if_neg (by omega), if_neg (by omega)]
    simp only [x_11_0, x_11_1, x_11_4, x_11_5, x_11_6, x_11_9, x_11_10, x_11_12, x_11_15, x_11_16, x_11_19, x_11_20, x_11_21, x_11_24, x_11_25, x_11_27, x_11_30, x_11_31, x_11_33, x_11_34, x_11_37, x_11_40, x_11_41, x_11_44, x_11_45, x_11_46, x_11_47, x_11_50, x_11_51, x_11_52, x_11_55, x_11_58, x_11_62, x_11_64, x_11_65, x_11_68, x_11_69, x_11_72, x_11_73, x_11_74, x_11_75, x_11_78, x_11_79, x_11_80, x_11_83, x_11_86, x_11_89, x_11_90, x_11_93, x_11_94, x_11_97, x_11_100, x_11_101, x_11_102, x_11_105, x_11_108, x_11_109, x_11_110, x_11_113, x_11_116, x_11_117, x_11_118, x_11_121, x_11_124, x_11_125, x_11_126, x_11_129, x_11_132, x_11_133, x_11_134, x_11_137, x_11_140, x_11_141, x_11_142, x_11_145, x_11_148, Option.bind_some, Option.bind_none, Option.toList_some, Option.toList_none, List.cons_append, List.nil_append, pNl_i, pNl_r, pNl_u, pNl_n, bI_0, bI_1, nn_or, or_nn, not_false_eq_true, not_true_eq_false, i1000, i1e0, true_or, or_true, Decidable.not_not, if_true, if_false, Bool.false_eq_true, Int32.zero_add, true_and, and_true, cg_0, cg_1, q0, q1, c1, c2, e]
    rfl
  have last : ∀ x : Sg, qEx 11 (63, [some (.ref o), some (.ref o'), some (.int (nI (2 + 1)))], [], cB M o x) = some (none, cB M o (u2 (u2 (u2 (u2 (u2 (u2 (u2 (ug x 10 (t 10)) 0 4 (t 0 4)) 0 1 (t 0 1)) 0 0 (t 0 0)) 0 5 (t 0 5)) 0 2 (t 0 2)) 0 3 (t 0 3)) 0 6 (t 0 6))) := by
    intro x
    have h3 : ((3 : Int32) ≤ nI (2 + 1)) = True := eq_true (by decide)
    have a59 := @s_59 M o x (o + 5) 10 0 4 (o' + 5) (t 10) (t 0 4) rw_h (fun s => by
      have e := @sr_at M o o' s t h 5 (by omega)
      have e2 := @sr_at M o o' s t h 6 (by omega)
      rw [cb_at (by omega)] at e e2
      exact ⟨e, e2⟩)
    rw [x_11_63]
    simp only [x_11_0, x_11_1, x_11_4, x_11_5, x_11_6, x_11_9, x_11_10, x_11_12, x_11_15, x_11_16, x_11_19, x_11_20, x_11_21, x_11_24, x_11_25, x_11_27, x_11_30, x_11_31, x_11_33, x_11_34, x_11_37, x_11_40, x_11_41, x_11_44, x_11_45, x_11_46, x_11_47, x_11_50, x_11_51, x_11_52, x_11_55, x_11_58, x_11_62, x_11_64, x_11_65, x_11_68, x_11_69, x_11_72, x_11_73, x_11_74, x_11_75, x_11_78, x_11_79, x_11_80, x_11_83, x_11_86, x_11_89, x_11_90, x_11_93, x_11_94, x_11_97, x_11_100, x_11_101, x_11_102, x_11_105, x_11_108, x_11_109, x_11_110, x_11_113, x_11_116, x_11_117, x_11_118, x_11_121, x_11_124, x_11_125, x_11_126, x_11_129, x_11_132, x_11_133, x_11_134, x_11_137, x_11_140, x_11_141, x_11_142, x_11_145, x_11_148, Option.bind_some, Option.bind_none, Option.toList_some, Option.toList_none, List.cons_append, List.nil_append, pNl_i, pNl_r, pNl_u, pNl_n, bI_0, bI_1, nn_or, or_nn, not_false_eq_true, not_true_eq_false, i1000, i1e0, true_or, or_true, Decidable.not_not, if_true, if_false, Bool.false_eq_true, Int32.zero_add, true_and, and_true, cg_4, q4, q5, q6, q7, q8, q9, q10, h3, rT rw_h, a59, cp_5, cp_6, cp_7, cp_8, cp_9, cp_10]
  refine qRun_of ?_ rfl
  rw [en_11, first, loop n 0 (by omega), x_11_61, x_11_62 pNl_r]
  rw [show (Value.int 0) = Value.int (nI 0) from rfl, mac 0 _ (by omega), mac 1 _ (by omega), mac 2 _ (by omega), last]
  refine congrArg (fun q => some (none, q)) (cB_ext fun g k hv => ?_)
  simp only [u2_at]
  unfold ug tmF tvB tvF
  unfold vl at hv
  by_cases g11 : 11 ≤ g
  · rw [if_neg (by omega), if_neg (by omega), if_neg (by omega), if_neg (by omega), if_neg (by omega), if_neg (by omega), if_neg (by omega), if_neg (by omega), if_neg (by omega), if_neg (by omega), if_neg (by omega), if_neg (by omega), if_neg (by omega), if_neg (by omega), if_neg (by omega), if_neg (by omega), if_neg (by omega), if_neg (by omega)]
    by_cases gn : 11 + n ≤ g
    · rw [if_neg (by omega), if_pos gn]
    · rw [if_pos (by omega), if_neg gn]
  · rw [if_neg (show ¬ 11 + n ≤ g by omega)]
    rcases hv with ⟨rfl, hk⟩ | ⟨rfl, hk⟩ | ⟨rfl, hk⟩ | ⟨hg, hk⟩ | ⟨rfl, hk⟩ | ⟨hg, hk⟩ | ⟨hg, hk⟩
    · match k, hk with
      | 0, _ => simp
      | 1, _ => simp
      | 2, _ => simp
      | 3, _ => simp
      | 4, _ => simp
      | 5, _ => simp
      | 6, _ => simp
    · simp
    · simp
    · obtain rfl | rfl | rfl : g = 3 ∨ g = 4 ∨ g = 5 := by omega
      · simp; omega
      · simp; omega
      · simp; omega
    · match k, hk with
      | 0, _ => simp
      | 1, _ => simp
      | 2, _ => simp
    · obtain rfl | rfl | rfl | rfl : g = 7 ∨ g = 8 ∨ g = 9 ∨ g = 10 := by omega
      · simp
      · simp
      · simp
      · simp
    · omega
end CK
