/-! the class: machines and hands at work -/
theorem x_31_14N {l0 l1 l2 l3 : Option Value} {st : List Value} {M : qHp} (hn : qNl (some l2) = true) : qEx 31 (14, [l0, l1, l2, l3], .null :: st, M) = qEx 31 (15, [l0, l1, l2, some .null], st, M) := kk_same f_31_14 (by show (qS1 _ _ _).bind _ = _; unfold qS1; rw [if_pos ⟨Nat.le_of_ble_eq_true rfl, Or.inr hn⟩]; rfl)
theorem x_31_24N {l0 l1 l2 : Option Value} {st : List Value} {M : qHp} : qEx 31 (24, [l0, l1, l2, some .null], st, M) = qEx 31 (25, [l0, l1, l2, some .null], .null :: st, M) := kk_same f_31_24 (rfl)
theorem x_33_8N {l0 l1 l2 l3 : Option Value} {st : List Value} {M : qHp} (hn : qNl (some l2) = true) : qEx 33 (8, [l0, l1, l2, l3], .null :: st, M) = qEx 33 (9, [l0, l1, l2, some .null], st, M) := kk_same f_33_8 (by show (qS1 _ _ _).bind _ = _; unfold qS1; rw [if_pos ⟨Nat.le_of_ble_eq_true rfl, Or.inr hn⟩]; rfl)
theorem x_33_9N {l0 l1 l2 : Option Value} {st : List Value} {M : qHp} : qEx 33 (9, [l0, l1, l2, some .null], st, M) = qEx 33 (10, [l0, l1, l2, some .null], .null :: st, M) := kk_same f_33_9 (rfl)
theorem x_36_38N {l0 l1 l2 l3 l4 : Option Value} {st : List Value} {M : qHp} (hn : qNl (some l2) = true) : qEx 36 (38, [l0, l1, l2, l3, l4], .null :: st, M) = qEx 36 (39, [l0, l1, l2, some .null, l4], st, M) := kk_same f_36_38 (by show (qS1 _ _ _).bind _ = _; unfold qS1; rw [if_pos ⟨Nat.le_of_ble_eq_true rfl, Or.inr hn⟩]; rfl)
theorem x_36_39N {l0 l1 l2 l4 : Option Value} {st : List Value} {M : qHp} : qEx 36 (39, [l0, l1, l2, some .null, l4], st, M) = qEx 36 (40, [l0, l1, l2, some .null, l4], .null :: st, M) := kk_same f_36_39 (rfl)
section CH
variable {M : qHp} {o : Nat} {s : Sg}
/-- the next batch of a queue of q is taken -/
def tnF (s : Sg) (m q : Nat) : Sg := if s (3 + m) 0 = -6 ∧ 0 < q then rmF (ktF s m (s (7 + m) 0) (s (11 + nN (s (7 + m) 0)) 2) (s 1 0)) (7 + m) 6 m q else s
theorem kt_ne {m g k : Nat} {b r e : Int32} (h : g ≠ 3 + m) : ktF s m b r e g k = s g k := by
  unfold ktF
  split
  · rw [u2_at, if_neg (fun q => h q.1), u2_at, if_neg (fun q => h q.1)]
  · rw [u2_at, if_neg (fun q => h q.1), u2_at, if_neg (fun q => h q.1), u2_at, if_neg (fun q => h q.1), u2_at, if_neg (fun q => h q.1)]
theorem m6_lt (n : Nat) (hn : n < 100000) : ¬ (0 ≤ (-6 : Int32) ∧ (-6 : Int32) < nI n) := fun q => absurd q.1 (by decide)
theorem s_31 {m q n : Nat} (hm : m < 3) (hn : s 0 1 = nI n) (h40 : n ≤ 40) (hq : s 6 m = nI q) (hq40 : q ≤ 40) (hb : 0 < q → ∃ b, b < n ∧ s (7 + m) 0 = nI b) : qRun 31 [.ref o, .ref (o + 47 + 3 * m)] (cB M o s) = some (none, cB M o (tnF s m q)) := by
  refine qRun_of ?_ rfl
  rw [en_31]
  have m1 := fun s => @mg M o s m 0 hm (by omega)
  simp only [Nat.reduceAdd] at m1
  have a0 := @s_60 M o s (o + 48 + 3 * m) (7 + m) 6 m q (rw_q hm) 0 hq hq40 (by omega)
  rw [nl_0] at a0
  unfold tnF
  by_cases c0 : 0 < q
  · obtain ⟨b, hbn, e7⟩ := hb c0
    rw [if_pos c0, e7] at a0
    have a1 := @s_17 M o s b n hn h40 hbn
    by_cases c1 : s (3 + m) 0 = -6
    · rw [if_pos ⟨c1, c0⟩, e7, nN_nI (by omega)]
      have a2 := @s_45 M o s m (nI b) (s (11 + b) 2) (s 1 0) hm
      have a3 := @s_62 M o (ktF s m (nI b) (s (11 + b) 2) (s 1 0)) (o + 48 + 3 * m) (7 + m) 6 m q (rw_q hm) (by rw [kt_ne (by omega)]; exact hq) c0 hq40
      simp only [x_31_0, x_31_1, x_31_4, x_31_5, x_31_8, x_31_9, x_31_10, x_31_11, x_31_14, x_31_15, x_31_16, x_31_19, x_31_21, x_31_24, x_31_25N, x_31_25, x_31_28, x_31_29, x_31_30, x_31_31, x_31_34, x_31_35, x_31_38, x_31_39, x_31_40, x_31_43, x_31_44, x_31_47, x_31_50, Option.bind_some, Option.bind_none, Option.toList_some, Option.toList_none, List.cons_append, List.nil_append, pNl_i, pNl_r, pNl_u, pNl_n, bI_0, bI_1, nn_or, or_nn, not_false_eq_true, not_true_eq_false, i1000, i1e0, true_or, or_true, Decidable.not_not, if_true, if_false, Bool.false_eq_true, Int32.zero_add, true_and, and_true, cT, cg_0, mg_0 hm, m1, mT hm, rT (rw_q hm), a0, a1, c1, bT (show b < 40 by omega), bg (show b < 40 by omega), Nat.reduceLT, tl (i := 0) (x := 0) (by omega) rfl, a2, a3]
    · rw [if_neg (fun q => c1 q.1)]
      simp only [x_31_0, x_31_1, x_31_4, x_31_5, x_31_8, x_31_9, x_31_10, x_31_11, x_31_14, x_31_15, x_31_16, x_31_19, x_31_21, x_31_24, x_31_25N, x_31_25, x_31_28, x_31_29, x_31_30, x_31_31, x_31_34, x_31_35, x_31_38, x_31_39, x_31_40, x_31_43, x_31_44, x_31_47, x_31_50, Option.bind_some, Option.bind_none, Option.toList_some, Option.toList_none, List.cons_append, List.nil_append, pNl_i, pNl_r, pNl_u, pNl_n, bI_0, bI_1, nn_or, or_nn, not_false_eq_true, not_true_eq_false, i1000, i1e0, true_or, or_true, Decidable.not_not, if_true, if_false, Bool.false_eq_true, Int32.zero_add, true_and, and_true, cT, cg_0, mg_0 hm, m1, mT hm, rT (rw_q hm), a0, a1, c1]
  · rw [if_neg c0] at a0
    have a1 := @s_17_0 M o s (-6) (by rw [hn]; exact m6_lt n (by omega))
    rw [if_neg (fun q => c0 q.2)]
    by_cases c1 : s (3 + m) 0 = -6
    · simp only [x_31_0, x_31_1, x_31_4, x_31_5, x_31_8, x_31_9, x_31_10, x_31_11, x_31_14, x_31_15, x_31_16, x_31_19, x_31_21, x_31_24, x_31_25N, x_31_25, x_31_28, x_31_29, x_31_30, x_31_31, x_31_34, x_31_35, x_31_38, x_31_39, x_31_40, x_31_43, x_31_44, x_31_47, x_31_50, Option.bind_some, Option.bind_none, Option.toList_some, Option.toList_none, List.cons_append, List.nil_append, pNl_i, pNl_r, pNl_u, pNl_n, bI_0, bI_1, nn_or, or_nn, not_false_eq_true, not_true_eq_false, i1000, i1e0, true_or, or_true, Decidable.not_not, if_true, if_false, Bool.false_eq_true, Int32.zero_add, true_and, and_true, cT, cg_0, mg_0 hm, m1, mT hm, rT (rw_q hm), a0, a1, c1, x_31_14N, x_31_24N]
    · simp only [x_31_0, x_31_1, x_31_4, x_31_5, x_31_8, x_31_9, x_31_10, x_31_11, x_31_14, x_31_15, x_31_16, x_31_19, x_31_21, x_31_24, x_31_25N, x_31_25, x_31_28, x_31_29, x_31_30, x_31_31, x_31_34, x_31_35, x_31_38, x_31_39, x_31_40, x_31_43, x_31_44, x_31_47, x_31_50, Option.bind_some, Option.bind_none, Option.toList_some, Option.toList_none, List.cons_append, List.nil_append, pNl_i, pNl_r, pNl_u, pNl_n, bI_0, bI_1, nn_or, or_nn, not_false_eq_true, not_true_eq_false, i1000, i1e0, true_or, or_true, Decidable.not_not, if_true, if_false, Bool.false_eq_true, Int32.zero_add, true_and, and_true, cT, cg_0, mg_0 hm, m1, mT hm, rT (rw_q hm), a0, a1, c1, x_31_14N, x_31_24N]
/-- those that came now and wait are late -/
def dqF (m : Nat) : Nat → Sg → Sg
  | 0, s => s
  | p + 1, s => if s (11 + nN (s (7 + m) p)) 3 = s 0 0 then dqF m p (dlF s (nN (s (7 + m) p)) 1) else s
theorem dl_ne {b : Nat} {d : Int32} {g k : Nat} (h : g ≠ 11 + b) : dlF s b d g k = s g k := by
  unfold dlF
  split
  · rw [u2_at, if_neg (fun q => h q.1)]
  · rfl
theorem s_32 {m q n : Nat} (hm : m < 3) (hn : s 0 1 = nI n) (h40 : n ≤ 40) (hq : s 6 m = nI q) (hq40 : q ≤ 40) (hb : ∀ i, i < q → ∃ b, b < n ∧ s (7 + m) i = nI b) : qRun 32 [.ref o, .ref (o + 48 + 3 * m)] (cB M o s) = some (none, cB M o (dqF m q s)) := by
  have loop : ∀ (p : Nat) (t : Sg) (l3 : Option Value), qNl (some l3) = true → p ≤ q → t 0 1 = nI n → t 6 m = nI q → (∀ i, i < q → ∃ b, b < n ∧ t (7 + m) i = nI b) → qEx 32 (7, [some (.ref o), some (.ref (o + 48 + 3 * m)), some (.int (nI p - 1)), l3], [], cB M o t) = some (none, cB M o (dqF m p t)) := by
    intro p
    induction p with
    | zero =>
      intro t l3 n3 hp hn hq hb
      have e3 : (nI 0 - 1 < 0) = True := eq_true (by decide)
      rw [x_32_7]
      simp only [x_32_0, x_32_1, x_32_4, x_32_5, x_32_6, x_32_8, x_32_11, x_32_12, x_32_13, x_32_14, x_32_17, x_32_20, x_32_21, x_32_22N, x_32_22, x_32_25, x_32_26, x_32_29, x_32_30, x_32_33, x_32_36, x_32_39, x_32_40, x_32_41, x_32_44, x_32_47, x_32_50, Option.bind_some, Option.bind_none, Option.toList_some, Option.toList_none, List.cons_append, List.nil_append, pNl_i, pNl_r, pNl_u, pNl_n, bI_0, bI_1, nn_or, or_nn, not_false_eq_true, not_true_eq_false, i1000, i1e0, true_or, or_true, Decidable.not_not, if_true, if_false, Bool.false_eq_true, Int32.zero_add, true_and, and_true, e3]
      rfl
    | succ p ih =>
      intro t l3 n3 hp hn hq hb
      have e5 : (nI (p + 1) - 1 : Int32) = nI p := by rw [← nI_1]; exact Int32.add_sub_cancel _ _
      have e3 : (nI p < 0) = False := eq_false (nI_pos (by omega))
      have e9 : (nI p + -1 : Int32) = nI p - 1 := (Int32.sub_eq_add_neg _ _).symm
      obtain ⟨b, hbn, e7⟩ := hb p (by omega)
      have a0 := @s_60 M o t (o + 48 + 3 * m) (7 + m) 6 m q (rw_q hm) p hq hq40 (by omega)
      rw [if_pos (show p < q by omega), e7] at a0
      have a1 := @s_17 M o t b n hn h40 hbn
      rw [show dqF m (p + 1) t = if t (11 + nN (t (7 + m) p)) 3 = t 0 0 then dqF m p (dlF t (nN (t (7 + m) p)) 1) else t from rfl, e7, nN_nI (by omega)]
      rw [x_32_7]
      by_cases c1 : t (11 + b) 3 = t 0 0
      · rw [if_pos c1]
        have ih2 := ih (dlF t b 1) (some (.ref (o + 7 + b))) rfl (by omega) (by rw [dl_ne (by omega)]; exact hn) (by rw [dl_ne (by omega)]; exact hq) (fun i hi => by rw [dl_ne (by omega)]; exact hb i hi)
        simp only [x_32_0, x_32_1, x_32_4, x_32_5, x_32_6, x_32_8, x_32_11, x_32_12, x_32_13, x_32_14, x_32_17, x_32_20, x_32_21, x_32_22N, x_32_22, x_32_25, x_32_26, x_32_29, x_32_30, x_32_33, x_32_36, x_32_39, x_32_40, x_32_41, x_32_44, x_32_47, x_32_50, Option.bind_some, Option.bind_none, Option.toList_some, Option.toList_none, List.cons_append, List.nil_append, pNl_i, pNl_r, pNl_u, pNl_n, bI_0, bI_1, nn_or, or_nn, not_false_eq_true, not_true_eq_false, i1000, i1e0, true_or, or_true, Decidable.not_not, if_true, if_false, Bool.false_eq_true, Int32.zero_add, true_and, and_true, n3, cT, cg_6, rT (rw_q hm), e5, e3, a0, a1, bT (show b < 40 by omega), bg (show b < 40 by omega), Nat.reduceLT, c1, s_5 (show b < 40 by omega), e9]
        exact ih2
      · rw [if_neg c1]
        simp only [x_32_0, x_32_1, x_32_4, x_32_5, x_32_6, x_32_8, x_32_11, x_32_12, x_32_13, x_32_14, x_32_17, x_32_20, x_32_21, x_32_22N, x_32_22, x_32_25, x_32_26, x_32_29, x_32_30, x_32_33, x_32_36, x_32_39, x_32_40, x_32_41, x_32_44, x_32_47, x_32_50, Option.bind_some, Option.bind_none, Option.toList_some, Option.toList_none, List.cons_append, List.nil_append, pNl_i, pNl_r, pNl_u, pNl_n, bI_0, bI_1, nn_or, or_nn, not_false_eq_true, not_true_eq_false, i1000, i1e0, true_or, or_true, Decidable.not_not, if_true, if_false, Bool.false_eq_true, Int32.zero_add, true_and, and_true, n3, cT, cg_6, rT (rw_q hm), e5, e3, a0, a1, bT (show b < 40 by omega), bg (show b < 40 by omega), Nat.reduceLT, c1]
  refine qRun_of ?_ rfl
  rw [en_32]
  have h := loop q s none rfl (Nat.le_refl _) hn hq hb
  rw [← h]
  simp only [x_32_0, x_32_1, x_32_4, x_32_5, x_32_6, x_32_8, x_32_11, x_32_12, x_32_13, x_32_14, x_32_17, x_32_20, x_32_21, x_32_22N, x_32_22, x_32_25, x_32_26, x_32_29, x_32_30, x_32_33, x_32_36, x_32_39, x_32_40, x_32_41, x_32_44, x_32_47, x_32_50, Option.bind_some, Option.bind_none, Option.toList_some, Option.toList_none, List.cons_append, List.nil_append, pNl_i, pNl_r, pNl_u, pNl_n, bI_0, bI_1, nn_or, or_nn, not_false_eq_true, not_true_eq_false, i1000, i1e0, true_or, or_true, Decidable.not_not, if_true, if_false, Bool.false_eq_true, Int32.zero_add, true_and, and_true, rg_1 (rw_q hm), hq]
/-- pieces that a machine sorts -/
def sbR (s : Sg) (p : Int32) : Int32 :=
  let d := (s 0 5 + p) * s 1 1 / 1000 - s 0 5 * s 1 1 / 1000
  if p < d then p else d
def sbF (s : Sg) (m b : Nat) (p : Int32) (w : Nat) : Sg :=
  let s1 := u2 s (3 + m) 3 (s (3 + m) 3 + p)
  let s2 := u2 s1 0 5 (s1 0 5 + p)
  let s3 := u2 s2 0 2 (s2 0 2 + sbR s p)
  let s4 := if sbR s p ≤ 0 then s3 else if s3 (11 + b) 5 = 0 then u2 (u2 s3 10 w (s3 (3 + m) 0)) 0 4 (nI (w + 1)) else s3
  let s5 := clM s4 b p (sbR s p) (s4 0 0)
  if s5 (11 + b) 4 = 0 then u2 s5 (3 + m) 0 (-6) else s5
theorem i1k : ((1000 : Int32) = 0) = False := eq_false (by decide)
theorem s_34 {m b w : Nat} {p : Int32} (hm : m < 3) (hb : b < 40) (hw : s 0 4 = nI w) (hw40 : ¬ sbR s p ≤ 0 → s (11 + b) 5 = 0 → w < 40) : qRun 34 [.ref o, .ref (o + 47 + 3 * m), .ref (o + 7 + b), .int p] (cB M o s) = some (none, cB M o (sbF s m b p w)) := by
  have m1 := fun s => @mg M o s m 0 hm (by omega)
  have m4 := fun s => @mg M o s m 3 hm (by omega)
  have p1 := fun s v => @mp M o s m 0 v hm (by omega)
  have p4 := fun s v => @mp M o s m 3 v hm (by omega)
  simp only [Nat.reduceAdd] at m1 m4 p1 p4
  have fin : ∀ (t : Sg) (x y : Option Value), qEx 34 (83, [some (.ref o), some (.ref (o + 47 + 3 * m)), some (.ref (o + 7 + b)), some (.int p), x, some (.int (sbR s p))], [], cB M o t) = some (none, cB M o (if clM t b p (sbR s p) (t 0 0) (11 + b) 4 = 0 then u2 (clM t b p (sbR s p) (t 0 0)) (3 + m) 0 (-6) else clM t b p (sbR s p) (t 0 0))) := by
    intro t x y
    generalize hc : clM t b p (sbR s p) (t 0 0) = u
    have h8 := @s_8 M o t b p (sbR s p) (t 0 0) hb
    rw [hc] at h8
    by_cases c1 : u (11 + b) 4 = 0
    · simp only [x_34_0, x_34_1, x_34_2, x_34_5, x_34_6, x_34_7, x_34_10, x_34_11, x_34_12, x_34_15, x_34_18, x_34_19, x_34_21, x_34_23, x_34_24, x_34_27, x_34_29, x_34_30, x_34_31, x_34_34, x_34_35, x_34_36, x_34_39, x_34_40, x_34_41, x_34_44, x_34_45, x_34_46, x_34_49, x_34_50, x_34_51, x_34_54, x_34_56, x_34_57, x_34_60, x_34_62, x_34_65, x_34_66, x_34_69, x_34_72, x_34_73, x_34_76, x_34_77, x_34_80, x_34_83, x_34_84, x_34_85, x_34_87, x_34_88, x_34_91, x_34_94, x_34_95, x_34_98, x_34_101, x_34_102, x_34_104, x_34_107, Option.bind_some, Option.bind_none, Option.toList_some, Option.toList_none, List.cons_append, List.nil_append, pNl_i, pNl_r, pNl_u, pNl_n, bI_0, bI_1, nn_or, or_nn, not_false_eq_true, not_true_eq_false, i1000, i1e0, true_or, or_true, Decidable.not_not, if_true, if_false, Bool.false_eq_true, Int32.zero_add, true_and, and_true, cT, cg_6, bT hb, mT hm, h8, bg hb, Nat.reduceLT, c1, p1]
    · simp only [x_34_0, x_34_1, x_34_2, x_34_5, x_34_6, x_34_7, x_34_10, x_34_11, x_34_12, x_34_15, x_34_18, x_34_19, x_34_21, x_34_23, x_34_24, x_34_27, x_34_29, x_34_30, x_34_31, x_34_34, x_34_35, x_34_36, x_34_39, x_34_40, x_34_41, x_34_44, x_34_45, x_34_46, x_34_49, x_34_50, x_34_51, x_34_54, x_34_56, x_34_57, x_34_60, x_34_62, x_34_65, x_34_66, x_34_69, x_34_72, x_34_73, x_34_76, x_34_77, x_34_80, x_34_83, x_34_84, x_34_85, x_34_87, x_34_88, x_34_91, x_34_94, x_34_95, x_34_98, x_34_101, x_34_102, x_34_104, x_34_107, Option.bind_some, Option.bind_none, Option.toList_some, Option.toList_none, List.cons_append, List.nil_append, pNl_i, pNl_r, pNl_u, pNl_n, bI_0, bI_1, nn_or, or_nn, not_false_eq_true, not_true_eq_false, i1000, i1e0, true_or, or_true, Decidable.not_not, if_true, if_false, Bool.false_eq_true, Int32.zero_add, true_and, and_true, cT, cg_6, bT hb, mT hm, h8, bg hb, Nat.reduceLT, c1, p1]
  refine qRun_of ?_ rfl
  rw [en_34]
  unfold sbF
  dsimp only
  generalize hr : sbR s p = r at *
  have hr' : (if p < (s 0 5 + p) * s 1 1 / 1000 - s 0 5 * s 1 1 / 1000 then p else (s 0 5 + p) * s 1 1 / 1000 - s 0 5 * s 1 1 / 1000) = r := hr
  generalize hs1 : u2 s (3 + m) 3 (s (3 + m) 3 + p) = s1
  have e15 : s1 0 5 = s 0 5 := by rw [← hs1, u2_at, if_neg (by omega)]
  generalize hs2 : u2 s1 0 5 (s1 0 5 + p) = s2
  generalize hs3 : u2 s2 0 2 (s2 0 2 + r) = s3
  have e34 : s3 0 4 = nI w := by rw [← hs3, u2_at, if_neg (by omega), ← hs2, u2_at, if_neg (by omega), ← hs1, u2_at, if_neg (by omega)]; exact hw
  have e35 : s3 (11 + b) 5 = s (11 + b) 5 := by rw [← hs3, u2_at, if_neg (by omega), ← hs2, u2_at, if_neg (by omega), ← hs1, u2_at, if_neg (by omega)]
  by_cases c1 : r ≤ 0
  · rw [if_pos c1]
    simp only [x_34_0, x_34_1, x_34_2, x_34_5, x_34_6, x_34_7, x_34_10, x_34_11, x_34_12, x_34_15, x_34_18, x_34_19, x_34_21, x_34_23, x_34_24, x_34_27, x_34_29, x_34_30, x_34_31, x_34_34, x_34_35, x_34_36, x_34_39, x_34_40, x_34_41, x_34_44, x_34_45, x_34_46, x_34_49, x_34_50, x_34_51, x_34_54, x_34_56, x_34_57, x_34_60, x_34_62, x_34_65, x_34_66, x_34_69, x_34_72, x_34_73, x_34_76, x_34_77, x_34_80, x_34_84, x_34_85, x_34_87, x_34_88, x_34_91, x_34_94, x_34_95, x_34_98, x_34_101, x_34_102, x_34_104, x_34_107, Option.bind_some, Option.bind_none, Option.toList_some, Option.toList_none, List.cons_append, List.nil_append, pNl_i, pNl_r, pNl_u, pNl_n, bI_0, bI_1, nn_or, or_nn, not_false_eq_true, not_true_eq_false, i1000, i1e0, true_or, or_true, Decidable.not_not, if_true, if_false, Bool.false_eq_true, Int32.zero_add, true_and, and_true, cT, cg_7, cg_8, cp_7, cp_8, s_35, hr', m1, m4, p1, p4, hs1, hs2, hs3, c1]
    exact fin s3 _ none
  · rw [if_neg c1]
    by_cases c2 : s3 (11 + b) 5 = 0
    · rw [if_pos c2]
      have a1 := @s_61 M o s3 (o + 5) 10 0 4 w rw_h (s3 (3 + m) 0) e34 (hw40 c1 (by rw [← e35]; exact c2))
      simp only [x_34_0, x_34_1, x_34_2, x_34_5, x_34_6, x_34_7, x_34_10, x_34_11, x_34_12, x_34_15, x_34_18, x_34_19, x_34_21, x_34_23, x_34_24, x_34_27, x_34_29, x_34_30, x_34_31, x_34_34, x_34_35, x_34_36, x_34_39, x_34_40, x_34_41, x_34_44, x_34_45, x_34_46, x_34_49, x_34_50, x_34_51, x_34_54, x_34_56, x_34_57, x_34_60, x_34_62, x_34_65, x_34_66, x_34_69, x_34_72, x_34_73, x_34_76, x_34_77, x_34_80, x_34_84, x_34_85, x_34_87, x_34_88, x_34_91, x_34_94, x_34_95, x_34_98, x_34_101, x_34_102, x_34_104, x_34_107, Option.bind_some, Option.bind_none, Option.toList_some, Option.toList_none, List.cons_append, List.nil_append, pNl_i, pNl_r, pNl_u, pNl_n, bI_0, bI_1, nn_or, or_nn, not_false_eq_true, not_true_eq_false, i1000, i1e0, true_or, or_true, Decidable.not_not, if_true, if_false, Bool.false_eq_true, Int32.zero_add, true_and, and_true, cT, cg_4, cg_7, cg_8, cp_7, cp_8, s_35, hr', m1, m4, p1, p4, hs1, hs2, hs3, c1, bT hb, bg hb, Nat.reduceLT, c2, rT rw_h, a1]
      exact fin _ _ none
    · rw [if_neg c2]
      simp only [x_34_0, x_34_1, x_34_2, x_34_5, x_34_6, x_34_7, x_34_10, x_34_11, x_34_12, x_34_15, x_34_18, x_34_19, x_34_21, x_34_23, x_34_24, x_34_27, x_34_29, x_34_30, x_34_31, x_34_34, x_34_35, x_34_36, x_34_39, x_34_40, x_34_41, x_34_44, x_34_45, x_34_46, x_34_49, x_34_50, x_34_51, x_34_54, x_34_56, x_34_57, x_34_60, x_34_62, x_34_65, x_34_66, x_34_69, x_34_72, x_34_73, x_34_76, x_34_77, x_34_80, x_34_84, x_34_85, x_34_87, x_34_88, x_34_91, x_34_94, x_34_95, x_34_98, x_34_101, x_34_102, x_34_104, x_34_107, Option.bind_some, Option.bind_none, Option.toList_some, Option.toList_none, List.cons_append, List.nil_append, pNl_i, pNl_r, pNl_u, pNl_n, bI_0, bI_1, nn_or, or_nn, not_false_eq_true, not_true_eq_false, i1000, i1e0, true_or, or_true, Decidable.not_not, if_true, if_false, Bool.false_eq_true, Int32.zero_add, true_and, and_true, cT, cg_4, cg_7, cg_8, cp_7, cp_8, s_35, hr', m1, m4, p1, p4, hs1, hs2, hs3, c1, bT hb, bg hb, Nat.reduceLT, c2]
      exact fin s3 _ none
/-- a machine's minute -/
def rmM (s : Sg) (m w : Nat) (v : Int32) : Sg :=
  if s (3 + m) 0 = -6 then s else
  let b := nN (s (3 + m) 0)
  let s1 := u2 s 0 3 (s 0 3 + 1)
  if s1 (3 + m) 1 ≤ 0 then sbF s1 m b (if s1 (11 + b) 4 < v then s1 (11 + b) 4 else v) w else dlF (u2 s1 (3 + m) 1 (s1 (3 + m) 1 - 1)) b 2
theorem s_33 {m w n : Nat} {v : Int32} (hm : m < 3) (hn : s 0 1 = nI n) (h40 : n ≤ 40) (hh : s (3 + m) 0 = -6 ∨ ∃ b, b < n ∧ s (3 + m) 0 = nI b ∧ (s (3 + m) 1 ≤ 0 → s 0 4 = nI w ∧ (s (11 + b) 5 = 0 → w < 40))) : qRun 33 [.ref o, .ref (o + 47 + 3 * m), .int v] (cB M o s) = some (none, cB M o (rmM s m w v)) := by
  have m1 := fun s => @mg M o s m 0 hm (by omega)
  have m2 := fun s => @mg M o s m 1 hm (by omega)
  have p2 := fun s v => @mp M o s m 1 v hm (by omega)
  simp only [Nat.reduceAdd] at m1 m2 p2
  refine qRun_of ?_ rfl
  rw [en_33]
  unfold rmM
  rcases hh with hh | ⟨b, hb, hh, hw⟩
  · rw [if_pos hh]
    have a1 := @s_17_0 M o s (-6) (by rw [hn]; exact m6_lt n (by omega))
    simp only [x_33_0, x_33_1, x_33_2, x_33_5, x_33_8, x_33_9, x_33_10N, x_33_10, x_33_13, x_33_14, x_33_15, x_33_16, x_33_19, x_33_20, x_33_21, x_33_24, x_33_25, x_33_28, x_33_31, x_33_32, x_33_33, x_33_36, x_33_37, x_33_38, x_33_41, x_33_42, x_33_43, x_33_46, x_33_49, x_33_50, x_33_51, x_33_52, x_33_53, x_33_54, x_33_57, x_33_60, x_33_63, Option.bind_some, Option.bind_none, Option.toList_some, Option.toList_none, List.cons_append, List.nil_append, pNl_i, pNl_r, pNl_u, pNl_n, bI_0, bI_1, nn_or, or_nn, not_false_eq_true, not_true_eq_false, i1000, i1e0, true_or, or_true, Decidable.not_not, if_true, if_false, Bool.false_eq_true, Int32.zero_add, true_and, and_true, cT, m1, hh, a1, x_33_8N, x_33_9N]
  · have hne : ¬ s (3 + m) 0 = -6 := by
      rw [hh]; intro q
      have := nI_pos (n := b) (by omega)
      rw [q] at this
      exact absurd this (by decide)
    have hb40 : b < 40 := by omega
    rw [if_neg hne]
    dsimp only
    rw [hh, nN_nI (by omega)]
    have a1 := @s_17 M o s b n hn h40 hb
    generalize hs1 : u2 s 0 3 (s 0 3 + 1) = s1
    have e1 : s1 (3 + m) 1 = s (3 + m) 1 := by rw [← hs1, u2_at, if_neg (by omega)]
    have e4 : s1 0 4 = s 0 4 := by rw [← hs1, u2_at, if_neg (by omega)]
    have e5 : s1 (11 + b) 5 = s (11 + b) 5 := by rw [← hs1, u2_at, if_neg (by omega)]
    by_cases c1 : s1 (3 + m) 1 ≤ 0
    · rw [if_pos c1]
      obtain ⟨w1, w2⟩ := hw (by rw [← e1]; exact c1)
      have a2 := fun p => @s_34 M o s1 m b w p hm hb40 (by rw [e4]; exact w1) (fun _ q => w2 (by rw [← e5]; exact q))
      simp only [x_33_0, x_33_1, x_33_2, x_33_5, x_33_8, x_33_9, x_33_10N, x_33_10, x_33_13, x_33_14, x_33_15, x_33_16, x_33_19, x_33_20, x_33_21, x_33_24, x_33_25, x_33_28, x_33_31, x_33_32, x_33_33, x_33_36, x_33_37, x_33_38, x_33_41, x_33_42, x_33_43, x_33_46, x_33_49, x_33_50, x_33_51, x_33_52, x_33_53, x_33_54, x_33_57, x_33_60, x_33_63, Option.bind_some, Option.bind_none, Option.toList_some, Option.toList_none, List.cons_append, List.nil_append, pNl_i, pNl_r, pNl_u, pNl_n, bI_0, bI_1, nn_or, or_nn, not_false_eq_true, not_true_eq_false, i1000, i1e0, true_or, or_true, Decidable.not_not, if_true, if_false, Bool.false_eq_true, Int32.zero_add, true_and, and_true, cT, m1, m2, hh, a1, cg_9, cp_9, hs1, c1, bg hb40, Nat.reduceLT, a2]
    · rw [if_neg c1]
      simp only [x_33_0, x_33_1, x_33_2, x_33_5, x_33_8, x_33_9, x_33_10N, x_33_10, x_33_13, x_33_14, x_33_15, x_33_16, x_33_19, x_33_20, x_33_21, x_33_24, x_33_25, x_33_28, x_33_31, x_33_32, x_33_33, x_33_36, x_33_37, x_33_38, x_33_41, x_33_42, x_33_43, x_33_46, x_33_49, x_33_50, x_33_51, x_33_52, x_33_53, x_33_54, x_33_57, x_33_60, x_33_63, Option.bind_some, Option.bind_none, Option.toList_some, Option.toList_none, List.cons_append, List.nil_append, pNl_i, pNl_r, pNl_u, pNl_n, bI_0, bI_1, nn_or, or_nn, not_false_eq_true, not_true_eq_false, i1000, i1e0, true_or, or_true, Decidable.not_not, if_true, if_false, Bool.false_eq_true, Int32.zero_add, true_and, and_true, cT, m1, m2, p2, hh, a1, cg_9, cp_9, hs1, c1, bT hb40, s_5 hb40]
end CH
