/-! the class: what was, changes of the whole -/
theorem nI_m7 : ∀ a, a < 14 → (nI a - nI a / 7 * 7 : Int32) = nI (a % 7) := by decide
section KH
variable {M : qHp} {K : Nat → Sg} {d v x : Nat → Int32} {f z n : Nat}
theorem k_4 : (kW M K d v x).2 4 = some (6, [.ref 5, .ref 61, .ref 117, .ref 118, .ref 119, .ref 513]) := rfl
theorem k_119 : (kW M K d v x).2 119 = some (2, [.ref 120, .int (d 0), .int (d 1)]) := rfl
theorem k_120 : (kW M K d v x).2 120 = some (13, (List.range 7).map fun j => .ref (121 + 56 * j)) := rfl
theorem k_117 : (kW M K d v x).2 117 = some (13, [.ref 515, .ref 571]) := rfl
theorem k_118 : (kW M K d v x).2 118 = some (9, ia 2 v) := rfl
theorem kT4 : hT (kW M K d v x) 4 6 = true := hT_of k_4
theorem k4_0 : hG (kW M K d v x) 4 6 0 = some (.ref 5) := hG_of k_4
theorem k4_1 : hG (kW M K d v x) 4 6 1 = some (.ref 61) := hG_of k_4
theorem k4_2 : hG (kW M K d v x) 4 6 2 = some (.ref 117) := hG_of k_4
theorem k4_3 : hG (kW M K d v x) 4 6 3 = some (.ref 118) := hG_of k_4
theorem k4_4 : hG (kW M K d v x) 4 6 4 = some (.ref 119) := hG_of k_4
theorem k4_5 : hG (kW M K d v x) 4 6 5 = some (.ref 513) := hG_of k_4
theorem kT119 : hT (kW M K d v x) 119 2 = true := hT_of k_119
theorem kh_0 : hG (kW M K d v x) 119 2 0 = some (.ref 120) := hG_of k_119
theorem kh_1 : hG (kW M K d v x) 119 2 1 = some (.int (d 0)) := hG_of k_119
theorem kh_2 : hG (kW M K d v x) 119 2 2 = some (.int (d 1)) := hG_of k_119
theorem kC_d {d' : Nat → Int32} {q : Nat} (h1 : q ≠ 119) (h2 : q ≠ 513) : kC K d' v x q = kC K d v x q := by
  unfold kC
  simp only [h1, h2, if_false]
theorem kp_1 {w : Int32} : hP (kW M K d v x) 119 2 1 .int (.int w) = some (kW M K (up d 0 w) v x) := by
  rw [hP_of k_119 (Nat.le_of_ble_eq_true rfl) rfl]
  refine congrArg some (kW_up (by omega) rfl fun q hq hn => ?_)
  by_cases h : q = 513
  · subst h; rfl
  · exact kC_d hn h
theorem kp_2 {w : Int32} : hP (kW M K d v x) 119 2 2 .int (.int w) = some (kW M K (up d 1 w) v x) := by
  rw [hP_of k_119 (Nat.le_of_ble_eq_true rfl) rfl]
  refine congrArg some (kW_up (by omega) rfl fun q hq hn => ?_)
  by_cases h : q = 513
  · subst h; rfl
  · exact kC_d hn h
theorem kA_st {j : Nat} (hj : j < 7) : hLA (kW M K d v x) 120 (nI j) = some (.ref (oa (2 + j))) := by
  unfold hLA
  rw [k_120]
  simp only [Option.bind_some]
  rw [if_pos ⟨⟨by omega, by omega⟩, nI_pos (by omega)⟩, nI_clamp (by omega)]
  unfold oa
  rw [if_neg (by omega), if_neg (by omega), if_pos (by omega), Nat.add_sub_cancel_left]
  simp [hj]
theorem kA_sl {j : Nat} (hj : j < 2) : hLA (kW M K d v x) 117 (nI j) = some (.ref (oa (9 + j))) := by
  unfold hLA
  rw [k_117]
  simp only [Option.bind_some]
  rw [if_pos ⟨⟨by omega, by omega⟩, nI_pos (by omega)⟩, nI_clamp (by omega)]
  match j, hj with
  | 0, _ => rfl
  | 1, _ => rfl
theorem kT {i : Nat} (hi : i < 11) : hT (kW M K d v x) (oa i) 1 = true := by
  rw [kW_cB' hi]; exact cT
theorem kT0 : hT (kW M K d v x) 5 1 = true := kT (i := 0) (by omega)
theorem kT1 : hT (kW M K d v x) 61 1 = true := kT (i := 1) (by omega)
theorem i7 : ¬ ((7 : Int32) = 0) := by decide
theorem s_41 (hf : d 0 = nI f) (hz : d 1 = nI z) (f7 : f < 7) (z6 : z ≤ 6) : qRun 41 [.ref 119] (kW M K d v x) = some (some (.ref (oa (2 + (f + z) % 7))), kW M K d v x) := by
  refine qRun_of ?_ rfl
  rw [en_41]
  rw [x_41_0, x_41_1, kh_0, Option.bind_some, x_41_4, x_41_5, kh_1, Option.bind_some, x_41_8, x_41_9, kh_2, Option.bind_some, x_41_12, x_41_13, x_41_15 i7, x_41_16, hf, hz, nI_add, nI_m7 (f + z) (by omega), kA_st (by omega), Option.bind_some, x_41_17]
/-- what is noted -/
def ntK (K : Nat → Sg) (f z n : Nat) : Nat → Sg := us K (2 + (f + z) % 7) (tvF (K (2 + (f + z) % 7)) (K 0) n)
theorem s_38 (hf : d 0 = nI f) (hz : d 1 = nI z) (f7 : f < 7) (z6 : z ≤ 6) (hn : K 0 0 1 = nI n) (h40 : n ≤ 40) : qRun 38 [.ref 119, .ref 5] (kW M K d v x) = some (none, kW M (ntK K f z n) d v x) := by
  refine qRun_of ?_ rfl
  rw [en_38]
  have hi : 2 + (f + z) % 7 < 11 := by omega
  have a11 := kW_run hi (@s_11 (kW M K d v x) (oa (2 + (f + z) % 7)) (oa 0) (K (2 + (f + z) % 7)) (K 0) (kW_src hi (by omega) (by omega)) n hn h40)
  rw [show oa 0 = 5 from rfl] at a11
  simp only [x_38_0, x_38_1, x_38_4, x_38_5, x_38_8, Option.bind_some, Option.bind_none, Option.toList_some, Option.toList_none, List.cons_append, List.nil_append, pNl_i, pNl_r, pNl_u, pNl_n, bI_0, bI_1, nn_or, or_nn, not_false_eq_true, not_true_eq_false, i1000, i1e0, true_or, or_true, Decidable.not_not, if_true, if_false, Bool.false_eq_true, Int32.zero_add, true_and, and_true, kT119, s_41 hf hz f7 z6, kT hi, a11]
  rfl
theorem nt_0 : ntK K f z n 0 = K 0 := us_ne (by omega)
/-- what is kept -/
def kpD (d : Nat → Int32) (f z : Nat) : Nat → Int32 := if z < 6 then up d 1 (nI (z + 1)) else up d 0 (nI ((f + 1) % 7))
theorem s_39 (hf : d 0 = nI f) (hz : d 1 = nI z) (f7 : f < 7) (z6 : z ≤ 6) : qRun 39 [.ref 119] (kW M K d v x) = some (none, kW M K (kpD d f z) v x) := by
  refine qRun_of ?_ rfl
  rw [en_39]
  unfold kpD
  by_cases c : z < 6
  · have e : ((6 : Int32) ≤ nI z) = False := eq_false (by rw [show (6 : Int32) = nI 6 from rfl, nI_le_iff (by omega) (by omega)]; omega)
    rw [if_pos c]
    simp only [x_39_0, x_39_1, x_39_4, x_39_6, x_39_9, x_39_10, x_39_11, x_39_14, x_39_15, x_39_16, x_39_19, x_39_22, x_39_23, x_39_24, x_39_27, x_39_28, x_39_29, x_39_32, x_39_35, Option.bind_some, Option.bind_none, Option.toList_some, Option.toList_none, List.cons_append, List.nil_append, pNl_i, pNl_r, pNl_u, pNl_n, bI_0, bI_1, nn_or, or_nn, not_false_eq_true, not_true_eq_false, i1000, i1e0, true_or, or_true, Decidable.not_not, if_true, if_false, Bool.false_eq_true, Int32.zero_add, true_and, and_true, kh_2, kp_2, hz, e, nI_1]
  · have e : ((6 : Int32) ≤ nI z) = True := eq_true (by rw [show (6 : Int32) = nI 6 from rfl, nI_le_iff (by omega) (by omega)]; omega)
    rw [if_neg c]
    simp only [x_39_0, x_39_1, x_39_4, x_39_6, x_39_9, x_39_10, x_39_11, x_39_14, x_39_15, x_39_16, x_39_19, x_39_22, x_39_23, x_39_24, x_39_27, x_39_28, x_39_29, x_39_32, x_39_35, Option.bind_some, Option.bind_none, Option.toList_some, Option.toList_none, List.cons_append, List.nil_append, pNl_i, pNl_r, pNl_u, pNl_n, bI_0, bI_1, nn_or, or_nn, not_false_eq_true, not_true_eq_false, i1000, i1e0, true_or, or_true, Decidable.not_not, if_true, if_false, Bool.false_eq_true, Int32.zero_add, true_and, and_true, kh_1, kh_2, hz, hf, e, nI_1]
    rw [x_39_31 i7, x_39_32, nI_m7 (f + 1) (by omega), kp_1, Option.bind_some, x_39_35]
theorem s_68_0 {a : Int32} (h : a < 0) : qRun 68 [.ref 4, .int a] (kW M K d v x) = some (some (.int a), kW M K d v x) := by
  refine qRun_of ?_ rfl
  rw [en_68]
  simp only [x_68_0, x_68_1, x_68_4, x_68_5, x_68_8, x_68_11, x_68_12, Option.bind_some, Option.bind_none, Option.toList_some, Option.toList_none, List.cons_append, List.nil_append, pNl_i, pNl_r, pNl_u, pNl_n, bI_0, bI_1, nn_or, or_nn, not_false_eq_true, not_true_eq_false, i1000, i1e0, true_or, or_true, Decidable.not_not, if_true, if_false, Bool.false_eq_true, Int32.zero_add, true_and, and_true, h]
theorem s_68 {a : Int32} (h : ¬ a < 0) (hf : d 0 = nI f) (hz : d 1 = nI z) (f7 : f < 7) (z6 : z ≤ 6) : qRun 68 [.ref 4, .int a] (kW M K d v x) = some (some (.int a), kW M K (kpD d f z) v x) := by
  refine qRun_of ?_ rfl
  rw [en_68]
  simp only [x_68_0, x_68_1, x_68_4, x_68_5, x_68_8, x_68_11, x_68_12, Option.bind_some, Option.bind_none, Option.toList_some, Option.toList_none, List.cons_append, List.nil_append, pNl_i, pNl_r, pNl_u, pNl_n, bI_0, bI_1, nn_or, or_nn, not_false_eq_true, not_true_eq_false, i1000, i1e0, true_or, or_true, Decidable.not_not, if_true, if_false, Bool.false_eq_true, Int32.zero_add, true_and, and_true, h, k4_4, kT119, s_39 hf hz f7 z6]
/-- all that a house needs to be called -/
def hsOK (M : qHp) (K : Nat → Sg) (d : Nat → Int32) (f z n : Nat) : Prop := stOK M ∧ d 0 = nI f ∧ d 1 = nI z ∧ f < 7 ∧ z ≤ 6 ∧ K 0 0 1 = nI n ∧ n ≤ 40
theorem n2 : (-2 : Int32) < 0 := by decide
theorem n1 : (-1 : Int32) < 0 := by decide
theorem n4 : (-4 : Int32) < 0 := by decide
theorem n5 : (-5 : Int32) < 0 := by decide
theorem s_64_0 {i w : Int32} (H : hsOK M K d f z n) (h : ¬ ((0 ≤ i ∧ i ≤ 8) ∧ isF i w = true)) : qRun 64 [.ref 4, .int i, .int w] (kW M K d v x) = some (some (.int (-2)), kW M (ntK K f z n) d v x) := by
  obtain ⟨hs, hf, hz, f7, z6, hn, h40⟩ := H
  refine qRun_of ?_ rfl
  rw [en_64]
  have a12 := kW_same (i := 0) (by omega) (@s_12_0 (kW M (ntK K f z n) d v x) (oa 0) (ntK K f z n 0) i w (kW_st hs) (by decide) h)
  rw [show oa 0 = 5 from rfl] at a12
  simp only [x_64_0, x_64_1, x_64_4, x_64_5, x_64_8, x_64_11, x_64_12, x_64_13, x_64_16, x_64_17, x_64_18, x_64_21, x_64_24, Option.bind_some, Option.bind_none, Option.toList_some, Option.toList_none, List.cons_append, List.nil_append, pNl_i, pNl_r, pNl_u, pNl_n, bI_0, bI_1, nn_or, or_nn, not_false_eq_true, not_true_eq_false, i1000, i1e0, true_or, or_true, Decidable.not_not, if_true, if_false, Bool.false_eq_true, Int32.zero_add, true_and, and_true, kT4, k4_0, k4_4, kT119, kT0, s_38 hf hz f7 z6 hn h40, a12, s_68_0 n2]
theorem s_64 {j : Nat} {w : Int32} (H : hsOK M K d f z n) (hj : j < 9) (h : isF (nI j) w = true) (hp : ¬ K 0 1 j < 0) : qRun 64 [.ref 4, .int (nI j), .int w] (kW M K d v x) = some (some (.int (K 0 1 j)), kW M (us (ntK K f z n) 0 (u2 (K 0) 1 j w)) (kpD d f z) v x) := by
  obtain ⟨hs, hf, hz, f7, z6, hn, h40⟩ := H
  refine qRun_of ?_ rfl
  rw [en_64]
  have a12 := kW_run (i := 0) (by omega) (@s_12 (kW M (ntK K f z n) d v x) (oa 0) (ntK K f z n 0) j w (kW_st hs) (by decide) hj h)
  rw [show oa 0 = 5 from rfl, nt_0] at a12
  simp only [x_64_0, x_64_1, x_64_4, x_64_5, x_64_8, x_64_11, x_64_12, x_64_13, x_64_16, x_64_17, x_64_18, x_64_21, x_64_24, Option.bind_some, Option.bind_none, Option.toList_some, Option.toList_none, List.cons_append, List.nil_append, pNl_i, pNl_r, pNl_u, pNl_n, bI_0, bI_1, nn_or, or_nn, not_false_eq_true, not_true_eq_false, i1000, i1e0, true_or, or_true, Decidable.not_not, if_true, if_false, Bool.false_eq_true, Int32.zero_add, true_and, and_true, kT4, k4_0, k4_4, kT119, kT0, s_38 hf hz f7 z6 hn h40, a12, s_68 hp hf hz f7 z6]
theorem s_65_0 {r w : Int32} (H : hsOK M K d f z n) (h : ¬ (0 ≤ r ∧ r ≤ 7)) : qRun 65 [.ref 4, .int r, .int w] (kW M K d v x) = some (some (.int (-1)), kW M (ntK K f z n) d v x) := by
  obtain ⟨hs, hf, hz, f7, z6, hn, h40⟩ := H
  refine qRun_of ?_ rfl
  rw [en_65]
  have a13 := kW_same (i := 0) (by omega) (@s_13_0 (kW M (ntK K f z n) d v x) (oa 0) (ntK K f z n 0) r w h)
  rw [show oa 0 = 5 from rfl] at a13
  simp only [x_65_0, x_65_1, x_65_4, x_65_5, x_65_8, x_65_11, x_65_12, x_65_13, x_65_16, x_65_17, x_65_18, x_65_21, x_65_24, Option.bind_some, Option.bind_none, Option.toList_some, Option.toList_none, List.cons_append, List.nil_append, pNl_i, pNl_r, pNl_u, pNl_n, bI_0, bI_1, nn_or, or_nn, not_false_eq_true, not_true_eq_false, i1000, i1e0, true_or, or_true, Decidable.not_not, if_true, if_false, Bool.false_eq_true, Int32.zero_add, true_and, and_true, kT4, k4_0, k4_4, kT119, kT0, s_38 hf hz f7 z6 hn h40, a13, s_68_0 n1]
theorem s_65_1 {r w : Int32} (H : hsOK M K d f z n) (h : 0 ≤ r ∧ r ≤ 7) (h2 : ¬ mtOK (K 0) w) : qRun 65 [.ref 4, .int r, .int w] (kW M K d v x) = some (some (.int (-2)), kW M (ntK K f z n) d v x) := by
  obtain ⟨hs, hf, hz, f7, z6, hn, h40⟩ := H
  refine qRun_of ?_ rfl
  rw [en_65]
  have a13 := kW_same (i := 0) (by omega) (@s_13_1 (kW M (ntK K f z n) d v x) (oa 0) (ntK K f z n 0) r w h (by rw [nt_0]; exact h2))
  rw [show oa 0 = 5 from rfl] at a13
  simp only [x_65_0, x_65_1, x_65_4, x_65_5, x_65_8, x_65_11, x_65_12, x_65_13, x_65_16, x_65_17, x_65_18, x_65_21, x_65_24, Option.bind_some, Option.bind_none, Option.toList_some, Option.toList_none, List.cons_append, List.nil_append, pNl_i, pNl_r, pNl_u, pNl_n, bI_0, bI_1, nn_or, or_nn, not_false_eq_true, not_true_eq_false, i1000, i1e0, true_or, or_true, Decidable.not_not, if_true, if_false, Bool.false_eq_true, Int32.zero_add, true_and, and_true, kT4, k4_0, k4_4, kT119, kT0, s_38 hf hz f7 z6 hn h40, a13, s_68_0 n2]
theorem s_65 {r : Nat} {w : Int32} (H : hsOK M K d f z n) (h : r < 8) (h2 : mtOK (K 0) w) (hp : ¬ K 0 2 r < 0) : qRun 65 [.ref 4, .int (nI r), .int w] (kW M K d v x) = some (some (.int (K 0 2 r)), kW M (us (ntK K f z n) 0 (u2 (u2 (K 0) 2 r w) 0 6 (K 0 0 0))) (kpD d f z) v x) := by
  obtain ⟨hs, hf, hz, f7, z6, hn, h40⟩ := H
  refine qRun_of ?_ rfl
  rw [en_65]
  have a13 := kW_run (i := 0) (by omega) (@s_13 (kW M (ntK K f z n) d v x) (oa 0) (ntK K f z n 0) r w h (by rw [nt_0]; exact h2))
  rw [show oa 0 = 5 from rfl, nt_0] at a13
  simp only [x_65_0, x_65_1, x_65_4, x_65_5, x_65_8, x_65_11, x_65_12, x_65_13, x_65_16, x_65_17, x_65_18, x_65_21, x_65_24, Option.bind_some, Option.bind_none, Option.toList_some, Option.toList_none, List.cons_append, List.nil_append, pNl_i, pNl_r, pNl_u, pNl_n, bI_0, bI_1, nn_or, or_nn, not_false_eq_true, not_true_eq_false, i1000, i1e0, true_or, or_true, Decidable.not_not, if_true, if_false, Bool.false_eq_true, Int32.zero_add, true_and, and_true, kT4, k4_0, k4_4, kT119, kT0, s_38 hf hz f7 z6 hn h40, a13, s_68 hp hf hz f7 z6]
theorem ma_neg {s : Sg} {m p r w : Int32} (h : maM s m p r w ≠ 0) : maM s m p r w < 0 := by
  unfold maM at h ⊢
  split
  · exact n1
  · rename_i q; rw [if_neg q] at h
    split
    · exact n2
    · rename_i q2; rw [if_neg q2] at h
      split
      · exact n4
      · rename_i q3; rw [if_neg q3] at h; exact absurd rfl h
theorem s_66_0 {m p r w : Int32} (H : hsOK M K d f z n) (h : maM (K 0) m p r w ≠ 0) : qRun 66 [.ref 4, .int m, .int p, .int r, .int w] (kW M K d v x) = some (some (.int (maM (K 0) m p r w)), kW M (ntK K f z n) d v x) := by
  obtain ⟨hs, hf, hz, f7, z6, hn, h40⟩ := H
  refine qRun_of ?_ rfl
  rw [en_66]
  have a14 := kW_same (i := 0) (by omega) (@s_14_0 (kW M (ntK K f z n) d v x) (oa 0) (ntK K f z n 0) n m p r w (by rw [nt_0]; exact hn) h40 (by rw [nt_0]; exact h))
  rw [show oa 0 = 5 from rfl, nt_0] at a14
  simp only [x_66_0, x_66_1, x_66_4, x_66_5, x_66_8, x_66_11, x_66_12, x_66_13, x_66_16, x_66_17, x_66_18, x_66_19, x_66_21, x_66_24, x_66_27, Option.bind_some, Option.bind_none, Option.toList_some, Option.toList_none, List.cons_append, List.nil_append, pNl_i, pNl_r, pNl_u, pNl_n, bI_0, bI_1, nn_or, or_nn, not_false_eq_true, not_true_eq_false, i1000, i1e0, true_or, or_true, Decidable.not_not, if_true, if_false, Bool.false_eq_true, Int32.zero_add, true_and, and_true, kT4, k4_0, k4_4, kT119, kT0, s_38 hf hz f7 z6 hn h40, a14, s_68_0 (ma_neg h)]
theorem s_66 {m p r w : Int32} (H : hsOK M K d f z n) (h : maM (K 0) m p r w = 0) : qRun 66 [.ref 4, .int m, .int p, .int r, .int w] (kW M K d v x) = some (some (.int (nI n)), kW M (us (ntK K f z n) 0 (u2 (u2 (bgF (K 0) n m p r w) 0 6 (K 0 0 0)) 0 1 (nI (n + 1)))) (kpD d f z) v x) := by
  obtain ⟨hs, hf, hz, f7, z6, hn, h40⟩ := H
  have n40 : n < 40 := by have := md_n hn h; omega
  refine qRun_of ?_ rfl
  rw [en_66]
  have a14 := kW_run (i := 0) (by omega) (@s_14 (kW M (ntK K f z n) d v x) (oa 0) (ntK K f z n 0) n m p r w (by rw [nt_0]; exact hn) n40 (by rw [nt_0]; exact h))
  rw [show oa 0 = 5 from rfl, nt_0] at a14
  simp only [x_66_0, x_66_1, x_66_4, x_66_5, x_66_8, x_66_11, x_66_12, x_66_13, x_66_16, x_66_17, x_66_18, x_66_19, x_66_21, x_66_24, x_66_27, Option.bind_some, Option.bind_none, Option.toList_some, Option.toList_none, List.cons_append, List.nil_append, pNl_i, pNl_r, pNl_u, pNl_n, bI_0, bI_1, nn_or, or_nn, not_false_eq_true, not_true_eq_false, i1000, i1e0, true_or, or_true, Decidable.not_not, if_true, if_false, Bool.false_eq_true, Int32.zero_add, true_and, and_true, kT4, k4_0, k4_4, kT119, kT0, s_38 hf hz f7 z6 hn h40, a14, s_68 (nI_pos (show n < 2147483648 by omega)) hf hz f7 z6]
theorem mp_neg {s : Sg} {w : Int32} (h : maP s w ≠ 0) : maP s w < 0 := by
  unfold maP at h ⊢
  split
  · rename_i q; rw [if_pos q] at h
    split
    · rename_i q2; rw [if_pos q2] at h; exact absurd rfl h
    · exact n5
  · exact n2
theorem s_67_0 {w : Int32} (H : hsOK M K d f z n) (h : maP (K 0) w ≠ 0) : qRun 67 [.ref 4, .int w] (kW M K d v x) = some (some (.int (maP (K 0) w)), kW M (ntK K f z n) d v x) := by
  obtain ⟨hs, hf, hz, f7, z6, hn, h40⟩ := H
  refine qRun_of ?_ rfl
  rw [en_67]
  have a15 := kW_same (i := 0) (by omega) (@s_15_0 (kW M (ntK K f z n) d v x) (oa 0) (ntK K f z n 0) w (by rw [nt_0]; exact h))
  rw [show oa 0 = 5 from rfl, nt_0] at a15
  simp only [x_67_0, x_67_1, x_67_4, x_67_5, x_67_8, x_67_11, x_67_12, x_67_13, x_67_16, x_67_17, x_67_20, x_67_23, Option.bind_some, Option.bind_none, Option.toList_some, Option.toList_none, List.cons_append, List.nil_append, pNl_i, pNl_r, pNl_u, pNl_n, bI_0, bI_1, nn_or, or_nn, not_false_eq_true, not_true_eq_false, i1000, i1e0, true_or, or_true, Decidable.not_not, if_true, if_false, Bool.false_eq_true, Int32.zero_add, true_and, and_true, kT4, k4_0, k4_4, kT119, kT0, s_38 hf hz f7 z6 hn h40, a15, s_68_0 (mp_neg h)]
theorem s_67 {k : Nat} (H : hsOK M K d f z n) (h : maP (K 0) (nI k) = 0) (hk : k ≤ 1440) (hok : lpOK n (K 0 0 0 + nI k) k (K 0)) (hp : ¬ lpF (K 0 0 0 + nI k) k (K 0) 0 0 < 0) : qRun 67 [.ref 4, .int (nI k)] (kW M K d v x) = some (some (.int (lpF (K 0 0 0 + nI k) k (K 0) 0 0)), kW M (us (ntK K f z n) 0 (lpF (K 0 0 0 + nI k) k (K 0))) (kpD d f z) v x) := by
  obtain ⟨hs, hf, hz, f7, z6, hn, h40⟩ := H
  refine qRun_of ?_ rfl
  rw [en_67]
  have a15 := kW_run (i := 0) (by omega) (@s_15 (kW M (ntK K f z n) d v x) (oa 0) (ntK K f z n 0) n k h40 (by rw [nt_0]; exact h) hk (by rw [nt_0]; exact hok))
  rw [show oa 0 = 5 from rfl, nt_0] at a15
  simp only [x_67_0, x_67_1, x_67_4, x_67_5, x_67_8, x_67_11, x_67_12, x_67_13, x_67_16, x_67_17, x_67_20, x_67_23, Option.bind_some, Option.bind_none, Option.toList_some, Option.toList_none, List.cons_append, List.nil_append, pNl_i, pNl_r, pNl_u, pNl_n, bI_0, bI_1, nn_or, or_nn, not_false_eq_true, not_true_eq_false, i1000, i1e0, true_or, or_true, Decidable.not_not, if_true, if_false, Bool.false_eq_true, Int32.zero_add, true_and, and_true, kT4, k4_0, k4_4, kT119, kT0, s_38 hf hz f7 z6 hn h40, a15, s_68 hp hf hz f7 z6]
end KH
