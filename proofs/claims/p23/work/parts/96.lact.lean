/-! the law's act: one call, the object's states after it -/
theorem en_90 {a0 : Nat} {a1 : Nat} {a2 : Int32} : qEntry 90 [.ref a0, .ref a1, .int a2] = [some (.ref a0), some (.ref a1), some (.int a2), none, none, none, none] := rfl
def loI (a y : Int32) : Int32 := (a &&& 2147483647) - (a &&& 2147483647) / y * y
def xg (xs : List Int32) (j : Nat) : Int32 := xs.getD j 0
/-- the object after some calls: f the first place of its ring, z states kept -/
def RP (K : Nat → Sg) (d : Nat → Int32) (f z : Nat) : Prop := (d 0 = nI f ∧ d 1 = nI z ∧ f < 7 ∧ z ≤ 6) ∧ dV (K 0) ∧ ∀ j, j < z → dV (K (2 + (f + j) % 7))
/-- a call: what it told, and the object after it -/
def AC (N : qHp) (v x : Nat → Int32) (K : Nat → Sg) (z : Nat) (o : Option (Option Value × qHp)) : Prop := ∃ (told : Int32) (K' : Nat → Sg) (d' : Nat → Int32) (f' z' : Nat), o = some (some (.int told), kW N K' d' v x) ∧ RP K' d' f' z' ∧ ((0 ≤ told) = True ∨ (0 ≤ told) = False ∧ z' = z ∧ K' 0 = K 0)
section LA
variable {N M : qHp} {K : Nat → Sg} {d d' v x : Nat → Int32} {f z n u j : Nat} {xs : List Int32} {V : Sg} {a b c e k now : Int32}
theorem s_86 {y : Int32} (hy : ¬ y = 0) : qRun 86 [.int a, .int y] M = some (some (.int (loI a y)), M) := by
  refine qRun_of ?_ rfl
  rw [en_86]
  unfold loI
  rw [x_86_0]
  simp only [x_86_1, x_86_3, x_86_4, x_86_5, x_86_6, Option.bind_some, Option.bind_none, Option.toList_some, Option.toList_none, List.cons_append, List.nil_append, pNl_i, pNl_r, pNl_u, pNl_n, bI_0, bI_1, nn_or, or_nn, not_false_eq_true, not_true_eq_false, i1000, i1e0, true_or, or_true, Decidable.not_not, if_true, if_false, Bool.false_eq_true, Int32.zero_add, true_and, and_true, hy]
theorem s_87 (h0 : N.2 0 = some (14, xs.map .int)) (hj : j < xs.length) (hl : xs.length ≤ 260) : qRun 87 [.ref 0, .int (nI j)] (kW N K d v x) = some (some (.int (xg xs j)), kW N K d v x) := by
  refine qRun_of ?_ rfl
  rw [en_87]
  have hW : (kW N K d v x).2 0 = some (14, xs.map .int) := by rw [kW_out (by omega)]; exact h0
  have hlen : (xs.map Value.int).length = xs.length := by simp
  have hlt : ¬ (Int32.ofNat (xs.map Value.int).length ≤ nI j) := by
    rw [hlen]
    show ¬ (nI xs.length ≤ nI j)
    rw [nI_le_iff (by omega) (by omega)]; omega
  have hg : hLI (kW N K d v x) 0 (nI j) = some (.int (xg xs j)) := by
    refine hLI_of hW (Or.inr rfl) (nI_pos (by omega)) ?_
    rw [nI_clamp (by omega)]
    unfold xg
    simp [hj]
  rw [x_87_0, x_87_1, x_87_2 hW, x_87_3, if_neg hlt, x_87_6, x_87_7, x_87_8, hg, Option.bind_some, x_87_9, x_87_20]
theorem RP_hs (hN : stOK N) (H : RP K d f z) (h : rV n u (K 0)) : hsOK N K d f z n :=
  ⟨hN, H.1.1, H.1.2.1, H.1.2.2.1, H.1.2.2.2, (rV_00 h).2.1, (rV_00 h).2.2.1⟩
theorem rp_nt0 : ntK K f z n 0 = K 0 := by unfold ntK; rw [us_ne (by omega)]
theorem RP_nt (H : RP K d f z) : RP (ntK K f z n) d f z := by
  obtain ⟨⟨a1, a2, a3, a4⟩, b, e⟩ := H
  refine ⟨⟨a1, a2, a3, a4⟩, by rw [rp_nt0]; exact b, fun j hj => ?_⟩
  unfold ntK
  rw [us_ne (by omega)]
  exact e j hj
theorem RP_rec (H : RP K d f z) (hr : rV n u (K 0)) (hV : dV V) : ∃ f' z', RP (us (ntK K f z n) 0 V) (kpD d f z) f' z' := by
  obtain ⟨⟨a1, a2, a3, a4⟩, b, e⟩ := H
  unfold kpD
  by_cases hz : z < 6
  · rw [if_pos hz]
    refine ⟨f, z + 1, ⟨by rw [up_n (by omega)]; exact a1, up_at, a3, by omega⟩, by rw [us_s]; exact hV, fun j hj => ?_⟩
    unfold ntK
    rw [us_ne (by omega)]
    by_cases c : j = z
    · rw [c, us_s]
      exact ⟨n, u, rV_tv hr⟩
    · rw [us_ne (by omega)]
      exact e j (by omega)
  · have z6 : z = 6 := by omega
    subst z6
    rw [if_neg hz]
    refine ⟨(f + 1) % 7, 6, ⟨up_at, by rw [up_n (by omega)]; exact a2, by omega, by omega⟩, by rw [us_s]; exact hV, fun j hj => ?_⟩
    unfold ntK
    rw [us_ne (by omega)]
    by_cases c : j = 5
    · rw [c, show 2 + ((f + 1) % 7 + 5) % 7 = 2 + (f + 6) % 7 by omega, us_s]
      exact ⟨n, u, rV_tv hr⟩
    · rw [us_ne (by omega), show 2 + ((f + 1) % 7 + j) % 7 = 2 + (f + (j + 1)) % 7 by omega]
      exact e (j + 1) (by omega)
theorem AC_nt {y : Int32} {o : Option (Option Value × qHp)} (H : RP K d f z) (hy : y < 0) (e : o = some (some (.int y), kW N (ntK K f z n) d v x)) : AC N v x K z o :=
  ⟨y, _, d, f, z, e, RP_nt H, Or.inr ⟨eq_false (fun q => Int32.lt_irrefl (Int32.lt_of_le_of_lt q hy)), rfl, rp_nt0⟩⟩
theorem AC_rec {o : Option (Option Value × qHp)} {y : Nat} (H : RP K d f z) (hr : rV n u (K 0)) (hV : dV V) (hy : y < 100000) (e : o = some (some (.int (nI y)), kW N (us (ntK K f z n) 0 V) (kpD d f z) v x)) : AC N v x K z o := by
  obtain ⟨f', z', H'⟩ := RP_rec H hr hV
  exact ⟨nI y, _, _, f', z', e, H', Or.inl (eq_true (nI_pos' (by omega)))⟩
theorem ac_64 (hN : stOK N) (H : RP K d f z) : AC N v x K z (qRun 64 [.ref 4, .int a, .int b] (kW N K d v x)) := by
  obtain ⟨n, u, hr⟩ := H.2.1
  have hs := RP_hs hN H hr
  by_cases h : (0 ≤ a ∧ a ≤ 8) ∧ isF a b = true
  · obtain ⟨j, hj, ej⟩ := nI_bt (n := 8) (by omega) h.1.1 h.1.2
    have hv := h.2
    rw [ej] at hv
    obtain ⟨w, ew, _, _, _, hw⟩ := st_of (by omega) ((rV_w hr).1.1.2.1 j (by omega))
    have r1 := s_64 (v := v) (x := x) hs (show j < 9 by omega) hv (by rw [ew]; exact nI_pos (by omega))
    rw [ew] at r1
    rw [ej]
    exact AC_rec H hr ⟨n, u, rV_set hr hv⟩ (by omega) r1
  · exact AC_nt H (by decide) (s_64_0 hs h)
theorem ac_65 (hN : stOK N) (H : RP K d f z) : AC N v x K z (qRun 65 [.ref 4, .int a, .int b] (kW N K d v x)) := by
  obtain ⟨n, u, hr⟩ := H.2.1
  have hs := RP_hs hN H hr
  by_cases h : 0 ≤ a ∧ a ≤ 7
  · by_cases h2 : mtOK (K 0) b
    · obtain ⟨r, hr7, er⟩ := nI_bt (n := 7) (by omega) h.1 h.2
      have hr' := hr
      obtain ⟨t, ht, _⟩ := hr'
      have em : t 0 0 ≤ b ∧ b ≤ 1439 := by
        unfold mtOK at h2
        rw [(rI_00 ht).1] at h2
        rw [(rI_00 ht).2.1]; exact h2
      obtain ⟨w, ew, hw⟩ := mt_0 ht em
      obtain ⟨q, hq, eq⟩ := (rV_w hr).1.1.2.2 r (by omega)
      have r1 := s_65 (v := v) (x := x) hs (show r < 8 by omega) h2 (by rw [eq]; exact nI_pos (by omega))
      rw [eq] at r1
      rw [er]
      exact AC_rec H hr ⟨n, u, by rw [ew]; exact rV_cut hr hw⟩ (by omega) r1
    · exact AC_nt H (by decide) (s_65_1 hs h h2)
  · exact AC_nt H (by decide) (s_65_0 hs h)
theorem ac_66 (hN : stOK N) (H : RP K d f z) : AC N v x K z (qRun 66 [.ref 4, .int a, .int b, .int c, .int e] (kW N K d v x)) := by
  obtain ⟨n, u, hr⟩ := H.2.1
  have hs := RP_hs hN H hr
  have hr' := hr
  obtain ⟨t, ht, _⟩ := hr'
  have em := sE_ma (m := a) (p := b) (r := c) (z := e) (rI_E ht)
  by_cases h : maM (K 0) a b c e = 0
  · obtain ⟨m', p', r', c', e1, e2, e3, e4, k1, k2, k3, k4, k5, hn40⟩ := ma_0 ht (em.symm.trans h)
    have r1 := s_66 (v := v) (x := x) hs h
    exact AC_rec H hr ⟨n + 1, u, by rw [e1, e2, e3, e4]; exact rV_mail hr hn40 k1 k2 k3 k4 k5⟩ (by omega) r1
  · refine AC_nt H ?_ (s_66_0 hs h)
    unfold maM at h ⊢
    split
    · decide
    · split
      · decide
      · split
        · decide
        · rename_i q1 q2 q3
          rw [if_neg q1, if_neg q2, if_neg q3] at h
          exact absurd rfl h
theorem ac_67 (hN : stOK N) (H : RP K d f z) : AC N v x K z (qRun 67 [.ref 4, .int a] (kW N K d v x)) := by
  obtain ⟨n, u, hr⟩ := H.2.1
  have hs := RP_hs hN H hr
  have hr' := hr
  obtain ⟨t, ht, _⟩ := hr'
  have em := sE_mp (z := a) (rI_E ht)
  by_cases h : maP (K 0) a = 0
  · obtain ⟨k, ek, k1, k2⟩ := mp_0 ht (em.symm.trans h)
    obtain ⟨p1, p2, p3⟩ := rV_pass hr k2
    have r1 := s_67 (v := v) (x := x) (k := k) hs (by rw [← ek]; exact h) (by omega) p1 (by rw [p3]; exact nI_pos (by omega))
    rw [p3] at r1
    rw [ek]
    exact AC_rec H hr ⟨n, u + k, p2⟩ (by omega) r1
  · refine AC_nt H ?_ (s_67_0 hs h)
    unfold maP at h ⊢
    split
    · split
      · rename_i q1 q2
        rw [if_pos q1, if_pos q2] at h
        exact absurd rfl h
      · decide
    · decide
theorem ac_83 (H : RP K d f z) : AC N v x K z (qRun 83 [.ref 4] (kW N K d v x)) := by
  have H0 := H
  obtain ⟨⟨a1, a2, a3, a4⟩, b, e⟩ := H
  by_cases c1 : z = 0
  · subst c1
    exact ⟨-5, K, d, f, 0, s_83_0 a2, H0, Or.inr ⟨eq_false (by decide), rfl, rfl⟩⟩
  · obtain ⟨w, rfl⟩ : ∃ w, z = w + 1 := ⟨z - 1, by omega⟩
    obtain ⟨m, u, hr⟩ := e w (by omega)
    obtain ⟨s0, s1, hn, hu⟩ := rV_00 hr
    have r1 := @s_83 N K d v x f w m a1 a2 a3 (by omega) s1 hn
    refine ⟨nI w, _, _, f, w, r1, ⟨⟨(up_n (by omega)).trans a1, up_at, a3, by omega⟩, by rw [us_s]; exact ⟨m, u, rV_tv hr⟩, fun j hj => by rw [us_ne (by omega)]; exact e j (by omega)⟩, Or.inl (eq_true (nI_pos' (by omega)))⟩
theorem AC_ret {o : Option (Option Value × qHp)} {g : Option Value × qHp → Option (Option Value × qHp)} (h : AC N v x K z o) (hg : ∀ (a : Int32) (M : qHp), g (some (.int a), M) = some (some (.int a), M)) : AC N v x K z (o.bind g) := by
  obtain ⟨t, K', d', f', z', e, r⟩ := h
  exact ⟨t, K', d', f', z', by rw [e, Option.bind_some, hg], r⟩
theorem AC_if {p : Prop} [Decidable p] {A B : Option (Option Value × qHp)} (hA : AC N v x K z A) (hB : AC N v x K z B) : AC N v x K z (if p then A else B) := by
  by_cases h : p
  · rw [if_pos h]; exact hA
  · rw [if_neg h]; exact hB
theorem br_104 (hN : stOK N) (H : RP K d f z) : AC N v x K z (qEx 90 (104, [some (.ref 4), some (.ref 0), some (.int k), some (.int a), some (.int b), some (.int c), some (.int now)], [], kW N K d v x)) := by
  have i3 : ¬ (3 : Int32) = 0 := by decide
  have i400 : ¬ (400 : Int32) = 0 := by decide
  have i8 : ¬ (8 : Int32) = 0 := by decide
  have i9 : ¬ (9 : Int32) = 0 := by decide
  rw [x_90_104]
  simp only [x_90_0, x_90_1, x_90_2, x_90_3, x_90_4, x_90_7, x_90_8, x_90_9, x_90_10, x_90_11, x_90_12, x_90_15, x_90_17, x_90_18, x_90_19, x_90_20, x_90_21, x_90_24, x_90_26, x_90_27, x_90_28, x_90_31, x_90_33, x_90_34, x_90_35, x_90_38, x_90_40, x_90_43, x_90_104, x_90_105, x_90_106, x_90_107, x_90_110, x_90_111, x_90_113, x_90_116, x_90_119, x_90_120, x_90_122, x_90_124, x_90_127, x_90_129, x_90_130, x_90_132, x_90_135, x_90_136, x_90_140, x_90_141, x_90_142, x_90_144, x_90_147, x_90_149, x_90_151, x_90_153, x_90_156, x_90_157, x_90_160, x_90_161, x_90_162, x_90_163, x_90_164, x_90_167, x_90_168, x_90_169, x_90_171, x_90_173, x_90_176, x_90_179, x_90_180, x_90_181, x_90_182, x_90_184, x_90_187, x_90_190, x_90_193, x_90_194, x_90_195, x_90_196, x_90_197, x_90_198, x_90_201, x_90_202, x_90_204, x_90_205, x_90_208, x_90_211, x_90_212, x_90_213, x_90_215, x_90_216, x_90_217, x_90_220, x_90_221, x_90_222, x_90_224, x_90_226, x_90_229, x_90_230, x_90_233, x_90_234, x_90_235, x_90_238, x_90_239, x_90_240, x_90_241, x_90_243, x_90_245, x_90_248, x_90_249, x_90_252, Option.bind_some, Option.bind_none, Option.toList_some, Option.toList_none, List.cons_append, List.nil_append, pNl_i, pNl_r, pNl_u, pNl_n, bI_0, bI_1, nn_or, or_nn, not_false_eq_true, not_true_eq_false, i1000, i1e0, true_or, or_true, Decidable.not_not, if_true, if_false, Bool.false_eq_true, Int32.zero_add, true_and, and_true, kT4, s_86 i3, s_86 i400, s_86 i8, s_86 i9]
  exact AC_ret (ac_66 hN H) (fun a M => x_90_139)
theorem br_140 (hN : stOK N) (H : RP K d f z) : AC N v x K z (qEx 90 (140, [some (.ref 4), some (.ref 0), some (.int k), some (.int a), some (.int b), some (.int c), some (.int now)], [], kW N K d v x)) := by
  have i40 : ¬ (40 : Int32) = 0 := by decide
  have i8 : ¬ (8 : Int32) = 0 := by decide
  rw [x_90_140]
  simp only [x_90_0, x_90_1, x_90_2, x_90_3, x_90_4, x_90_7, x_90_8, x_90_9, x_90_10, x_90_11, x_90_12, x_90_15, x_90_17, x_90_18, x_90_19, x_90_20, x_90_21, x_90_24, x_90_26, x_90_27, x_90_28, x_90_31, x_90_33, x_90_34, x_90_35, x_90_38, x_90_40, x_90_43, x_90_104, x_90_105, x_90_106, x_90_107, x_90_110, x_90_111, x_90_113, x_90_116, x_90_119, x_90_120, x_90_122, x_90_124, x_90_127, x_90_129, x_90_130, x_90_132, x_90_135, x_90_136, x_90_139, x_90_140, x_90_141, x_90_142, x_90_144, x_90_147, x_90_149, x_90_151, x_90_153, x_90_156, x_90_157, x_90_161, x_90_162, x_90_163, x_90_164, x_90_167, x_90_168, x_90_169, x_90_171, x_90_173, x_90_176, x_90_179, x_90_180, x_90_181, x_90_182, x_90_184, x_90_187, x_90_190, x_90_193, x_90_194, x_90_195, x_90_196, x_90_197, x_90_198, x_90_201, x_90_202, x_90_204, x_90_205, x_90_208, x_90_211, x_90_212, x_90_213, x_90_215, x_90_216, x_90_217, x_90_220, x_90_221, x_90_222, x_90_224, x_90_226, x_90_229, x_90_230, x_90_233, x_90_234, x_90_235, x_90_238, x_90_239, x_90_240, x_90_241, x_90_243, x_90_245, x_90_248, x_90_249, x_90_252, Option.bind_some, Option.bind_none, Option.toList_some, Option.toList_none, List.cons_append, List.nil_append, pNl_i, pNl_r, pNl_u, pNl_n, bI_0, bI_1, nn_or, or_nn, not_false_eq_true, not_true_eq_false, i1000, i1e0, true_or, or_true, Decidable.not_not, if_true, if_false, Bool.false_eq_true, Int32.zero_add, true_and, and_true, kT4, s_86 i8, s_86 i40]
  exact AC_ret (ac_65 hN H) (fun a M => x_90_160)
theorem br_161 (hN : stOK N) (H : RP K d f z) : AC N v x K z (qEx 90 (161, [some (.ref 4), some (.ref 0), some (.int k), some (.int a), some (.int b), some (.int c), some (.int now)], [], kW N K d v x)) := by
  have i2 : ¬ (2 : Int32) = 0 := by decide
  have i9 : ¬ (9 : Int32) = 0 := by decide
  rw [x_90_161]
  simp only [x_90_0, x_90_1, x_90_2, x_90_3, x_90_4, x_90_7, x_90_8, x_90_9, x_90_10, x_90_11, x_90_12, x_90_15, x_90_17, x_90_18, x_90_19, x_90_20, x_90_21, x_90_24, x_90_26, x_90_27, x_90_28, x_90_31, x_90_33, x_90_34, x_90_35, x_90_38, x_90_40, x_90_43, x_90_104, x_90_105, x_90_106, x_90_107, x_90_110, x_90_111, x_90_113, x_90_116, x_90_119, x_90_120, x_90_122, x_90_124, x_90_127, x_90_129, x_90_130, x_90_132, x_90_135, x_90_136, x_90_139, x_90_140, x_90_141, x_90_142, x_90_144, x_90_147, x_90_149, x_90_151, x_90_153, x_90_156, x_90_157, x_90_160, x_90_161, x_90_162, x_90_163, x_90_164, x_90_167, x_90_168, x_90_169, x_90_171, x_90_173, x_90_176, x_90_180, x_90_181, x_90_182, x_90_184, x_90_187, x_90_190, x_90_193, x_90_194, x_90_195, x_90_196, x_90_197, x_90_198, x_90_201, x_90_202, x_90_204, x_90_205, x_90_208, x_90_211, x_90_212, x_90_213, x_90_215, x_90_216, x_90_217, x_90_220, x_90_221, x_90_222, x_90_224, x_90_226, x_90_229, x_90_230, x_90_233, x_90_234, x_90_235, x_90_238, x_90_239, x_90_240, x_90_241, x_90_243, x_90_245, x_90_248, x_90_249, x_90_252, Option.bind_some, Option.bind_none, Option.toList_some, Option.toList_none, List.cons_append, List.nil_append, pNl_i, pNl_r, pNl_u, pNl_n, bI_0, bI_1, nn_or, or_nn, not_false_eq_true, not_true_eq_false, i1000, i1e0, true_or, or_true, Decidable.not_not, if_true, if_false, Bool.false_eq_true, Int32.zero_add, true_and, and_true, kT4, s_86 i2, s_86 i9]
  exact AC_ret (ac_64 hN H) (fun a M => x_90_179)
theorem br_180 (hN : stOK N) (H : RP K d f z) : AC N v x K z (qEx 90 (180, [some (.ref 4), some (.ref 0), some (.int k), some (.int a), some (.int b), some (.int c), some (.int now)], [], kW N K d v x)) := by
  have i501 : ¬ (501 : Int32) = 0 := by decide
  rw [x_90_180]
  simp only [x_90_0, x_90_1, x_90_2, x_90_3, x_90_4, x_90_7, x_90_8, x_90_9, x_90_10, x_90_11, x_90_12, x_90_15, x_90_17, x_90_18, x_90_19, x_90_20, x_90_21, x_90_24, x_90_26, x_90_27, x_90_28, x_90_31, x_90_33, x_90_34, x_90_35, x_90_38, x_90_40, x_90_43, x_90_104, x_90_105, x_90_106, x_90_107, x_90_110, x_90_111, x_90_113, x_90_116, x_90_119, x_90_120, x_90_122, x_90_124, x_90_127, x_90_129, x_90_130, x_90_132, x_90_135, x_90_136, x_90_139, x_90_140, x_90_141, x_90_142, x_90_144, x_90_147, x_90_149, x_90_151, x_90_153, x_90_156, x_90_157, x_90_160, x_90_161, x_90_162, x_90_163, x_90_164, x_90_167, x_90_168, x_90_169, x_90_171, x_90_173, x_90_176, x_90_179, x_90_180, x_90_181, x_90_182, x_90_184, x_90_187, x_90_190, x_90_194, x_90_195, x_90_196, x_90_197, x_90_198, x_90_201, x_90_202, x_90_204, x_90_205, x_90_208, x_90_211, x_90_212, x_90_213, x_90_215, x_90_216, x_90_217, x_90_220, x_90_221, x_90_222, x_90_224, x_90_226, x_90_229, x_90_230, x_90_233, x_90_234, x_90_235, x_90_238, x_90_239, x_90_240, x_90_241, x_90_243, x_90_245, x_90_248, x_90_249, x_90_252, Option.bind_some, Option.bind_none, Option.toList_some, Option.toList_none, List.cons_append, List.nil_append, pNl_i, pNl_r, pNl_u, pNl_n, bI_0, bI_1, nn_or, or_nn, not_false_eq_true, not_true_eq_false, i1000, i1e0, true_or, or_true, Decidable.not_not, if_true, if_false, Bool.false_eq_true, Int32.zero_add, true_and, and_true, kT4, s_86 i501]
  exact AC_ret (ac_64 hN H) (fun a M => x_90_193)
theorem br_194 (hN : stOK N) (H : RP K d f z) : AC N v x K z (qEx 90 (194, [some (.ref 4), some (.ref 0), some (.int k), some (.int a), some (.int b), some (.int c), some (.int now)], [], kW N K d v x)) := by
  have i2 : ¬ (2 : Int32) = 0 := by decide
  rw [x_90_194]
  simp only [x_90_0, x_90_1, x_90_2, x_90_3, x_90_4, x_90_7, x_90_8, x_90_9, x_90_10, x_90_11, x_90_12, x_90_15, x_90_17, x_90_18, x_90_19, x_90_20, x_90_21, x_90_24, x_90_26, x_90_27, x_90_28, x_90_31, x_90_33, x_90_34, x_90_35, x_90_38, x_90_40, x_90_43, x_90_104, x_90_105, x_90_106, x_90_107, x_90_110, x_90_111, x_90_113, x_90_116, x_90_119, x_90_120, x_90_122, x_90_124, x_90_127, x_90_129, x_90_130, x_90_132, x_90_135, x_90_136, x_90_139, x_90_140, x_90_141, x_90_142, x_90_144, x_90_147, x_90_149, x_90_151, x_90_153, x_90_156, x_90_157, x_90_160, x_90_161, x_90_162, x_90_163, x_90_164, x_90_167, x_90_168, x_90_169, x_90_171, x_90_173, x_90_176, x_90_179, x_90_180, x_90_181, x_90_182, x_90_184, x_90_187, x_90_190, x_90_193, x_90_194, x_90_195, x_90_196, x_90_197, x_90_198, x_90_201, x_90_202, x_90_204, x_90_205, x_90_208, x_90_212, x_90_213, x_90_215, x_90_216, x_90_217, x_90_220, x_90_221, x_90_222, x_90_224, x_90_226, x_90_229, x_90_230, x_90_233, x_90_234, x_90_235, x_90_238, x_90_239, x_90_240, x_90_241, x_90_243, x_90_245, x_90_248, x_90_249, x_90_252, Option.bind_some, Option.bind_none, Option.toList_some, Option.toList_none, List.cons_append, List.nil_append, pNl_i, pNl_r, pNl_u, pNl_n, bI_0, bI_1, nn_or, or_nn, not_false_eq_true, not_true_eq_false, i1000, i1e0, true_or, or_true, Decidable.not_not, if_true, if_false, Bool.false_eq_true, Int32.zero_add, true_and, and_true, kT4, s_86 i2]
  exact AC_ret (ac_64 hN H) (fun a M => x_90_211)
theorem br_212 (hN : stOK N) (H : RP K d f z) : AC N v x K z (qEx 90 (212, [some (.ref 4), some (.ref 0), some (.int k), some (.int a), some (.int b), some (.int c), some (.int now)], [], kW N K d v x)) := by
  have i3 : ¬ (3 : Int32) = 0 := by decide
  have i100 : ¬ (100 : Int32) = 0 := by decide
  rw [x_90_212]
  simp only [x_90_0, x_90_1, x_90_2, x_90_3, x_90_4, x_90_7, x_90_8, x_90_9, x_90_10, x_90_11, x_90_12, x_90_15, x_90_17, x_90_18, x_90_19, x_90_20, x_90_21, x_90_24, x_90_26, x_90_27, x_90_28, x_90_31, x_90_33, x_90_34, x_90_35, x_90_38, x_90_40, x_90_43, x_90_104, x_90_105, x_90_106, x_90_107, x_90_110, x_90_111, x_90_113, x_90_116, x_90_119, x_90_120, x_90_122, x_90_124, x_90_127, x_90_129, x_90_130, x_90_132, x_90_135, x_90_136, x_90_139, x_90_140, x_90_141, x_90_142, x_90_144, x_90_147, x_90_149, x_90_151, x_90_153, x_90_156, x_90_157, x_90_160, x_90_161, x_90_162, x_90_163, x_90_164, x_90_167, x_90_168, x_90_169, x_90_171, x_90_173, x_90_176, x_90_179, x_90_180, x_90_181, x_90_182, x_90_184, x_90_187, x_90_190, x_90_193, x_90_194, x_90_195, x_90_196, x_90_197, x_90_198, x_90_201, x_90_202, x_90_204, x_90_205, x_90_208, x_90_211, x_90_212, x_90_213, x_90_215, x_90_216, x_90_217, x_90_220, x_90_221, x_90_222, x_90_224, x_90_226, x_90_229, x_90_230, x_90_234, x_90_235, x_90_238, x_90_239, x_90_240, x_90_241, x_90_243, x_90_245, x_90_248, x_90_249, x_90_252, Option.bind_some, Option.bind_none, Option.toList_some, Option.toList_none, List.cons_append, List.nil_append, pNl_i, pNl_r, pNl_u, pNl_n, bI_0, bI_1, nn_or, or_nn, not_false_eq_true, not_true_eq_false, i1000, i1e0, true_or, or_true, Decidable.not_not, if_true, if_false, Bool.false_eq_true, Int32.zero_add, true_and, and_true, kT4, s_86 i3, s_86 i100]
  exact AC_ret (ac_64 hN H) (fun a M => x_90_233)
theorem br_234 (H : RP K d f z) : AC N v x K z (qEx 90 (234, [some (.ref 4), some (.ref 0), some (.int k), some (.int a), some (.int b), some (.int c), some (.int now)], [], kW N K d v x)) := by
  rw [x_90_234]
  simp only [x_90_0, x_90_1, x_90_2, x_90_3, x_90_4, x_90_7, x_90_8, x_90_9, x_90_10, x_90_11, x_90_12, x_90_15, x_90_17, x_90_18, x_90_19, x_90_20, x_90_21, x_90_24, x_90_26, x_90_27, x_90_28, x_90_31, x_90_33, x_90_34, x_90_35, x_90_38, x_90_40, x_90_43, x_90_104, x_90_105, x_90_106, x_90_107, x_90_110, x_90_111, x_90_113, x_90_116, x_90_119, x_90_120, x_90_122, x_90_124, x_90_127, x_90_129, x_90_130, x_90_132, x_90_135, x_90_136, x_90_139, x_90_140, x_90_141, x_90_142, x_90_144, x_90_147, x_90_149, x_90_151, x_90_153, x_90_156, x_90_157, x_90_160, x_90_161, x_90_162, x_90_163, x_90_164, x_90_167, x_90_168, x_90_169, x_90_171, x_90_173, x_90_176, x_90_179, x_90_180, x_90_181, x_90_182, x_90_184, x_90_187, x_90_190, x_90_193, x_90_194, x_90_195, x_90_196, x_90_197, x_90_198, x_90_201, x_90_202, x_90_204, x_90_205, x_90_208, x_90_211, x_90_212, x_90_213, x_90_215, x_90_216, x_90_217, x_90_220, x_90_221, x_90_222, x_90_224, x_90_226, x_90_229, x_90_230, x_90_233, x_90_234, x_90_235, x_90_239, x_90_240, x_90_241, x_90_243, x_90_245, x_90_248, x_90_249, x_90_252, Option.bind_some, Option.bind_none, Option.toList_some, Option.toList_none, List.cons_append, List.nil_append, pNl_i, pNl_r, pNl_u, pNl_n, bI_0, bI_1, nn_or, or_nn, not_false_eq_true, not_true_eq_false, i1000, i1e0, true_or, or_true, Decidable.not_not, if_true, if_false, Bool.false_eq_true, Int32.zero_add, true_and, and_true, kT4]
  exact AC_ret (ac_83 H) (fun a M => x_90_238)
theorem br_239 (hN : stOK N) (H : RP K d f z) : AC N v x K z (qEx 90 (239, [some (.ref 4), some (.ref 0), some (.int k), some (.int a), some (.int b), some (.int c), some (.int now)], [], kW N K d v x)) := by
  have i12 : ¬ (12 : Int32) = 0 := by decide
  rw [x_90_239]
  simp only [x_90_0, x_90_1, x_90_2, x_90_3, x_90_4, x_90_7, x_90_8, x_90_9, x_90_10, x_90_11, x_90_12, x_90_15, x_90_17, x_90_18, x_90_19, x_90_20, x_90_21, x_90_24, x_90_26, x_90_27, x_90_28, x_90_31, x_90_33, x_90_34, x_90_35, x_90_38, x_90_40, x_90_43, x_90_104, x_90_105, x_90_106, x_90_107, x_90_110, x_90_111, x_90_113, x_90_116, x_90_119, x_90_120, x_90_122, x_90_124, x_90_127, x_90_129, x_90_130, x_90_132, x_90_135, x_90_136, x_90_139, x_90_140, x_90_141, x_90_142, x_90_144, x_90_147, x_90_149, x_90_151, x_90_153, x_90_156, x_90_157, x_90_160, x_90_161, x_90_162, x_90_163, x_90_164, x_90_167, x_90_168, x_90_169, x_90_171, x_90_173, x_90_176, x_90_179, x_90_180, x_90_181, x_90_182, x_90_184, x_90_187, x_90_190, x_90_193, x_90_194, x_90_195, x_90_196, x_90_197, x_90_198, x_90_201, x_90_202, x_90_204, x_90_205, x_90_208, x_90_211, x_90_212, x_90_213, x_90_215, x_90_216, x_90_217, x_90_220, x_90_221, x_90_222, x_90_224, x_90_226, x_90_229, x_90_230, x_90_233, x_90_234, x_90_235, x_90_238, x_90_239, x_90_240, x_90_241, x_90_243, x_90_245, x_90_248, x_90_249, Option.bind_some, Option.bind_none, Option.toList_some, Option.toList_none, List.cons_append, List.nil_append, pNl_i, pNl_r, pNl_u, pNl_n, bI_0, bI_1, nn_or, or_nn, not_false_eq_true, not_true_eq_false, i1000, i1e0, true_or, or_true, Decidable.not_not, if_true, if_false, Bool.false_eq_true, Int32.zero_add, true_and, and_true, kT4, s_86 i12]
  exact AC_ret (ac_67 hN H) (fun a M => x_90_252)
theorem s_90 (hN : stOK N) (h0 : N.2 0 = some (14, xs.map .int)) (hl : xs.length ≤ 260) (hj : j + 3 < xs.length) (H : RP K d f z) : AC N v x K z (qRun 90 [.ref 4, .ref 0, .int (nI j)] (kW N K d v x)) := by
  have hE : AC N v x K z (qEx 90 (0, qEntry 90 [.ref 4, .ref 0, .int (nI j)], [], kW N K d v x)) := by
    obtain ⟨n, u, hr⟩ := H.2.1
    obtain ⟨s0, s1, hn, hu⟩ := rV_00 hr
    have a1 : nI j + 1 = nI (j + 1) := nI_add j 1
    have a2 : nI j + 2 = nI (j + 2) := nI_add j 2
    have a3 : nI j + 3 = nI (j + 3) := nI_add j 3
    have i16 : ¬ (16 : Int32) = 0 := by decide
    rw [en_90, x_90_0]
    simp only [x_90_1, x_90_2, x_90_3, x_90_4, x_90_7, x_90_8, x_90_9, x_90_10, x_90_11, x_90_12, x_90_15, x_90_17, x_90_18, x_90_19, x_90_20, x_90_21, x_90_24, x_90_26, x_90_27, x_90_28, x_90_31, x_90_33, x_90_34, x_90_35, x_90_38, x_90_40, x_90_104, x_90_105, x_90_106, x_90_107, x_90_110, x_90_111, x_90_113, x_90_116, x_90_119, x_90_120, x_90_122, x_90_124, x_90_127, x_90_129, x_90_130, x_90_132, x_90_135, x_90_136, x_90_139, x_90_140, x_90_141, x_90_142, x_90_144, x_90_147, x_90_149, x_90_151, x_90_153, x_90_156, x_90_157, x_90_160, x_90_161, x_90_162, x_90_163, x_90_164, x_90_167, x_90_168, x_90_169, x_90_171, x_90_173, x_90_176, x_90_179, x_90_180, x_90_181, x_90_182, x_90_184, x_90_187, x_90_190, x_90_193, x_90_194, x_90_195, x_90_196, x_90_197, x_90_198, x_90_201, x_90_202, x_90_204, x_90_205, x_90_208, x_90_211, x_90_212, x_90_213, x_90_215, x_90_216, x_90_217, x_90_220, x_90_221, x_90_222, x_90_224, x_90_226, x_90_229, x_90_230, x_90_233, x_90_234, x_90_235, x_90_238, x_90_239, x_90_240, x_90_241, x_90_243, x_90_245, x_90_248, x_90_249, x_90_252, Option.bind_some, Option.bind_none, Option.toList_some, Option.toList_none, List.cons_append, List.nil_append, pNl_i, pNl_r, pNl_u, pNl_n, bI_0, bI_1, nn_or, or_nn, not_false_eq_true, not_true_eq_false, i1000, i1e0, true_or, or_true, Decidable.not_not, if_true, if_false, Bool.false_eq_true, Int32.zero_add, true_and, and_true, kT4, a1, a2, a3, s_87 h0 (show j < xs.length by omega) hl, s_87 h0 (show j + 1 < xs.length by omega) hl, s_87 h0 (show j + 2 < xs.length by omega) hl, s_87 h0 (show j + 3 < xs.length by omega) hl, cq_0 s1 hn, s_86 i16]
    rw [x_90_43]
    exact AC_if (br_104 hN H) (AC_if (br_104 hN H) (AC_if (br_104 hN H) (AC_if (br_104 hN H) (AC_if (br_104 hN H) (AC_if (br_104 hN H) (AC_if (br_140 hN H) (AC_if (br_161 hN H) (AC_if (br_180 hN H) (AC_if (br_194 hN H) (AC_if (br_212 hN H) (AC_if (br_234 H) (br_239 hN H))))))))))))
  obtain ⟨t, K', d', f', z', e, r⟩ := hE
  exact ⟨t, K', d', f', z', qRun_of e rfl, r⟩
end LA
