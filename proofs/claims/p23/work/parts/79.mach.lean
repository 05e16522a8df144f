/-! a machine in a minute: what is kept -/
section MA
variable {D s t A B : Sg} {n u b m a : Nat}
theorem m6_n {k : Nat} (hk : k < 100000) : ¬ nI k = -6 := fun h => nI_pos (n := k) (by omega) (by rw [h]; decide)
theorem bt_eq {f f' : Nat → Int32} (h : btI u f) (e : ∀ k, k < 9 → f' k = f k) : btI u f' := by
  obtain ⟨m, p, r, c, w, hh, y, g, z, ⟨e0, e1, e2, e3, e4, e5, e6, e7, e8⟩, k⟩ := h
  exact ⟨m, p, r, c, w, hh, y, g, z, ⟨(e 0 (by omega)).trans e0, (e 1 (by omega)).trans e1, (e 2 (by omega)).trans e2, (e 3 (by omega)).trans e3, (e 4 (by omega)).trans e4, (e 5 (by omega)).trans e5, (e 6 (by omega)).trans e6, (e 7 (by omega)).trans e7, (e 8 (by omega)).trans e8⟩, k⟩
/-- the machine's queue is delayed -/
theorem dM_dq (h : dM n u a s) {k : Nat} : dM n u a (itF (dqS m) k s) := by
  refine dM_row h (fun g hg => dq_g hg) (fun c hc => ⟨⟨dq_k (by omega), dq_nz⟩, fun q => ?_, bt_eq (h.2.1 c hc) (fun k hk => dq_k (by omega))⟩)
  rw [dq_k (by omega)]; exact q
theorem dM_q (h : dM n u m s) (hm : m < 3) (hn : n ≤ 40) {q : Nat} (hq : s 6 m = nI q) (hq2 : q ≤ 40) : qvE n (u + 1) (itF (dqS m) q s) m := by
  obtain ⟨q', p, hp, e6, R⟩ := (h.2.2.1 m hm).2 (Nat.le_refl _)
  have hl := rw_le hn R
  rw [e6, nI_eq_iff (by omega) (by omega)] at hq
  subst hq
  refine ⟨q', by rw [dq_g (by omega)]; exact e6, rw_mo R (fun i _ => by rw [dq_g (by omega)]) (fun i c hi hc e P => ⟨?_, ?_⟩)⟩
  · rw [dq_k (by omega)]
    by_cases hi2 : i < p
    · obtain ⟨⟨z, hz, ez⟩, _⟩ := P.1 hi2
      exact ⟨z, by omega, ez⟩
    · exact ⟨u, by omega, (P.2 (by omega)).2⟩
  · have := dq_all (s := s) hm q' i hi
    rw [e, nN_nI (by omega)] at this
    exact this
theorem dM_next (h : dM n u m s) (hq : qvE n (u + 1) s m) : dM n u (m + 1) s := by
  refine ⟨h.1, h.2.1, fun m' hm' => ⟨fun q => ?_, fun q => (h.2.2.1 m' hm').2 (by omega)⟩, fun m' hm' => ⟨(h.2.2.2.1 m' hm').1, raI_mo (h.2.2.2.1 m' hm').2 rfl ?_⟩, h.2.2.2.2⟩
  · by_cases c : m' = m
    · subst c; exact hq
    · exact (h.2.2.1 m' hm').1 (by omega)
  · by_cases c : m' < m
    · rw [if_pos c, if_pos (by omega)]
      exact Nat.le_refl _
    · rw [if_neg c]; omega
/-- the time to set up becomes less -/
theorem dM_y (h : dM n u a s) (hm : m < 3) (hb : b < n) {y z : Nat} (hz : z ≤ 30) (e0 : s (3 + m) 0 = nI b) (e9 : s (11 + b) 9 ≠ 0) : dM n u a (u2 s (3 + m) 1 (nI z)) := by
  obtain ⟨h1, h2, h3, h4, h5⟩ := h
  have hr : ∀ c, c < n → rmO (s (11 + c)) (u2 s (3 + m) 1 (nI z) (11 + c)) := fun c _ => by rw [u2_g (by omega)]; exact rm_rf
  refine ⟨bs_mo h1 (by rw [u2_g (by omega)]) (by rw [u2_g (by omega)]) (fun i _ => u2_ne (by omega)) (fun i _ => u2_ne (by omega)), fun c hc => by rw [u2_g (by omega)]; exact h2 c hc, fun m' hm' => ⟨fun q => qvE_mo ((h3 m' hm').1 q) (by rw [u2_g (by omega)]) (u2_g (by omega)) hr, fun q => quI_mo ((h3 m' hm').2 q) (by rw [u2_g (by omega)]) (u2_g (by omega)) hr⟩, fun m' hm' => ⟨?_, raI_mo (h4 m' hm').2 (u2_ne (by omega)) (Nat.le_refl _)⟩, lnI_mo h5 (by rw [u2_g (by omega)]) (u2_g (by omega)) (fun c _ q => by rw [u2_g (by omega)]; exact q)⟩
  by_cases c : m' = m
  · subst c
    exact ⟨z, hz, u2_s, Or.inr ⟨b, hb, by rw [u2_ne (by omega)]; exact e0, Or.inr (by rw [u2_ne (by omega)]; exact e9)⟩⟩
  · exact mcI_mo (h4 m' hm').1 (u2_ne (by omega)) (u2_ne (by omega)) hr
/-- a machine sorts -/
theorem dM_so (h : dM n u m D) (hq : qvE n (u + 1) D m) (hm : m < 3) (hb : b < n) {l x w hh y many bad : Nat} (e0 : D (3 + m) 0 = nI b) (e1 : D (3 + m) 1 = 0) (h4 : D (11 + b) 4 = nI w) (h5 : D (11 + b) 5 = nI hh) (h6 : D (11 + b) 6 = nI y) (hx : D (3 + m) 3 = nI x) (hl : D 0 4 = nI l) (hxu : x ≤ 100 * u) (kw : w ≤ 999) (kh : hh ≤ 999) (ky : y ≤ 999) (kl : l ≤ 40) (k1 : many ≤ w) (k2 : bad ≤ many) (k3 : many ≤ 100) : dM n u (m + 1) (SO D m b l x w hh y many bad) := by
  have H := dM_next h hq
  obtain ⟨h1, h2, h3, h4', h5'⟩ := H
  have hn : n ≤ 40 := h1.1.2.2.1
  have v1 : ∀ g, 0 < g → g ≠ 3 + m → g ≠ 10 → g ≠ 11 + b → SO D m b l x w hh y many bad g = D g := fun g a1 a2 a3 a4 => by
    unfold SO
    simp (disch := omega) only [u2_g]
  have v0 : ∀ k, k ≠ 2 → k ≠ 4 → SO D m b l x w hh y many bad 0 k = D 0 k := fun k a1 a2 => by
    unfold SO
    simp (disch := omega) only [u2_ne]
  have v04 : SO D m b l x w hh y many bad 0 4 = if bad ≠ 0 ∧ hh = 0 then nI (l + 1) else nI l := by
    unfold SO
    simp (disch := omega) only [u2_ne, u2_s]
  have v10 : SO D m b l x w hh y many bad 10 = up (D 10) l (if bad ≠ 0 ∧ hh = 0 then nI b else D 10 l) := by
    unfold SO
    simp (disch := omega) only [u2_g]
    have : ∀ X : Sg, X 10 = D 10 → ∀ v, u2 X 10 l v 10 = up (D 10) l v := fun X hX v => by rw [← hX, up_u2]
    exact this _ (by simp (disch := omega) only [u2_g]) _
  have vb : ∀ k, k < 9 → k ≠ 4 → k ≠ 5 → k ≠ 6 → SO D m b l x w hh y many bad (11 + b) k = D (11 + b) k := fun k a1 a2 a3 a4 => by
    unfold SO
    simp (disch := omega) only [u2_ne]
  have vb4 : SO D m b l x w hh y many bad (11 + b) 4 = nI (w - many) := by
    unfold SO
    simp (disch := omega) only [u2_ne, u2_s]
  have vb5 : SO D m b l x w hh y many bad (11 + b) 5 = nI (hh + bad) := by
    unfold SO
    simp (disch := omega) only [u2_ne, u2_s]
  have vb6 : SO D m b l x w hh y many bad (11 + b) 6 = nI (y + many - bad) := by
    unfold SO
    simp (disch := omega) only [u2_ne, u2_s]
  have vb9 : D (11 + b) 9 ≠ 0 → SO D m b l x w hh y many bad (11 + b) 9 ≠ 0 := fun q => by
    unfold SO
    simp (disch := omega) only [u2_ne, u2_s]
    rw [if_neg q, ite_self]
    exact q
  have vm0 : SO D m b l x w hh y many bad (3 + m) 0 = if w - many = 0 then -6 else D (3 + m) 0 := by
    unfold SO
    simp (disch := omega) only [u2_ne, u2_s]
  have vm1 : SO D m b l x w hh y many bad (3 + m) 1 = D (3 + m) 1 := by
    unfold SO
    simp (disch := omega) only [u2_ne]
  have vm3 : SO D m b l x w hh y many bad (3 + m) 3 = nI (x + many) := by
    unfold SO
    simp (disch := omega) only [u2_ne, u2_s]
  generalize SO D m b l x w hh y many bad = V at v1 v0 v04 v10 vb vb4 vb5 vb6 vb9 vm0 vm1 vm3 ⊢
  have hr : ∀ c, c < n → rmO (D (11 + c)) (V (11 + c)) := fun c _ => by
    by_cases cb : c = b
    · subst cb; exact ⟨vb 3 (by omega) (by omega) (by omega) (by omega), vb9⟩
    · rw [v1 _ (by omega) (by omega) (by omega) (by omega)]; exact rm_rf
  have hr5 : ∀ c, c < n → D (11 + c) 5 ≠ 0 → V (11 + c) 5 ≠ 0 := fun c _ q => by
    by_cases cb : c = b
    · subst cb
      rw [vb5]
      rw [h5] at q
      exact nI_ne0 (by
        have : hh ≠ 0 := fun z => q (by rw [z]; rfl)
        omega) (by omega)
    · rw [v1 _ (by omega) (by omega) (by omega) (by omega)]; exact q
  refine ⟨bs_mo h1 (v0 0 (by omega) (by omega)) (v0 1 (by omega) (by omega)) (fun i _ => by rw [v1 1 (by omega) (by omega) (by omega) (by omega)]) (fun i _ => by rw [v1 2 (by omega) (by omega) (by omega) (by omega)]), fun c hc => ?_, fun m' hm' => ⟨fun q => qvE_mo ((h3 m' hm').1 q) (by rw [v1 6 (by omega) (by omega) (by omega) (by omega)]) (v1 _ (by omega) (by omega) (by omega) (by omega)) hr, fun q => quI_mo ((h3 m' hm').2 q) (by rw [v1 6 (by omega) (by omega) (by omega) (by omega)]) (v1 _ (by omega) (by omega) (by omega) (by omega)) hr⟩, fun m' hm' => ?_, ?_⟩
  · by_cases cb : c = b
    · subst cb
      obtain ⟨m', p, r, c', w', h', y', g, z, ⟨e0, e1, e2, e3, e4, e5, e6, e7, e8⟩, ⟨j1, j2, j3, j4, j5, j6, j7, j8⟩⟩ := h2 c hc
      have q4 : w' = w := by rw [h4, nI_eq_iff (by omega) (by omega)] at e4; exact e4.symm
      have q5 : h' = hh := by rw [h5, nI_eq_iff (by omega) (by omega)] at e5; exact e5.symm
      have q6 : y' = y := by rw [h6, nI_eq_iff (by omega) (by omega)] at e6; exact e6.symm
      subst q4 q5 q6
      exact ⟨m', p, r, c', w' - many, h' + bad, y' + many - bad, g, z, ⟨(vb 0 (by omega) (by omega) (by omega) (by omega)).trans e0, (vb 1 (by omega) (by omega) (by omega) (by omega)).trans e1, (vb 2 (by omega) (by omega) (by omega) (by omega)).trans e2, (vb 3 (by omega) (by omega) (by omega) (by omega)).trans e3, vb4, vb5, vb6, (vb 7 (by omega) (by omega) (by omega) (by omega)).trans e7, (vb 8 (by omega) (by omega) (by omega) (by omega)).trans e8⟩, ⟨j1, j2, j3, j4, j5, by omega, j7, j8⟩⟩
    · rw [v1 _ (by omega) (by omega) (by omega) (by omega)]; exact h2 c hc
  · by_cases cm : m' = m
    · subst cm
      refine ⟨⟨0, by omega, by rw [vm1, e1]; rfl, ?_⟩, ⟨x + many, by rw [if_pos (by omega)]; omega, vm3⟩⟩
      by_cases cw : w - many = 0
      · exact Or.inl ⟨by rw [vm0, if_pos cw], rfl⟩
      · exact Or.inr ⟨b, hb, by rw [vm0, if_neg cw, e0], Or.inl rfl⟩
    · refine ⟨mcI_mo (h4' m' hm').1 (by rw [v1 _ (by omega) (by omega) (by omega) (by omega)]) (by rw [v1 _ (by omega) (by omega) (by omega) (by omega)]) hr, raI_mo (h4' m' hm').2 (by rw [v1 _ (by omega) (by omega) (by omega) (by omega)]) (Nat.le_refl _)⟩
  · obtain ⟨l', el, R⟩ := h5'
    have hll := rw_le hn R
    rw [hl, nI_eq_iff (by omega) (by omega)] at el
    subst el
    by_cases cc : bad ≠ 0 ∧ hh = 0
    · rw [if_pos cc] at v04 v10
      refine ⟨l + 1, v04, ?_⟩
      rw [v10]
      refine rw_app R hb (fun i hi e => ?_) ?_ (fun i c _ hc _ q => hr5 c hc q)
      · obtain ⟨c, hc, ec, q⟩ := R.1 i hi
        rw [ec, nI_eq_iff (by omega) (by omega)] at e
        subst e
        apply q
        rw [h5, cc.2]; rfl
      · rw [vb5]
        exact nI_ne0 (by omega) (by omega)
    · rw [if_neg cc] at v04 v10
      exact ⟨l, v04, rw_mo R (fun i _ => by rw [v10]; unfold up; split <;> simp [*]) (fun i c _ hc _ q => hr5 c hc q)⟩
end MA
