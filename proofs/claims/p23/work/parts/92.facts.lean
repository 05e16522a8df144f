/-! what holds of a day, in the words of the law's checks; the day's changes; the days to their end -/
def rV (n u : Nat) (s : Sg) : Prop := ∃ t, rI n u s t ∧ vD n u t
def dV (s : Sg) : Prop := ∃ n u, rV n u s
section FA
variable {s t s0 : Sg} {n u b m q : Nat}
theorem rV_w (h : rV n u s) : dI n u s ∧ vD n u s := by
  obtain ⟨t, a, k⟩ := h
  exact ⟨dI_sG a.1 a.2.1, vD_sG k a.2.1 a.2.2.1⟩
theorem rV_00 (h : rV n u s) : s 0 0 = nI u ∧ s 0 1 = nI n ∧ n ≤ 40 ∧ u ≤ 1440 := (rV_w h).1.1.1
/-- a batch -/
theorem ml_f (h : rV n u s) (hb : b < n) :
    s (11 + b) 1 = s (11 + b) 4 + s (11 + b) 5 + s (11 + b) 6 + s (11 + b) 7 ∧
    (s 0 0 ≤ s (11 + b) 3 → s (11 + b) 4 = s (11 + b) 1 ∧ s (11 + b) 9 = 0 ∧ s (11 + b) 8 = 0) ∧
    (s (11 + b) 1 < s (11 + b) 8) = False ∧
    ((s (11 + b) 10 = -6) = True ∧ (s (11 + b) 4 + s (11 + b) 5 ≤ 0) = False ∨ (s (11 + b) 10 = -6) = False ∧ (s (11 + b) 4 + s (11 + b) 5 ≤ 0) = True) ∧
    (s 0 0 ≤ s (11 + b) 10) = False ∧ (0 ≤ s (11 + b) 9 ∧ s (11 + b) 9 ≤ 4) ∧
    (s (11 + b) 5 = 0 ∨ (s (11 + b) 9 ≤ 0) = False) ∧ (s (11 + b) 9 = 4 → s (11 + b) 8 = s (11 + b) 1) := by
  obtain ⟨⟨⟨⟨b0, b1, b2, b3⟩, _, _⟩, T, _, _, _⟩, K1, _, _, _⟩ := rV_w h
  obtain ⟨m, p, r, c, w, hh, y, g, z, ⟨e0, e1, e2, e3, e4, e5, e6, e7, e8⟩, ⟨k1, k2, k3, k4, k5, k6, k7, k8⟩⟩ := T b hb
  obtain ⟨x1, x2, ⟨d, hd, x3⟩, x4, x5⟩ := K1 b hb
  refine ⟨?_, fun q => ?_, ?_, ?_, ?_, ⟨?_, ?_⟩, ?_, fun q => ?_⟩
  · rw [e1, e4, e5, e6, e7, nI_add, nI_add, nI_add, k6]
  · rw [b0, e3, nI_le_iff (by omega) (by omega)] at q
    obtain ⟨y1, y2⟩ := x1 (by rw [e3, nN_nI (by omega)]; exact q)
    obtain ⟨y3, y4⟩ := k8 q
    exact ⟨y1, y2, by rw [e8, y4]; rfl⟩
  · rw [e1, e8, nI_lt_iff (by omega) (by omega)]
    exact eq_false (by omega)
  · have hl : (s (11 + b) 4 + s (11 + b) 5 ≤ 0) = (w + hh = 0) := by rw [e4, e5, nI_add, z_l (by omega)]
    rw [hl]
    rcases x2 with ⟨q1, q2⟩ | ⟨⟨a, q1, q2⟩, q3, q4⟩
    · refine Or.inl ⟨eq_true q1, eq_false (fun q => ?_)⟩
      rcases q2 with q2 | q2
      · exact q2 (by rw [e4, show w = 0 by omega]; rfl)
      · exact q2 (by rw [e5, show hh = 0 by omega]; rfl)
    · refine Or.inr ⟨eq_false (by rw [q2]; exact m6_n (by omega)), eq_true ?_⟩
      rw [e4, z_e (by omega)] at q3
      rw [e5, z_e (by omega)] at q4
      omega
  · refine eq_false (fun q => ?_)
    rcases x2 with ⟨q1, _⟩ | ⟨⟨a, q1, q2⟩, _⟩
    · rw [q1, b0] at q
      exact absurd (Int32.le_trans (nI_pos' (n := u) (by omega)) q) (by decide)
    · rw [q2, b0, nI_le_iff (by omega) (by omega)] at q
      omega
  · rw [x3]; exact nI_pos' (by omega)
  · rw [x3, show (4 : Int32) = nI 4 from rfl, nI_le_iff (by omega) (by omega)]; exact hd
  · by_cases c5 : s (11 + b) 5 = 0
    · exact Or.inl c5
    · have := x4 c5
      rw [x3] at this
      refine Or.inr (eq_false ?_)
      rw [x3, z_l (by omega)]
      intro q
      rw [q] at this
      exact this rfl
  · exact (x5 q).elim id (fun q => absurd q id)
theorem ml_d (h : rV n u s) : ∀ b, b < n → ∃ d, d ≤ 4 ∧ s (11 + b) 9 = nI d := fun b hb => by
  obtain ⟨_, K1, _, _, _⟩ := rV_w h
  exact (K1 b hb).2.2.1
theorem ml_r (h : rV n u s) : ∀ b, b < n → ∃ p, p < 8 ∧ s (11 + b) 2 = nI p := fun b hb => by
  obtain ⟨⟨_, T, _, _, _⟩, _⟩ := rV_w h
  obtain ⟨m, p, r, c, w, hh, y, g, z, ⟨e0, e1, e2, e3, e4, e5, e6, e7, e8⟩, ⟨k1, k2, k3, k4, k5, k6, k7, k8⟩⟩ := T b hb
  exact ⟨r, k4, e2⟩
/-- a machine -/
theorem mq_f (h : rV n u s) (hm : m < 3) : ∃ q, q ≤ 40 ∧ s 6 m = nI q ∧ (30 < s (3 + m) 1) = False ∧
    ((s (3 + m) 0 = -6) = True ∧ s (3 + m) 1 = 0 ∨ (s (3 + m) 0 = -6) = False ∧ ∃ b, b < n ∧ s (3 + m) 0 = nI b ∧ s (11 + b) 0 = nI m ∧ (s (11 + b) 4 ≤ 0) = False ∧ s (11 + b) 2 = s (3 + m) 2) ∧
    ∀ p, p < q → ∃ b, b < n ∧ s (7 + m) p = nI b ∧ s (11 + b) 0 = nI m ∧ s (11 + b) 4 = s (11 + b) 1 ∧ (nI b = s (3 + m) 0) = False ∧ (s (11 + b) 9 ≤ 0) = False ∧
      (p = 0 ∨ ∃ b' p', p = p' + 1 ∧ p' < q ∧ b' < n ∧ s (7 + m) p' = nI b' ∧ (s (11 + b') 3 < s (11 + b) 3 ∨ s (11 + b') 3 = s (11 + b) 3 ∧ (nI b ≤ nI b') = False)) := by
  obtain ⟨⟨⟨⟨b0, b1, b2, b3⟩, _, _⟩, T, Q, M, _⟩, K1, K2, _, _⟩ := rV_w h
  obtain ⟨⟨q, q40, e6, Q1, Q2⟩, H⟩ := K2 m hm
  obtain ⟨y, hy, ey, hmc⟩ := (M m hm).1
  refine ⟨q, q40, e6, ?_, ?_, fun p hp => ?_⟩
  · rw [ey, show (30 : Int32) = nI 30 from rfl, nI_lt_iff (by omega) (by omega)]
    exact eq_false (by omega)
  · rcases H with H | ⟨b, hb, z0, z1, z2, z3, z4⟩
    · refine Or.inl ⟨eq_true H, ?_⟩
      rcases hmc with ⟨_, z⟩ | ⟨b, hb, e, _⟩
      · rw [ey, z]; rfl
      · rw [H] at e; exact absurd e.symm (m6_n (by omega))
    · refine Or.inr ⟨eq_false (by rw [z0]; exact m6_n (by omega)), b, hb, z0, z1, ?_, z3⟩
      obtain ⟨m2, p, r, c, w, hh, y, g, z, ⟨e0, e1, e2, e3, e4, e5, e6, e7, e8⟩, ⟨k1, k2, k3, k4, k5, k6, k7, k8⟩⟩ := T b hb
      rw [e4, z_l (by omega)]
      rw [e4, Ne, z_e (by omega)] at z2
      exact eq_false z2
  · obtain ⟨b, hb, z1, z2, z3, z4⟩ := Q1 p hp
    refine ⟨b, hb, z1, z2, z3, eq_false (fun w => z4 w.symm), ?_, ?_⟩
    · obtain ⟨q', e6', R⟩ := Q m hm
      have hq := rw_le b2 R
      rw [e6, nI_eq_iff (by omega) (by omega)] at e6'
      subst e6'
      obtain ⟨c, hc, ec, _, h9⟩ := R.1 p hp
      rw [z1, nI_eq_iff (by omega) (by omega)] at ec
      subst ec
      obtain ⟨d, hd, ed⟩ := (K1 b hb).2.2.1
      rw [ed, z_l (by omega)]
      refine eq_false (fun w => h9 ?_)
      rw [ed, w]; rfl
    · by_cases c0 : p = 0
      · exact Or.inl c0
      · refine Or.inr ?_
        obtain ⟨p', rfl⟩ : ∃ p', p = p' + 1 := ⟨p - 1, by omega⟩
        obtain ⟨b', hb', y1, _⟩ := Q1 p' (by omega)
        refine ⟨b', p', rfl, by omega, hb', y1, ?_⟩
        obtain ⟨c, hc, ec⟩ := bt_3 (T b hb)
        obtain ⟨c', hc', ec'⟩ := bt_3 (T b' hb')
        have := Q2 p' b' b hp hb' hb y1 z1
        unfold ltV at this
        rw [ec, ec', nN_nI (by omega), nN_nI (by omega)] at this
        rw [ec, ec', nI_lt_iff (by omega) (by omega), nI_eq_iff (by omega) (by omega), nI_le_iff (by omega) (by omega)]
        rcases this with q | ⟨q1, q2⟩
        · exact Or.inl q
        · exact Or.inr ⟨q1, eq_false (by omega)⟩
/-- the sums -/
theorem su_f (h : rV n u s) : s 3 3 + s 4 3 + s 5 3 = soS s n ∧ (s 3 3 + s 4 3 + s 5 3 < s 0 2) = False ∧ (s 0 2 < smF s 5 (-6) n) = False ∧ (s 0 3 < 0) = False := by
  obtain ⟨⟨⟨⟨b0, b1, b2, b3⟩, _, _⟩, T, _, _, _⟩, K1, _, ⟨R, x0, x1, x2, a1, a2, a3, a4, a5, a6, a7⟩, c, hc, ec⟩ := rV_w h
  have hS := so_n (s := s) n (fun b hb => by
    obtain ⟨m, p, r, c, w, hh, y, g, z, ⟨e0, e1, e2, e3, e4, e5, e6, e7, e8⟩, ⟨k1, k2, k3, k4, k5, k6, k7, k8⟩⟩ := T b hb
    exact ⟨p, w, k3, by omega, e1, e4⟩)
  have hH := hs_n (s := s) n (fun b hb => by
    obtain ⟨m, p, r, c, w, hh, y, g, z, ⟨e0, e1, e2, e3, e4, e5, e6, e7, e8⟩, ⟨k1, k2, k3, k4, k5, k6, k7, k8⟩⟩ := T b hb
    exact ⟨hh, by omega, e5⟩)
  have hD : sN fD s n ≤ 999 * n := sN_le n (fun b hb => by
    obtain ⟨m, p, r, c, w, hh, y, g, z, ⟨e0, e1, e2, e3, e4, e5, e6, e7, e8⟩, ⟨k1, k2, k3, k4, k5, k6, k7, k8⟩⟩ := T b hb
    unfold fD
    rw [e1, e4, nN_nI (by omega), nN_nI (by omega)]
    omega)
  have hX : s 3 3 + s 4 3 + s 5 3 = nI (sN fD s n) := by rw [a2, a3, a4, nI_add, nI_add, a5]
  refine ⟨by rw [hX, hS], ?_, ?_, ?_⟩
  · rw [hX, a1, nI_lt_iff (by omega) (by omega)]; exact eq_false (by omega)
  · rw [hH, a1, nI_lt_iff (by omega) (by omega)]; exact eq_false (by omega)
  · rw [ec]; exact eq_false (nI_pos (by omega))
/-- changes -/
theorem rV_set {j : Nat} {v : Int32} (h : rV n u s) (hv : isF (nI j) v = true) : rV n u (u2 s 1 j v) := by
  obtain ⟨t, a, k⟩ := h
  exact ⟨_, rI_set a hv, vD_fr k (fun g h1 _ => u2_g h1)⟩
theorem rV_cut {r c : Nat} (h : rV n u s) (hc : c < 1440) : rV n u (u2 (u2 s 2 r (nI c)) 0 6 (s 0 0)) := by
  obtain ⟨t, a, k⟩ := h
  exact ⟨_, rI_cut a hc, vD_fr k (fun g _ h2 => u2_g h2)⟩
theorem rV_mail {p r c : Nat} (h : rV n u s) (hn : n < 40) (hm : m < 3) (hp : 1 ≤ p) (hp2 : p ≤ 999) (hr : r < 8) (hc : c < 1440) : rV (n + 1) u (u2 (u2 (bgF s n (nI m) (nI p) (nI r) (nI c)) 0 6 (s 0 0)) 0 1 (nI (n + 1))) := by
  obtain ⟨t, a, k⟩ := h
  exact ⟨_, rI_mail a hn hm hp hp2 hr hc, vD_mail a.1 k hn hp hp2 hc⟩
theorem rV_pass {k : Nat} (h : rV n u s) (hk : u + k ≤ 1440) : lpOK n (s 0 0 + nI k) k s ∧ rV n (u + k) (lpF (s 0 0 + nI k) k s) ∧ lpF (s 0 0 + nI k) k s 0 0 = nI (u + k) := by
  obtain ⟨t, a, v⟩ := h
  obtain ⟨p1, p2, p3, p4⟩ := lp_ok a hk
  exact ⟨p1, ⟨_, p2, vD_dy a.1 v k hk⟩, p3⟩
theorem rV_tv (h : rV n u s) : rV n u (tvF s0 s n) := by
  obtain ⟨t, a, k⟩ := h
  exact ⟨t, rI_tv a, k⟩
theorem rV_ini : rV 0 0 iniS := ⟨iniS, rI_ini, vD_ini⟩
/-- all sorted -/
theorem sa_f (h : rV n u s) : ∃ N, N ≤ 1440 ∧ (∀ k, k ≤ N → pmN (tvF s0 s n) k 0 1 = nI n) ∧ (∀ k, k < N → pmOK n (pmN (tvF s0 s n) k) ∧ ¬ 1440 ≤ pmN (tvF s0 s n) k 0 0 ∧ alB (pmN (tvF s0 s n) k) n = false) ∧ (N = 1440 ∨ 1440 ≤ pmN (tvF s0 s n) N 0 0 ∨ alB (pmN (tvF s0 s n) N) n = true) ∧
    ∃ a : Int32, (if alB (pmN (tvF s0 s n) N) n = true then pmN (tvF s0 s n) N 0 0 else -6) = a ∧ (a < -6) = False ∧ (1440 < a) = False ∧ (a = -6 ∨ (a < s 0 0) = False) := by
  obtain ⟨t, a, k⟩ := h
  have hr := rI_tv (s0 := s0) a
  obtain ⟨N, m1, ⟨m2, m3, m4⟩, _⟩ := so_at hr
  refine ⟨N, m1, m2, m3, m4, _, rfl, ?_⟩
  have hu := (rI_00 hr).2.2.2.2.2
  have hN : u + N ≤ 1440 := by
    by_cases c : u + N ≤ 1440
    · exact c
    · exfalso
      have q := (m3 (1440 - u) (by omega)).2.1
      rw [(rI_00 ((pn_all hr (1440 - u) (by omega)).1)).1] at q
      exact q (by rw [show u + (1440 - u) = 1440 by omega]; decide)
  have eN := (rI_00 ((pn_all hr N hN).1)).1
  rw [eN, (rI_00 a).1]
  split
  · refine ⟨eq_false (fun q => ?_), eq_false (fun q => ?_), Or.inr (eq_false (fun q => ?_))⟩
    · exact absurd (Int32.lt_of_le_of_lt (nI_pos' (n := u + N) (by omega)) q) (by decide)
    · rw [show (1440 : Int32) = nI 1440 from rfl, nI_lt_iff (by omega) (by omega)] at q
      omega
    · rw [nI_lt_iff (by omega) (by omega)] at q
      omega
  · exact ⟨by decide, by decide, Or.inl rfl⟩
theorem s1_n (h : dI n u s) : ∀ k, k ≤ n → smF s 1 (-6) k = nI (sN (fun f => nN (f 1)) s k) ∧ sN (fun f => nN (f 1)) s k ≤ 999 * k := by
  intro k
  induction k with
  | zero => intro _; exact ⟨rfl, Nat.le_refl _⟩
  | succ k ih =>
    intro hk
    obtain ⟨i1, i2⟩ := ih (by omega)
    obtain ⟨m, p, r, c, w, hh, y, g, z, ⟨e0, e1, e2, e3, e4, e5, e6, e7, e8⟩, ⟨k1, k2, k3, k4, k5, k6, k7, k8⟩⟩ := h.2.1 k (by omega)
    have e : sN (fun f => nN (f 1)) s (k + 1) = sN (fun f => nN (f 1)) s k + p := by
      show sN (fun f => nN (f 1)) s k + nN (s (11 + k) 1) = _
      rw [e1, nN_nI (by omega)]
    rw [← sm_s, i1, e1, nI_add, e]
    exact ⟨rfl, by omega⟩
theorem s8_le {v : Nat} (h : dI n u s) (h' : dI n v t) (he : ∀ b, b < n → t (11 + b) 1 = s (11 + b) 1) : ∀ k, k ≤ n → smN t k ≤ sN (fun f => nN (f 1)) s k := by
  intro k
  induction k with
  | zero => intro _; exact Nat.le_refl _
  | succ k ih =>
    intro hk
    have := ih (by omega)
    obtain ⟨m, p, r, c, w, hh, y, g, z, ⟨e0, e1, e2, e3, e4, e5, e6, e7, e8⟩, ⟨k1, k2, k3, k4, k5, k6, k7, k8⟩⟩ := h'.2.1 k (by omega)
    show smN t k + nN (t (11 + k) 8) ≤ sN (fun f => nN (f 1)) s k + nN (s (11 + k) 1)
    rw [← he k (by omega), e1, e8, nN_nI (by omega), nN_nI (by omega)]
    omega
/-- what would miss -/
theorem wm_f (h : rV n u s) : meOK n 39960 1440 (tvF s0 s n) ∧ (smF (meF n 39960 1440 (tvF s0 s n)) 8 (-6) n < smF s 8 (-6) n) = False ∧ (smF s 1 (-6) n < smF (meF n 39960 1440 (tvF s0 s n)) 8 (-6) n) = False := by
  obtain ⟨t, a, k⟩ := h
  have hu := (rI_00 a).2.2.2.2.2
  have hn := (rI_00 a).2.2.2.2.1
  obtain ⟨m1, m2, m3, S, hS, eS⟩ := me_ms (rI_tv (s0 := s0) a) 39960
  have e := m3 (by rw [eS, show (39960 : Int32) = nI 39960 from rfl, nI_le_iff (by omega) (by omega)]; exact hS)
  obtain ⟨d1, _, d3⟩ := dy_all a.1 (1440 - u) (by omega)
  have mo := mo8_dy a.1 (1440 - u) (by omega)
  have hs := dI_sG a.1 a.2.1
  have e8 : smF s 8 (-6) n = smF t 8 (-6) n := sm_eq (fun b hb => sG_b a.2.1 hb) n (Nat.le_refl _)
  obtain ⟨n1, n2⟩ := sm_n a.1 n (Nat.le_refl _)
  obtain ⟨n3, n4⟩ := sm_n d1 n (Nat.le_refl _)
  have l1 := sm_le a.1 d1 mo n (Nat.le_refl _)
  obtain ⟨n5, n6⟩ := s1_n hs n (Nat.le_refl _)
  have l2 := s8_le (s := s) (t := dyN t (1440 - u)) hs d1 (fun b hb => by
    rw [d3 (11 + b) 1 (Or.inr (Or.inr ⟨by omega, by omega⟩)), sG_b a.2.1 hb (k := 1)]) n (Nat.le_refl _)
  refine ⟨m1, ?_, ?_⟩
  · rw [e, n3, e8, n1, nI_lt_iff (by omega) (by omega)]; exact eq_false (by omega)
  · rw [e, n3, n5, nI_lt_iff (by omega) (by omega)]; exact eq_false (by omega)
end FA
