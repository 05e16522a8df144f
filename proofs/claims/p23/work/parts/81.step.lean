/-! a machine in a minute: the class does what the reference does -/
section ST
variable {D s t A B : Sg} {n u b m a : Nat}
theorem add_r (x y z p : Int32) : x + y + z + p = x + p + y + z ∧ x + y + z + p = x + (y + p) + z ∧ x + y + z + p = x + y + (z + p) := by
  refine ⟨?_, ?_, Int32.add_assoc _ _ _⟩
  · rw [Int32.add_assoc (x + y), Int32.add_comm z p, ← Int32.add_assoc, Int32.add_assoc x y p, Int32.add_comm y p, ← Int32.add_assoc]
  · rw [Int32.add_assoc (x + y), Int32.add_comm z p, ← Int32.add_assoc, Int32.add_assoc x y p]
/-- what is claimed of a machine's minute -/
def stR (n u m : Nat) (s : Sg) : Prop := dM n u (m + 1) (rnS s m) ∧ rnS s m 0 3 = s 0 3 ∧ (s 0 5 = s 3 3 + s 4 3 + s 5 3 → sG n (pmM s m) (rnS s m) ∧ pmM s m 0 3 = s 0 3 + rnB s m ∧ pmM s m 0 5 = pmM s m 3 3 + pmM s m 4 3 + pmM s m 5 3 ∧ pmM s m 0 6 = s 0 6)
theorem st_0 (hm : m < 3) (hu : u < 1440) (hn : n ≤ 40) {q : Nat} (hqn : q ≤ n) (a6 : A 6 m = nI q) (hA0 : A 0 0 = nI u) (hqA : quI n u n A m) (eA : tnF s m (nN (s 6 m)) = A) : pmM s m = rmM (itF (dqS m) q A) m (nN (A 0 4)) (A 1 (6 + m)) := by
  unfold pmM
  dsimp only
  rw [eA, a6, nN_nI (by omega), dq_eqI hm hu hn hA0 hqA a6 (by omega), dq_g (by omega), dq_g (by omega)]
/-- it sorts -/
theorem st_so (h : dM n u m D) (hq : qvE n (u + 1) D m) (hm : m < 3) (hb : b < n) (hu : u < 1440) (e0 : D (3 + m) 0 = nI b) (e1 : D (3 + m) 1 = 0) :
    dM n u (m + 1) (soF D m b (nN (D 0 4))) ∧ soF D m b (nN (D 0 4)) 0 3 = D 0 3 ∧ (D 0 5 = D 3 3 + D 4 3 + D 5 3 → sG n (rmM D m (nN (D 0 4)) (D 1 (6 + m))) (soF D m b (nN (D 0 4))) ∧ rmM D m (nN (D 0 4)) (D 1 (6 + m)) 0 3 = D 0 3 + 1 ∧ rmM D m (nN (D 0 4)) (D 1 (6 + m)) 0 5 = rmM D m (nN (D 0 4)) (D 1 (6 + m)) 3 3 + rmM D m (nN (D 0 4)) (D 1 (6 + m)) 4 3 + rmM D m (nN (D 0 4)) (D 1 (6 + m)) 5 3 ∧ rmM D m (nN (D 0 4)) (D 1 (6 + m)) 0 6 = D 0 6) := by
  obtain ⟨x, w, hh, y, l, many, bad, e4, e5, e6, ex, el, hxu, kw, kh, ky, kl, kln, k1, k2, k3, c1, c2, c3, c4⟩ := so_ar h hm hb hu
  have hn : n ≤ 40 := h.1.1.2.2.1
  have eS : soF D m b (nN (D 0 4)) = SO D m b l x w hh y many bad := by
    rw [el, nN_nI (by omega)]
    exact so_nf hm e4 e5 e6 ex el c1 c3 k1 k2 (by omega) (by omega)
  have s1 : ∀ g k, ¬ (g = 0 ∧ k = 3) → u2 D 0 3 (D 0 3 + 1) g k = D g k := fun g k z => u2_ne z
  have eK : D 0 5 = D 3 3 + D 4 3 + D 5 3 → rmM D m (nN (D 0 4)) (D 1 (6 + m)) = KO (u2 D 0 3 (D 0 3 + 1)) m b l x w hh y many bad := fun hs => by
    unfold rmM
    rw [if_neg (by rw [e0]; exact m6_n (by omega))]
    dsimp only
    rw [s1 _ _ (by omega), e1, if_pos (by decide), e0, nN_nI (by omega), s1 _ _ (by omega), c2, el, nN_nI (by omega)]
    refine ko_nf hm (by rw [s1 _ _ (by omega)]; exact e0) (by rw [s1 _ _ (by omega)]; exact e4) (by rw [s1 _ _ (by omega)]; exact e5) (by rw [s1 _ _ (by omega)]; exact e6) (by rw [s1 _ _ (by omega)]; exact ex) (by rw [s1 _ _ (by omega)]; exact el) (c4 _ (by rw [s1 _ _ (by omega)]; exact hs) (s1 _ _ (by omega))) k1 k2 (by omega) (by omega)
  have eS1 : sG n (SO (u2 D 0 3 (D 0 3 + 1)) m b l x w hh y many bad) (SO D m b l x w hh y many bad) := by
    rw [← so_nf hm e4 e5 e6 ex el c1 c3 k1 k2 (by omega) (by omega)]
    rw [← so_nf (D := u2 D 0 3 (D 0 3 + 1)) hm (by rw [s1 _ _ (by omega)]; exact e4) (by rw [s1 _ _ (by omega)]; exact e5) (by rw [s1 _ _ (by omega)]; exact e6) (by rw [s1 _ _ (by omega)]; exact ex) (by rw [s1 _ _ (by omega)]; exact el) (by rw [s1 _ _ (by omega), s1 _ _ (by omega)]; exact c1) (by rw [s1 _ _ (by omega), s1 _ _ (by omega), s1 _ _ (by omega), s1 _ _ (by omega)]; exact c3) k1 k2 (by omega) (by omega)]
    exact sG_so (sG_j sG_rf ⟨rfl, Or.inl rfl⟩) hb hm
  have v3 : SO D m b l x w hh y many bad 0 3 = D 0 3 := by
    unfold SO; simp (disch := omega) only [u2_ne]
  refine ⟨by rw [eS]; exact dM_so h hq hm hb e0 e1 e4 e5 e6 ex el hxu kw kh ky kl k1 k2 k3, by rw [eS]; exact v3, fun hs => ?_⟩
  rw [eK hs, eS]
  obtain ⟨j1, j2, j3⟩ := @ko_j (u2 D 0 3 (D 0 3 + 1)) m b l x w hh y many bad
  have r3 : ∀ j, j < 3 → KO (u2 D 0 3 (D 0 3 + 1)) m b l x w hh y many bad (3 + j) 3 = if j = m then D (3 + m) 3 + nI many else D (3 + j) 3 := fun j hj => by
    unfold KO
    by_cases c : j = m
    · subst c
      rw [if_pos rfl, ex, nI_add]
      simp (disch := omega) only [u2_ne, u2_s]
    · rw [if_neg c]
      simp (disch := omega) only [u2_ne]
  refine ⟨sG_tr (ko_so hm) eS1, by rw [j1, u2_s], ?_, by rw [j3, s1 _ _ (by omega)]⟩
  rw [j2, s1 _ _ (by omega), hs, show (3 : Nat) = 3 + 0 from rfl, show (4 : Nat) = 3 + 1 from rfl, show (5 : Nat) = 3 + 2 from rfl]
  have q0 := r3 0 (by omega)
  have q1 := r3 1 (by omega)
  have q2 := r3 2 (by omega)
  obtain ⟨p1, p2, p3⟩ := add_r (D 3 3) (D 4 3) (D 5 3) (nI many)
  match m, hm with
  | 0, _ =>
    rw [if_pos rfl] at q0; rw [if_neg (by omega)] at q1 q2
    rw [q0, q1, q2]; exact p1
  | 1, _ =>
    rw [if_pos rfl] at q1; rw [if_neg (by omega)] at q0 q2
    rw [q0, q1, q2]; exact p2
  | 2, _ =>
    rw [if_pos rfl] at q2; rw [if_neg (by omega)] at q0 q1
    rw [q0, q1, q2]; exact p3
theorem mc_step (h : dM n u m s) (hm : m < 3) (hu : u < 1440) : rnOK s m ∧ pmMO n s m ∧ stR n u m s := by
  obtain ⟨q, q0, e6, hq0, hhd, a6, hqn, hqA, hdB, fA, fB, a3, hc⟩ := tk_all h hm
  have hn : n ≤ 40 := h.1.1.2.2.1
  obtain ⟨eA, hA⟩ : ∃ X, tnF s m (nN (s 6 m)) = X := ⟨_, rfl⟩
  obtain ⟨eB, hB⟩ : ∃ X, rnT s m = X := ⟨_, rfl⟩
  rw [hA] at a6 hqA fA fB a3 hc
  rw [hB] at hdB fB hc
  have hA0 : eA 0 0 = nI u := by rw [fA 0 (by omega) (by omega) (by omega)]; exact h.1.1.1
  have hA1 : eA 0 1 = nI n := by rw [fA 0 (by omega) (by omega) (by omega)]; exact h.1.1.2.1
  have hdq := dq_eqI hm hu hn hA0 hqA a6 (by omega)
  have hen : ∀ i, i < q → ∃ c, c < n ∧ eA (7 + m) i = nI c := fun i hi => by
    obtain ⟨q', p, _, e, R⟩ := hqA
    have := rw_le hn R
    rw [a6, nI_eq_iff (by omega) (by omega)] at e
    subst e
    obtain ⟨c, hc, e, _⟩ := R.1 i hi
    exact ⟨c, hc, e⟩
  have b6 : eB 6 m = nI q := by rw [fB 6 (by omega)]; exact a6
  have hran : ∀ j, j < 3 → eA (3 + j) 3 = s (3 + j) 3 := fun j hj => by
    by_cases c : j = m
    · rw [c]; exact a3
    · rw [fA _ (by omega) (by omega) (by omega)]
  have hr3 : eA 3 3 = s 3 3 := hran 0 (by omega)
  have hr4 : eA 4 3 = s 4 3 := hran 1 (by omega)
  have hr5 : eA 5 3 = s 5 3 := hran 2 (by omega)
  have hA05 : eA 0 5 = s 0 5 := by rw [fA 0 (by omega) (by omega) (by omega)]
  have hA06 : eA 0 6 = s 0 6 := by rw [fA 0 (by omega) (by omega) (by omega)]
  have hA03 : eA 0 3 = s 0 3 := by rw [fA 0 (by omega) (by omega) (by omega)]
  refine ⟨⟨fun c1 c2 => ?_, fun c => ?_⟩, ⟨h.1.1.2.1, ⟨q0, hq0, e6, hhd⟩, ⟨by rw [hA]; exact hA1, q, by omega, by rw [hA]; exact a6, fun i hi => by rw [hA]; exact hen i hi⟩, ?_⟩, ?_⟩
  · obtain ⟨b, hb, eb⟩ := hhd (by
      by_cases z : q0 = 0
      · rw [e6, z] at c2; exact absurd (by decide) c2
      · omega)
    have z : q0 ≠ 0 := fun z => by rw [e6, z] at c2; exact absurd (by decide) c2
    exact ⟨b, q0 - 1, by omega, by omega, by rw [e6, show q0 - 1 + 1 = q0 by omega], eb⟩
  · rw [hB] at c ⊢
    rcases hc with ⟨e, _, eq⟩ | ⟨b, y, hb, hy, e0, e1, _, _⟩
    · rw [eq] at c; exact absurd e c
    · obtain ⟨x, w, hh, y, l, many, bad, e4, e5, e6, ex, el, hxu, kw, kh, ky, kl, kln, _⟩ := so_ar hdB hm hb hu
      refine ⟨q, b, by omega, by omega, b6, fun i hi => ?_, by rw [fB _ (by omega)]; exact e0, fun z => ⟨l, ?_, el⟩⟩
      · obtain ⟨c, hc, e⟩ := hen i hi
        exact ⟨c, by omega, by rw [fB _ (by omega)]; exact e⟩
      · rw [e5] at z
        have := kln ((z_e (by omega)).mp z)
        omega
  · dsimp only
    rw [hA, a6, nN_nI (by omega), hdq, dq_g (by omega), dq_g (by omega)]
    refine ⟨hA1, ?_⟩
    rcases hc with ⟨e, _, _⟩ | ⟨b, y, hb, hy, e0, e1, ey, _⟩
    · exact Or.inl e
    · refine Or.inr ⟨b, hb, e0, fun z => ?_⟩
      rw [e1] at z
      have eq := ey ((z_l (by omega)).mp z)
      obtain ⟨x, w, hh, y, l, many, bad, e4, e5, e6, ex, el, hxu, kw, kh, ky, kl, kln, _⟩ := so_ar hdB hm hb hu
      rw [eq] at el e5
      refine ⟨l, el, by omega, fun z => ?_⟩
      rw [dq_k (by omega), e5] at z
      have := kln ((z_e (by omega)).mp z)
      omega
  · unfold stR
    rw [st_0 hm hu hn hqn a6 hA0 hqA hA]
    unfold rnS rnB
    rw [hB]
    rcases hc with ⟨e, hq, eq⟩ | ⟨b, y, hb, hy, e0, e1, ey, ez⟩
    · subst eq
      subst hq
      rw [if_pos e, if_pos e]
      have er : rmM (itF (dqS m) 0 eB) m (nN (eB 0 4)) (eB 1 (6 + m)) = eB := by
        unfold rmM
        exact if_pos e
      rw [er]
      exact ⟨dM_next hdB ⟨0, a6, fun i hi => by omega, fun i j hi => by omega⟩, hA03, fun hs => ⟨sG_rf, by rw [hA03, Int32.add_zero], by rw [hA05, hr3, hr4, hr5]; exact hs, hA06⟩⟩
    · have hB6 : eB (3 + m) 0 = nI b := by rw [fB _ (by omega)]; exact e0
      have hne : ¬ eB (3 + m) 0 = -6 := by rw [hB6]; exact m6_n (by omega)
      rw [if_neg hne, if_neg hne]
      have hD := dM_dq (m := m) (k := q) hdB
      have hqD := dM_q hdB hm hn b6 (by omega)
      have d0 : itF (dqS m) q eB (3 + m) 0 = nI b := by rw [dq_g (by omega)]; exact hB6
      have d1 : itF (dqS m) q eB (3 + m) 1 = nI y := by rw [dq_g (by omega), fB _ (by omega)]; exact e1
      have eU : rnU eB m = if y = 0 then soF (itF (dqS m) q eB) m b (nN (itF (dqS m) q eB 0 4)) else u2 (itF (dqS m) q eB) (3 + m) 1 (nI (y - 1)) := by
        unfold rnU
        dsimp only
        rw [b6, nN_nI (by omega), d1, d0, nN_nI (by omega)]
        by_cases c : y = 0
        · rw [if_pos ((z_l (by omega)).mpr c), if_pos c]
        · rw [if_neg (fun z => c ((z_l (by omega)).mp z)), if_neg c, show (1 : Int32) = nI 1 from rfl, pk_sub (by omega)]
      rw [eU]
      by_cases c : y = 0
      · rw [if_pos c]
        have eq := ey c
        subst eq
        obtain ⟨r1, r2, r3⟩ := st_so hD hqD hm hb hu d0 (by rw [d1, c]; rfl)
        have g0 : ∀ k, itF (dqS m) q eB 0 k = eB 0 k := fun k => by rw [dq_g (by omega)]
        rw [g0, g0] at r2
        have hs' : s 0 5 = s 3 3 + s 4 3 + s 5 3 → itF (dqS m) q eB 0 5 = itF (dqS m) q eB 3 3 + itF (dqS m) q eB 4 3 + itF (dqS m) q eB 5 3 := fun hs => by
          rw [dq_g (by omega), dq_g (by omega), dq_g (by omega), dq_g (by omega), hA05, hr3, hr4, hr5]; exact hs
        refine ⟨r1, by rw [g0, r2, hA03], fun hs => ?_⟩
        obtain ⟨t1, t2, t3, t4⟩ := r3 (hs' hs)
        rw [g0 4, dq_g (g := 1) (by omega)] at t1 t2 t3 t4
        rw [g0 4]
        exact ⟨t1, by rw [t2, g0, hA03], t3, by rw [t4, g0, hA06]⟩
      · rw [if_neg c]
        obtain ⟨z9, zk⟩ := ez c
        have eD := zk q (Nat.le_refl _)
        have n9 : itF (dqS m) q eB (11 + b) 9 ≠ 0 := dq_nz z9
        refine ⟨dM_y (y := y) (dM_next hD hqD) hm hb (by omega) d0 n9, by rw [u2_ne (by omega), dq_g (by omega), fB 0 (by omega), hA03], fun hs => ?_⟩
        have eM : rmM (itF (dqS m) q eA) m (nN (eA 0 4)) (eA 1 (6 + m)) = u2 (u2 (itF (dqS m) q eB) 0 3 (s 0 3 + 1)) (3 + m) 1 (nI (y - 1)) := by
          unfold rmM
          have a0 : itF (dqS m) q eA (3 + m) 0 = nI b := by rw [dq_g (by omega)]; exact e0
          have a1 : itF (dqS m) q eA (3 + m) 1 = nI y := by rw [dq_g (by omega)]; exact e1
          have a3' : itF (dqS m) q eA 0 3 = s 0 3 := by rw [dq_g (by omega)]; exact hA03
          rw [if_neg (by rw [a0]; exact m6_n (by omega))]
          dsimp only
          rw [u2_ne (show ¬ (3 + m = 0 ∧ 1 = 3) by omega), a1, if_neg (fun z => c ((z_l (by omega)).mp z)), a0, nN_nI (by omega), a3', show (1 : Int32) = nI 1 from rfl, pk_sub (by omega), dl_u2 (by omega), dl_u2 (by omega), eD]
        rw [eM]
        have g0 : ∀ g, g < 11 → g ≠ 3 + m → g ≠ 0 → u2 (u2 (itF (dqS m) q eB) 0 3 (s 0 3 + 1)) (3 + m) 1 (nI (y - 1)) g = eA g := fun g a1 a2 a3 => by
          rw [u2_g a2, u2_g a3, dq_g a1, fB _ a1]
        have g3 : ∀ j, j < 3 → u2 (u2 (itF (dqS m) q eB) 0 3 (s 0 3 + 1)) (3 + m) 1 (nI (y - 1)) (3 + j) 3 = eA (3 + j) 3 := fun j hj => by
          rw [u2_ne (by omega), u2_ne (by omega), dq_g (by omega), fB _ (by omega)]
        have k3 : u2 (u2 (itF (dqS m) q eB) 0 3 (s 0 3 + 1)) (3 + m) 1 (nI (y - 1)) 3 3 = s 3 3 := (g3 0 (by omega)).trans hr3
        have k4 : u2 (u2 (itF (dqS m) q eB) 0 3 (s 0 3 + 1)) (3 + m) 1 (nI (y - 1)) 4 3 = s 4 3 := (g3 1 (by omega)).trans hr4
        have k5 : u2 (u2 (itF (dqS m) q eB) 0 3 (s 0 3 + 1)) (3 + m) 1 (nI (y - 1)) 5 3 = s 5 3 := (g3 2 (by omega)).trans hr5
        refine ⟨sG_u (sG_j sG_rf ⟨rfl, Or.inl rfl⟩) rfl, by rw [u2_ne (by omega), u2_s], ?_, ?_⟩
        · rw [k3, k4, k5, u2_ne (by omega), u2_ne (by omega), dq_g (by omega), fB 0 (by omega), hA05]; exact hs
        · rw [u2_ne (by omega), u2_ne (by omega), dq_g (by omega), fB 0 (by omega), hA06]
end ST
