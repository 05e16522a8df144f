/-! what the law looks for besides, through a minute: machines, hands -/
section VB
variable {s t t' B D V : Sg} {n u b m a q c : Nat} {d : Int32}
theorem vM_mo (k : vM n u t) (hg : ∀ g, 2 < g → g < 10 → t' g = t g) (h02 : t' 0 2 = t 0 2) (hr : ∀ c k, c < n → k < 6 → t' (11 + c) k = t (11 + c) k) (hw : ∀ c, c < n → rwV (u + 1) False (t' (11 + c))) : vM n u t' := by
  obtain ⟨K1, K2, K3⟩ := k
  have hr' : ∀ c k, c < n → k < 5 → t' (11 + c) k = t (11 + c) k := fun c' k' h hk => hr c' k' h (by omega)
  exact ⟨hw, fun m' hm' => ⟨quV_mo (K2 m' hm').1 (by rw [hg 6 (by omega) (by omega)]) (fun i => by rw [hg _ (by omega) (by omega)]) (by rw [hg _ (by omega) (by omega)]) hr', haV_mo (K2 m' hm').2 (Nat.le_refl _) (by rw [hg _ (by omega) (by omega)]) (by rw [hg _ (by omega) (by omega)]) hr'⟩, suV_mo K3 h02 (fun j hj => by rw [hg _ (by omega) (by omega)]) hr⟩
theorem vM_dl (k : vM n u t) (hd : d = 1 ∨ d = 2) (h3 : nN (t (11 + c) 3) ≤ u) : vM n u (dlF t c d) := by
  by_cases h0 : t (11 + c) 9 = 0
  · have e : dlF t c d = u2 t (11 + c) 9 d := by unfold dlF; rw [if_pos h0]
    rw [e]
    refine vM_mo k (fun g _ _ => u2_g (by omega)) (u2_ne (by omega)) (fun c' k' _ hk => u2_ne (by omega)) (fun c' hc' => ?_)
    by_cases cc : c' = c
    · subst cc
      obtain ⟨x1, x2, x3, x4, x5⟩ := k.1 c' hc'
      refine ⟨fun q => ?_, ?_, ?_, fun _ => ?_, fun q => ?_⟩
      · rw [u2_ne (by omega)] at q; omega
      · rw [u2_ne (by omega), u2_ne (by omega), u2_ne (by omega)]; exact x2
      · rw [u2_s]
        rcases hd with q | q
        · exact ⟨1, by omega, q⟩
        · exact ⟨2, by omega, q⟩
      · rw [u2_s]
        rcases hd with q | q
        · rw [q]; decide
        · rw [q]; decide
      · rw [u2_s] at q
        rcases hd with z | z
        · rw [z] at q; exact absurd q (by decide)
        · rw [z] at q; exact absurd q (by decide)
    · rw [u2_g (by omega)]; exact k.1 c' hc'
  · rw [dl_no h0]; exact k
theorem vM_dq (k : vM n u t) (h : ∀ i, i < q → nN (t (11 + nN (t (7 + m) i)) 3) ≤ u) (hm : m < 3) : ∀ j, j ≤ q → vM n u (itF (dqS m) j t) := by
  intro j
  induction j with
  | zero => intro _; exact k
  | succ j ih =>
    intro hj
    show vM n u (dlF (itF (dqS m) j t) (nN (itF (dqS m) j t (7 + m) j)) 1)
    refine vM_dl (ih (by omega)) (Or.inl rfl) ?_
    rw [dq_o (g := 7 + m) (Or.inl (by omega)), dq_o (j := 3) (Or.inr (by omega))]
    exact h j (by omega)
theorem quI_le (hu : u < 1440) (hn : n ≤ 40) (h : quI n u n t m) (e : t 6 m = nI q) (hq : q ≤ 40) : ∀ i, i < q → nN (t (11 + nN (t (7 + m) i)) 3) ≤ u := by
  intro i hi
  obtain ⟨q', p, _, e', R⟩ := h
  have := rw_le hn R
  rw [e, nI_eq_iff (by omega) (by omega)] at e'
  subst e'
  obtain ⟨c, hc, ec, r1, r2⟩ := R.1 i hi
  rw [ec, nN_nI (by omega)]
  by_cases hi2 : i < p
  · obtain ⟨⟨z, hz, ez⟩, _⟩ := r1 hi2
    rw [ez, nN_nI (by omega)]; omega
  · rw [(r2 (by omega)).2, nN_nI (by omega)]; exact Nat.le_refl _
/-- the machine takes the next batch -/
theorem vM_tk (h : dM n u m s) (k : vM n u s) (hm : m < 3) (hu : u < 1440) (hb : b < n) (c1 : s (3 + m) 0 = -6) (e6 : s 6 m = nI (q + 1)) (eb : s (7 + m) 0 = nI b) (y0 : s (3 + m) 1 = 0) (hq40 : q < 40) : vM n u (tkF s m b q) := by
  obtain ⟨h1, h2, h3, h4, h5⟩ := h
  have hn : n ≤ 40 := h1.1.2.2.1
  obtain ⟨q0, pp, hp, e6', R⟩ := (h3 m hm).2 (Nat.le_refl _)
  have hq0 := rw_le hn R
  obtain ⟨K1, K2, K3⟩ := k
  have K2m := K2 m hm
  obtain ⟨⟨q1, q40, e6'', Q1, Q2⟩, H⟩ := K2m
  have eq0 : q0 = q1 := by rw [e6', nI_eq_iff (by omega) (by omega)] at e6''; exact e6''
  subst eq0
  have eq1 : q + 1 = q0 := by
    rw [e6', nI_eq_iff (by omega) (by omega)] at e6
    exact e6.symm
  subst eq1
  have T := tk_eq (b := b) hm (by omega) e6 eb y0
  rw [T]
  have fY : ∀ g, g ≠ 3 + m → g ≠ 6 → g ≠ 7 + m → rmF (ktF s m (nI b) (s (11 + b) 2) (s 1 0)) (7 + m) 6 m (q + 1) g = s g := fun g a1 a2 a3 => by
    unfold rmF; rw [ug_g a3, u2_g a2, kt_g a1]
  have f6 : rmF (ktF s m (nI b) (s (11 + b) 2) (s 1 0)) (7 + m) 6 m (q + 1) 6 = up (s 6) m (nI q) := by
    unfold rmF; rw [ug_g (by omega)]
    have : ∀ X : Sg, X 6 = s 6 → ∀ v, u2 X 6 m v 6 = up (s 6) m v := fun X hX v => by rw [← hX, up_u2]
    exact this _ (kt_g (by omega)) _
  have f7 : ∀ i, i < q → rmF (ktF s m (nI b) (s (11 + b) 2) (s 1 0)) (7 + m) 6 m (q + 1) (7 + m) i = s (7 + m) (i + 1) := fun i hi => by
    unfold rmF; rw [ug_s, if_pos (by omega), kt_g (by omega)]
  have f30 : rmF (ktF s m (nI b) (s (11 + b) 2) (s 1 0)) (7 + m) 6 m (q + 1) (3 + m) 0 = nI b := by
    unfold rmF ktF
    rw [ug_g (by omega), u2_g (by omega)]
    split
    · simp (disch := omega) only [u2_ne, u2_s]
    · simp (disch := omega) only [u2_ne, u2_s]
  have f32 : rmF (ktF s m (nI b) (s (11 + b) 2) (s 1 0)) (7 + m) 6 m (q + 1) (3 + m) 2 = s (11 + b) 2 := by
    unfold rmF ktF
    rw [ug_g (by omega), u2_g (by omega)]
    rw [u2_s]
  have f33 : rmF (ktF s m (nI b) (s (11 + b) 2) (s 1 0)) (7 + m) 6 m (q + 1) (3 + m) 3 = s (3 + m) 3 := by
    unfold rmF ktF
    rw [ug_g (by omega), u2_g (by omega)]
    split
    · simp (disch := omega) only [u2_ne]
    · simp (disch := omega) only [u2_ne]
  generalize rmF (ktF s m (nI b) (s (11 + b) 2) (s 1 0)) (7 + m) 6 m (q + 1) = Y at fY f6 f7 f30 f32 f33 ⊢
  have hr : ∀ c k, c < n → k < 6 → Y (11 + c) k = s (11 + c) k := fun c k _ _ => by rw [fY _ (by omega) (by omega) (by omega)]
  have hr' : ∀ c k, c < n → k < 5 → Y (11 + c) k = s (11 + c) k := fun c k _ _ => by rw [fY _ (by omega) (by omega) (by omega)]
  have hY : vM n u Y := by
    refine ⟨fun c hc => by rw [fY _ (by omega) (by omega) (by omega)]; exact K1 c hc, fun m' hm' => ?_, suV_mo K3 (by rw [fY 0 (by omega) (by omega) (by omega)]) (fun j hj => ?_) hr⟩
    · by_cases cm : m' = m
      · subst cm
        refine ⟨⟨q, by omega, by rw [f6]; exact up_at, fun i hi => ?_, fun i c c' hi hc hc' z1 z2 => ?_⟩, Or.inr ⟨b, hb, f30, ?_⟩⟩
        · obtain ⟨c, hc, z1, z2, z3, z4⟩ := Q1 (i + 1) (by omega)
          refine ⟨c, hc, (f7 i hi).trans z1, (hr c 0 hc (by omega)).trans z2, by rw [hr c 4 hc (by omega), hr c 1 hc (by omega)]; exact z3, ?_⟩
          rw [f30]
          intro z
          have := R.2 0 (i + 1) (by omega) (by omega) (by rw [eb, z, z1])
          omega
        · rw [f7 _ (by omega)] at z1 z2
          have := Q2 (i + 1) c c' (by omega) hc hc' z1 z2
          unfold ltV at this ⊢
          rw [hr c 3 hc (by omega), hr c' 3 hc' (by omega)]
          exact this
        · obtain ⟨c, hc, z1, z2, z3, z4⟩ := Q1 0 (by omega)
          rw [eb, nI_eq_iff (by omega) (by omega)] at z1
          subst z1
          obtain ⟨m2, p, r, c', w, hh, y, g, z, ⟨e0, e1, e2, e3, e4, e5, e6, e7, e8⟩, ⟨k1, k2, k3, k4, k5, k6, k7, k8⟩⟩ := h2 b hb
          refine ⟨(hr b 0 hb (by omega)).trans z2, ?_, by rw [hr b 2 hb (by omega), f32], ?_⟩
          · rw [hr b 4 hb (by omega), z3, e1]; exact nI_ne0 (by omega) (by omega)
          · have := quI_le hu hn ((h3 m' hm).2 (Nat.le_refl _)) e6' (by omega) 0 (by omega)
            rw [eb, nN_nI (by omega)] at this
            rw [hr b 3 hb (by omega)]
            omega
      · exact ⟨quV_mo (K2 m' hm').1 (by rw [f6]; exact if_neg cm) (fun i => by rw [fY _ (by omega) (by omega) (by omega)]) (by rw [fY _ (by omega) (by omega) (by omega)]) hr', haV_mo (K2 m' hm').2 (Nat.le_refl _) (by rw [fY _ (by omega) (by omega) (by omega)]) (by rw [fY _ (by omega) (by omega) (by omega)]) hr'⟩
    · by_cases cj : j = m
      · subst cj; exact f33
      · rw [fY _ (by omega) (by omega) (by omega)]
  split
  · exact hY
  · refine vM_dl hY (Or.inr rfl) ?_
    have := quI_le hu hn ((h3 m hm).2 (Nat.le_refl _)) e6' (by omega) 0 (by omega)
    rw [eb, nN_nI (by omega)] at this
    rw [hr b 3 hb (by omega)]
    exact this
/-- the machine sorts -/
theorem vM_so (k : vM n u D) (hm : m < 3) (hb : b < n) (hn : n ≤ 40) (h0 : D 0 0 = nI u) {l x w hh y many bad p : Nat} (e0 : D (3 + m) 0 = nI b) (h1 : D (11 + b) 1 = nI p) (h4 : D (11 + b) 4 = nI w) (h5 : D (11 + b) 5 = nI hh) (hx : D (3 + m) 3 = nI x) (kp : p ≤ 999) (kw : w ≤ p) (kh : hh ≤ 999) (k1 : many ≤ w) (k2 : bad ≤ many) : vM n u (SO D m b l x w hh y many bad) := by
  obtain ⟨K1, K2, K3⟩ := k
  have v1 : ∀ g, g ≠ 0 → g ≠ 3 + m → g ≠ 10 → g ≠ 11 + b → SO D m b l x w hh y many bad g = D g := fun g a1 a2 a3 a4 => by
    unfold SO
    simp (disch := omega) only [u2_g]
  have v02 : SO D m b l x w hh y many bad 0 2 = D 0 2 + nI bad := by
    unfold SO
    simp (disch := omega) only [u2_ne, u2_s]
  have vb : ∀ k, k ≠ 4 → k ≠ 5 → k ≠ 6 → k ≠ 9 → k ≠ 10 → SO D m b l x w hh y many bad (11 + b) k = D (11 + b) k := fun k a1 a2 a3 a4 a5 => by
    unfold SO
    simp (disch := omega) only [u2_ne]
  have vb4 : SO D m b l x w hh y many bad (11 + b) 4 = nI (w - many) := by
    unfold SO
    simp (disch := omega) only [u2_ne, u2_s]
  have vb5 : SO D m b l x w hh y many bad (11 + b) 5 = nI (hh + bad) := by
    unfold SO
    simp (disch := omega) only [u2_ne, u2_s]
  have vb9 : SO D m b l x w hh y many bad (11 + b) 9 = if bad = 0 then D (11 + b) 9 else if D (11 + b) 9 = 0 then 3 else D (11 + b) 9 := by
    unfold SO
    simp (disch := omega) only [u2_ne, u2_s]
  have vb10 : SO D m b l x w hh y many bad (11 + b) 10 = if w - many = 0 ∧ hh + bad = 0 then D 0 0 else D (11 + b) 10 := by
    unfold SO
    simp (disch := omega) only [u2_ne, u2_s]
  have vm0 : SO D m b l x w hh y many bad (3 + m) 0 = if w - many = 0 then -6 else D (3 + m) 0 := by
    unfold SO
    simp (disch := omega) only [u2_ne, u2_s]
  have vm2 : SO D m b l x w hh y many bad (3 + m) 2 = D (3 + m) 2 := by
    unfold SO
    simp (disch := omega) only [u2_ne]
  have vm3 : SO D m b l x w hh y many bad (3 + m) 3 = D (3 + m) 3 + nI many := by
    unfold SO
    simp (disch := omega) only [u2_ne, u2_s]
    rw [hx, nI_add]
  generalize SO D m b l x w hh y many bad = V at v1 v02 vb vb4 vb5 vb9 vb10 vm0 vm2 vm3 ⊢
  have hb' : haV n (u + 1) D m := (K2 m hm).2
  obtain ⟨s0, s4, s2, s3⟩ : D (11 + b) 0 = nI m ∧ D (11 + b) 4 ≠ 0 ∧ D (11 + b) 2 = D (3 + m) 2 ∧ nN (D (11 + b) 3) < u + 1 := by
    rcases hb' with q | ⟨b', hb', z0, z⟩
    · rw [e0] at q; exact absurd q (m6_n (by omega))
    · rw [e0, nI_eq_iff (by omega) (by omega)] at z0
      subst z0
      exact z
  have hw0 : w ≠ 0 := fun q => s4 (by rw [h4, q]; rfl)
  have ho : ∀ c, c ≠ b → V (11 + c) = D (11 + c) := fun c hc => v1 _ (by omega) (by omega) (by omega) (by omega)
  have hr3 : ∀ c, V (11 + c) 3 = D (11 + c) 3 := fun c => by
    by_cases cb : c = b
    · subst cb; exact vb 3 (by omega) (by omega) (by omega) (by omega) (by omega)
    · rw [ho c cb]
  refine ⟨fun c hc => ?_, fun m' hm' => ?_, ?_⟩
  · by_cases cb : c = b
    · subst cb
      obtain ⟨x1, x2, x3, x4, x5⟩ := K1 c hc
      have h10 : D (11 + c) 10 = -6 := by
        rcases x2 with q | q
        · exact q.1
        · exact absurd q.2.1 s4
      have v9 : V (11 + c) 9 = 4 → D (11 + c) 9 = 4 := fun q => by
        rw [vb9] at q
        by_cases c1 : bad = 0
        · rw [if_pos c1] at q; exact q
        · rw [if_neg c1] at q
          by_cases c2 : D (11 + c) 9 = 0
          · rw [if_pos c2] at q; exact absurd q (by decide)
          · rw [if_neg c2] at q; exact q
      refine ⟨fun q => ?_, ?_, ?_, fun q => ?_, fun q => ?_⟩
      · rw [hr3] at q; omega
      · rw [vb10, vb4, vb5, h10]
        by_cases c1 : w - many = 0 ∧ hh + bad = 0
        · rw [if_pos c1, c1.1, c1.2]
          exact Or.inr ⟨⟨u, by omega, h0⟩, rfl, rfl⟩
        · rw [if_neg c1]
          refine Or.inl ⟨rfl, ?_⟩
          by_cases c2 : w - many = 0
          · exact Or.inr (nI_ne0 (by omega) (by omega))
          · exact Or.inl (nI_ne0 (by omega) (by omega))
      · rw [vb9]
        split
        · exact x3
        · split
          · exact ⟨3, by omega, rfl⟩
          · exact x3
      · rw [vb9]
        by_cases c1 : bad = 0
        · rw [if_pos c1]
          refine x4 ?_
          rw [vb5, c1] at q
          rw [h5]; exact q
        · rw [if_neg c1]
          split
          · decide
          · assumption
      · rw [vb 8 (by omega) (by omega) (by omega) (by omega) (by omega), vb 1 (by omega) (by omega) (by omega) (by omega) (by omega)]
        exact x5 (v9 q)
    · rw [ho c cb]; exact K1 c hc
  · obtain ⟨⟨q, q40, e6, Q1, Q2⟩, H⟩ := K2 m' hm'
    have hcb : ∀ i c, i < q → D (7 + m') i = nI c → c < n → c ≠ b := fun i c hi z hc => by
      intro zz
      subst zz
      obtain ⟨c2, hc2, z1, z2, z3, z4⟩ := Q1 i hi
      rw [z, nI_eq_iff (by omega) (by omega)] at z1
      subst z1
      by_cases cm : m' = m
      · subst cm; exact z4 e0
      · rw [s0, nI_eq_iff (by omega) (by omega)] at z2
        exact cm z2.symm
    refine ⟨⟨q, q40, by rw [v1 6 (by omega) (by omega) (by omega) (by omega)]; exact e6, fun i hi => ?_, fun i c c' hi hc hc' z1 z2 => ?_⟩, ?_⟩
    · obtain ⟨c2, hc2, z1, z2, z3, z4⟩ := Q1 i hi
      have hne := hcb i c2 hi z1 hc2
      refine ⟨c2, hc2, by rw [v1 _ (by omega) (by omega) (by omega) (by omega)]; exact z1, by rw [ho c2 hne]; exact z2, by rw [ho c2 hne]; exact z3, ?_⟩
      by_cases cm : m' = m
      · subst cm
        rw [vm0]
        split
        · exact fun z => m6_n (k := c2) (by omega) z.symm
        · exact z4
      · rw [v1 _ (by omega) (by omega) (by omega) (by omega)]; exact z4
    · rw [v1 (7 + m') (by omega) (by omega) (by omega) (by omega)] at z1 z2
      have := Q2 i c c' hi hc hc' z1 z2
      unfold ltV at this ⊢
      rw [hr3, hr3]
      exact this
    · by_cases cm : m' = m
      · subst cm
        by_cases c1 : w - many = 0
        · exact Or.inl (by rw [vm0, if_pos c1])
        · refine Or.inr ⟨b, hb, by rw [vm0, if_neg c1]; exact e0, (vb 0 (by omega) (by omega) (by omega) (by omega) (by omega)).trans s0, by rw [vb4]; exact nI_ne0 (by omega) (by omega), by rw [vb 2 (by omega) (by omega) (by omega) (by omega) (by omega), vm2]; exact s2, by rw [hr3]; exact s3⟩
      · have hg : V (3 + m') = D (3 + m') := v1 _ (by omega) (by omega) (by omega) (by omega)
        rcases H with H | ⟨b', hb', z0, z1, z2, z3, z4⟩
        · exact Or.inl (by rw [hg]; exact H)
        · have hne : b' ≠ b := fun z => by
            subst z
            rw [s0, nI_eq_iff (by omega) (by omega)] at z1
            exact cm z1.symm
          exact Or.inr ⟨b', hb', by rw [hg]; exact z0, by rw [ho b' hne]; exact z1, by rw [ho b' hne]; exact z2, by rw [ho b' hne, hg]; exact z3, by rw [ho b' hne]; exact z4⟩
  · obtain ⟨R, x0, x1, x2, a1, a2, a3, a4, a5, a6, a7⟩ := K3
    have d1 := sN_up (F := fD) (t := D) (t' := V) (b := b) n hb (fun c _ hc => by rw [ho c hc])
    have d2 := sN_up (F := fH) (t := D) (t' := V) (b := b) n hb (fun c _ hc => by rw [ho c hc])
    have f1 : fD (D (11 + b)) = p - w := by unfold fD; rw [h1, h4, nN_nI (by omega), nN_nI (by omega)]
    have f2 : fD (V (11 + b)) = p - (w - many) := by unfold fD; rw [vb 1 (by omega) (by omega) (by omega) (by omega) (by omega), h1, vb4, nN_nI (by omega), nN_nI (by omega)]
    have f3 : fH (D (11 + b)) = hh := by unfold fH; rw [h5, nN_nI (by omega)]
    have f4 : fH (V (11 + b)) = hh + bad := by unfold fH; rw [vb5, nN_nI (by omega)]
    rw [f1, f2] at d1
    rw [f3, f4] at d2
    have w2 : V 0 2 = nI (R + bad) := by rw [v02, a1, nI_add]
    have wj : ∀ j, j < 3 → j ≠ m → V (3 + j) 3 = D (3 + j) 3 := fun j hj hne => by rw [v1 _ (by omega) (by omega) (by omega) (by omega)]
    match m, hm with
    | 0, _ => exact ⟨R + bad, x0 + many, x1, x2, w2, by rw [show (3 : Nat) = 3 + 0 from rfl, vm3]; rw [show D (3 + 0) 3 = nI x0 from a2, nI_add], (wj 1 (by omega) (by omega)).trans a3, (wj 2 (by omega) (by omega)).trans a4, by omega, by omega, by omega⟩
    | 1, _ => exact ⟨R + bad, x0, x1 + many, x2, w2, (wj 0 (by omega) (by omega)).trans a2, by rw [show (4 : Nat) = 3 + 1 from rfl, vm3]; rw [show D (3 + 1) 3 = nI x1 from a3, nI_add], (wj 2 (by omega) (by omega)).trans a4, by omega, by omega, by omega⟩
    | 2, _ => exact ⟨R + bad, x0, x1, x2 + many, w2, (wj 0 (by omega) (by omega)).trans a2, (wj 1 (by omega) (by omega)).trans a3, by rw [show (5 : Nat) = 3 + 2 from rfl, vm3]; rw [show D (3 + 2) 3 = nI x2 from a4, nI_add], by omega, by omega, by omega⟩
/-- a machine's minute -/
theorem vM_rn (h : dM n u m s) (k : vM n u s) (hm : m < 3) (hu : u < 1440) : vM n u (rnS s m) ∧ dM n u (m + 1) (rnS s m) ∧ rnS s m 0 3 = s 0 3 := by
  obtain ⟨_, _, st1, st2, _⟩ := mc_step h hm hu
  refine ⟨?_, st1, st2⟩
  obtain ⟨q, q0, e6, hq0, hhd, a6, hqn, hqA, hdB, fA, fB, a3, hc⟩ := tk_all h hm
  have hn : n ≤ 40 := h.1.1.2.2.1
  have kB : vM n u (rnT s m) := by
    unfold rnT
    by_cases c1 : s (3 + m) 0 = -6
    · rw [if_pos c1]
      by_cases c2 : s 6 m ≤ 0
      · rw [if_pos c2]; exact k
      · rw [if_neg c2]
        have z : q0 ≠ 0 := fun z => c2 (by rw [e6, z]; decide)
        obtain ⟨b, hb, eb⟩ := hhd (by omega)
        have y0 : s (3 + m) 1 = 0 := by
          obtain ⟨y, _, ey, hy⟩ := (h.2.2.2.1 m hm).1
          rcases hy with ⟨_, z⟩ | ⟨b', hb', e, _⟩
          · rw [ey, z]; rfl
          · rw [c1] at e; exact absurd e.symm (m6_n (by omega))
        rw [eb, nN_nI (by omega), e6, nN_nI (by omega)]
        exact vM_tk h k hm hu hb c1 (by rw [e6, show q0 - 1 + 1 = q0 by omega]) eb y0 (by omega)
    · rw [if_neg c1]; exact k
  unfold rnS
  generalize rnT s m = X at hdB fB hc kB ⊢
  by_cases c1 : X (3 + m) 0 = -6
  · rw [if_pos c1]; exact kB
  · rw [if_neg c1]
    have x6 : X 6 m = nI q := by rw [fB 6 (by omega)]; exact a6
    have hqX : quI n u n X m := (hdB.2.2.1 m hm).2 (Nat.le_refl _)
    have kD := vM_dq kB (quI_le hu hn hqX x6 (by omega)) hm q (Nat.le_refl _)
    have hD := dM_dq (m := m) (k := q) hdB
    have hX := hD.1.1.1
    unfold rnU
    dsimp only
    rw [x6, nN_nI (by omega)]
    have g30 : itF (dqS m) q X (3 + m) 0 = X (3 + m) 0 := by rw [dq_g (by omega)]
    rcases hc with ⟨e, _, eq⟩ | ⟨b, y, hb, hy, e0, e1, ey, _⟩
    · rw [fB _ (by omega)] at c1; exact absurd e c1
    · have hb0 : itF (dqS m) q X (3 + m) 0 = nI b := by rw [g30, fB _ (by omega)]; exact e0
      split
      · obtain ⟨x, w, hh, y', l, many, bad, e4, e5, e6', ex, el, hxu, kw, kh, ky, kl, kln, k1, k2, k3, d1, d2, d3, d4⟩ := so_ar hD hm hb hu
        obtain ⟨m2, p, r, c', w', hh', y2, g, z, ⟨f0, f1, f2, f3, f4, f5, f6, f7, f8⟩, ⟨j1, j2, j3, j4, j5, j6, j7, j8⟩⟩ := hD.2.1 b hb
        have hw' : w' = w := by rw [e4, nI_eq_iff (by omega) (by omega)] at f4; exact f4.symm
        rw [hb0, nN_nI (by omega), el, nN_nI (by omega), so_nf hm e4 e5 e6' ex el d1 d3 k1 k2 (by omega) (by omega)]
        exact vM_so kD hm hb hn hX hb0 f1 e4 e5 ex (by omega) (by omega) (by omega) k1 k2
      · obtain ⟨K1, K2, K3⟩ := kD
        have hg : ∀ g k, ¬ (g = 3 + m ∧ k = 1) → u2 (itF (dqS m) q X) (3 + m) 1 (itF (dqS m) q X (3 + m) 1 - 1) g k = itF (dqS m) q X g k := fun g k z => u2_ne z
        refine ⟨fun c hc => by rw [u2_g (by omega)]; exact K1 c hc, fun m' hm' => ⟨quV_mo (K2 m' hm').1 (hg _ _ (by omega)) (fun i => hg _ _ (by omega)) (hg _ _ (by omega)) (fun c k' _ _ => hg _ _ (by omega)), haV_mo (K2 m' hm').2 (Nat.le_refl _) (hg _ _ (by omega)) (hg _ _ (by omega)) (fun c k' _ _ => hg _ _ (by omega))⟩, suV_mo K3 (hg _ _ (by omega)) (fun j hj => hg _ _ (by omega)) (fun c k' _ _ => hg _ _ (by omega))⟩
end VB
