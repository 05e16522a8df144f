/-! a machine in a minute: both sides -/
section RU
variable {D s t A B : Sg} {n u b m a : Nat}
theorem kt_g {b r e : Int32} {g : Nat} (h : g ≠ 3 + m) : ktF s m b r e g = s g := funext fun _ => kt_ne h
theorem kt_r {b r : Int32} {v : Nat} (e1 : s (3 + m) 1 = 0) (e0 : s 1 0 = nI v) (hv : v ≤ 30) : ktF s m b r (s 1 0) (3 + m) 0 = b ∧ ktF s m b r (s 1 0) (3 + m) 3 = s (3 + m) 3 ∧ ∃ y, y ≤ 30 ∧ ktF s m b r (s 1 0) (3 + m) 1 = nI y := by
  unfold ktF
  split
  · exact ⟨by simp (disch := omega) only [u2_ne, u2_s], by simp (disch := omega) only [u2_ne], 0, by omega, by simp (disch := omega) only [u2_ne, e1]; rfl⟩
  · exact ⟨by simp (disch := omega) only [u2_ne, u2_s], by simp (disch := omega) only [u2_ne], v, hv, by simp (disch := omega) only [u2_ne, u2_s, e0]⟩
/-- what taking does: A on the class's side, B on the reference's -/
def tkI (n u m : Nat) (s A B : Sg) (q : Nat) : Prop :=
  A 6 m = nI q ∧ q ≤ n ∧ quI n u n A m ∧ dM n u m B ∧ (∀ g, g ≠ 3 + m → g ≠ 6 → g ≠ 7 + m → A g = s g) ∧ (∀ g, g < 11 → B g = A g) ∧ A (3 + m) 3 = s (3 + m) 3 ∧
  ((A (3 + m) 0 = -6 ∧ q = 0 ∧ B = A) ∨ ∃ b y, b < n ∧ y ≤ 30 ∧ A (3 + m) 0 = nI b ∧ A (3 + m) 1 = nI y ∧ (y = 0 → B = A) ∧ (y ≠ 0 → B (11 + b) 9 ≠ 0 ∧ ∀ k, k ≤ q → dlF (itF (dqS m) k A) b 2 = itF (dqS m) k B))
theorem tk_all (h : dM n u m s) (hm : m < 3) : ∃ q q0, s 6 m = nI q0 ∧ q0 ≤ 40 ∧ (0 < q0 → ∃ b, b < n ∧ s (7 + m) 0 = nI b) ∧ tkI n u m s (tnF s m (nN (s 6 m))) (rnT s m) q := by
  have H := h
  obtain ⟨h1, h2, h3, h4, h5⟩ := H
  have hn : n ≤ 40 := h1.1.2.2.1
  obtain ⟨q0, p, hp, e6, R⟩ := (h3 m hm).2 (Nat.le_refl _)
  have hq0 := rw_le hn R
  have hhd : 0 < q0 → ∃ b, b < n ∧ s (7 + m) 0 = nI b := fun z => by
    obtain ⟨c, hc, e, _⟩ := R.1 0 z
    exact ⟨c, hc, e⟩
  obtain ⟨y0, hy0, ey0, hmc⟩ := (h4 m hm).1
  obtain ⟨v, hv, ev⟩ := bs_setup h1
  have eN : nN (s 6 m) = q0 := by rw [e6, nN_nI (by omega)]
  by_cases c1 : s (3 + m) 0 = -6
  · have hy : y0 = 0 := by
      rcases hmc with ⟨_, z⟩ | ⟨b, hb, e, _⟩
      · exact z
      · rw [c1] at e; exact absurd e.symm (m6_n (by omega))
    subst hy
    by_cases c2 : q0 = 0
    · subst c2
      have eA : tnF s m (nN (s 6 m)) = s := by unfold tnF; rw [eN, if_neg (by omega)]
      have eB : rnT s m = s := by unfold rnT; rw [if_pos c1, e6, if_pos (by decide)]
      refine ⟨0, 0, e6, by omega, hhd, ?_⟩
      rw [eA, eB]
      exact ⟨e6, by omega, (h3 m hm).2 (Nat.le_refl _), h, fun _ _ _ _ => rfl, fun _ _ => rfl, rfl, Or.inl ⟨c1, rfl, rfl⟩⟩
    · obtain ⟨q, rfl⟩ : ∃ q, q0 = q + 1 := ⟨q0 - 1, by omega⟩
      obtain ⟨b, hb, eb⟩ := hhd (by omega)
      have eA : tnF s m (nN (s 6 m)) = rmF (ktF s m (nI b) (s (11 + b) 2) (s 1 0)) (7 + m) 6 m (q + 1) := by
        unfold tnF; rw [eN, if_pos ⟨c1, by omega⟩, eb, nN_nI (by omega)]
      have eB : rnT s m = tkF s m b q := by
        unfold rnT; rw [if_pos c1, e6, if_neg (nI_nle (by omega) (by omega)), eb, nN_nI (by omega), nN_nI (by omega)]; rfl
      have eT := tk_eq (b := b) hm (by omega) e6 eb (show s (3 + m) 1 = 0 from ey0)
      rw [← eB] at eT
      rw [← eA] at eT
      obtain ⟨r0, r3, y, hy, r1⟩ := kt_r (s := s) (m := m) (b := nI b) (r := s (11 + b) 2) (v := v) ey0 ev hv
      have fA : ∀ g, g ≠ 3 + m → g ≠ 6 → g ≠ 7 + m → tnF s m (nN (s 6 m)) g = s g := fun g a1 a2 a3 => by
        rw [eA]; unfold rmF; rw [ug_g a3, u2_g a2, kt_g a1]
      have fA3 : ∀ k, tnF s m (nN (s 6 m)) (3 + m) k = ktF s m (nI b) (s (11 + b) 2) (s 1 0) (3 + m) k := fun k => by
        rw [eA]; unfold rmF; rw [ug_g (by omega), u2_g (by omega)]
      have fA6 : tnF s m (nN (s 6 m)) 6 = up (s 6) m (nI q) := by
        rw [eA]; unfold rmF; rw [ug_g (by omega)]
        have : ∀ X : Sg, X 6 = s 6 → ∀ v, u2 X 6 m v 6 = up (s 6) m v := fun X hX v => by rw [← hX, up_u2]
        exact this _ (kt_g (by omega)) _
      have fA7 : ∀ i, i < q → tnF s m (nN (s 6 m)) (7 + m) i = s (7 + m) (i + 1) := fun i hi => by
        rw [eA]; unfold rmF; rw [ug_s, if_pos (by omega), kt_g (by omega)]
      refine ⟨q, q + 1, e6, by omega, hhd, ?_⟩
      generalize tnF s m (nN (s 6 m)) = A at fA fA3 fA6 fA7 eT ⊢
      generalize rnT s m = B at eT ⊢
      have a0 : A (3 + m) 0 = nI b := (fA3 0).trans r0
      have a1 : A (3 + m) 1 = nI y := (fA3 1).trans r1
      have a3 : A (3 + m) 3 = s (3 + m) 3 := (fA3 3).trans r3
      have a6 : A 6 m = nI q := by rw [fA6]; exact if_pos rfl
      have eB0 : y = 0 → B = A := fun z => by rw [eT, a1, if_pos ((z_l (by omega)).mpr z)]
      have eB1 : y ≠ 0 → B = dlF A b 2 := fun z => by rw [eT, a1, if_neg (fun w => z ((z_l (by omega)).mp w))]
      have fB : ∀ g, g < 11 → B g = A g := fun g hg => by
        by_cases z : y = 0
        · rw [eB0 z]
        · rw [eB1 z, dl_g (by omega)]
      have fBk : ∀ g k, k ≠ 9 → B g k = A g k := fun g k hk => by
        by_cases z : y = 0
        · rw [eB0 z]
        · rw [eB1 z, dl_k hk]
      have fB9 : ∀ g, A g 9 ≠ 0 → B g 9 ≠ 0 := fun g hg => by
        by_cases z : y = 0
        · rw [eB0 z]; exact hg
        · rw [eB1 z]; exact dl_nz (by decide) hg
      have hqA : quI n u n A m := ⟨q, p - 1, by omega, a6, rw_cut R fA7 (fun i c hi hc _ _ P => ⟨fun z => by
          rw [fA _ (by omega) (by omega) (by omega)]; exact P.1 (by omega), fun z => by
          rw [fA _ (by omega) (by omega) (by omega)]; exact P.2 (by omega)⟩)⟩
      have hr : ∀ c, c < n → rmO (s (11 + c)) (B (11 + c)) := fun c _ => ⟨by rw [fBk _ _ (by omega), fA _ (by omega) (by omega) (by omega)], fun z => fB9 _ (by rw [fA _ (by omega) (by omega) (by omega)]; exact z)⟩
      have hrA : ∀ c, c < n → rmO (A (11 + c)) (B (11 + c)) := fun c _ => ⟨fBk _ _ (by omega), fB9 _⟩
      have hB9 : y = 0 ∨ B (11 + b) 9 ≠ 0 := by
        by_cases z : y = 0
        · exact Or.inl z
        · refine Or.inr ?_
          rw [eB1 z, dl_9]
          split
          · decide
          · assumption
      have hdB : dM n u m B := by
        refine ⟨bs_mo h1 (by rw [fB 0 (by omega), fA 0 (by omega) (by omega) (by omega)]) (by rw [fB 0 (by omega), fA 0 (by omega) (by omega) (by omega)]) (fun i _ => by rw [fB 1 (by omega), fA 1 (by omega) (by omega) (by omega)]) (fun i _ => by rw [fB 2 (by omega), fA 2 (by omega) (by omega) (by omega)]), fun c hc => bt_eq (h2 c hc) (fun k hk => by rw [fBk _ _ (by omega), fA _ (by omega) (by omega) (by omega)]), fun m' hm' => ?_, fun m' hm' => ?_, lnI_mo h5 (by rw [fB 0 (by omega), fA 0 (by omega) (by omega) (by omega)]) (by rw [fB 10 (by omega), fA 10 (by omega) (by omega) (by omega)]) (fun c _ z => by rw [fBk _ _ (by omega), fA _ (by omega) (by omega) (by omega)]; exact z)⟩
        · by_cases cm : m' = m
          · subst cm
            exact ⟨fun z => absurd z (by omega), fun _ => quI_mo hqA (by rw [fB 6 (by omega)]) (fB _ (by omega)) hrA⟩
          · have w6 : B 6 m' = s 6 m' := by rw [fB 6 (by omega), fA6]; exact if_neg cm
            have w7 : B (7 + m') = s (7 + m') := by rw [fB _ (by omega), fA _ (by omega) (by omega) (by omega)]
            exact ⟨fun z => qvE_mo ((h3 m' hm').1 z) w6 w7 hr, fun z => quI_mo ((h3 m' hm').2 z) w6 w7 hr⟩
        · by_cases cm : m' = m
          · subst cm
            exact ⟨⟨y, hy, by rw [fB _ (by omega)]; exact a1, Or.inr ⟨b, hb, by rw [fB _ (by omega)]; exact a0, hB9⟩⟩, raI_mo (h4 m' hm').2 (by rw [fB _ (by omega)]; exact a3) (Nat.le_refl _)⟩
          · exact ⟨mcI_mo (h4 m' hm').1 (by rw [fB _ (by omega), fA _ (by omega) (by omega) (by omega)]) (by rw [fB _ (by omega), fA _ (by omega) (by omega) (by omega)]) hr, raI_mo (h4 m' hm').2 (by rw [fB _ (by omega), fA _ (by omega) (by omega) (by omega)]) (Nat.le_refl _)⟩
      refine ⟨a6, by omega, hqA, hdB, fA, fB, a3, Or.inr ⟨b, y, hb, hy, a0, a1, eB0, fun z => ⟨hB9.elim (fun w => absurd w z) id, fun k hk => ?_⟩⟩⟩
      rw [eB1 z, dq_dl2 hm]
      intro i hi e
      obtain ⟨c, hc, ec, _⟩ := R.1 (i + 1) (by omega)
      rw [fA7 i (by omega), ec, nN_nI (by omega)] at e
      subst e
      have := R.2 (i + 1) 0 (by omega) (by omega) (by rw [ec, eb])
      omega
  · have eA : tnF s m (nN (s 6 m)) = s := by unfold tnF; rw [if_neg (fun z => c1 z.1)]
    have eB : rnT s m = s := by unfold rnT; rw [if_neg c1]
    refine ⟨q0, q0, e6, by omega, hhd, ?_⟩
    rw [eA, eB]
    refine ⟨e6, hq0, (h3 m hm).2 (Nat.le_refl _), h, fun _ _ _ _ => rfl, fun _ _ => rfl, rfl, Or.inr ?_⟩
    rcases hmc with ⟨z, _⟩ | ⟨b, hb, e, h9⟩
    · exact absurd z c1
    · refine ⟨b, y0, hb, hy0, e, ey0, fun _ => rfl, fun z => ?_⟩
      have h9 : s (11 + b) 9 ≠ 0 := h9.elim (fun w => absurd w z) id
      exact ⟨h9, fun k _ => dl_no (dq_nz h9)⟩
/-- how many pieces are sorted, how many of them are rejected -/
theorem so_ar (h : dM n u m D) (hm : m < 3) (hb : b < n) (hu : u < 1440) : ∃ x w hh y l many bad, D (11 + b) 4 = nI w ∧ D (11 + b) 5 = nI hh ∧ D (11 + b) 6 = nI y ∧ D (3 + m) 3 = nI x ∧ D 0 4 = nI l ∧ x ≤ 100 * u ∧ w ≤ 999 ∧ hh ≤ 999 ∧ y ≤ 999 ∧ l ≤ 40 ∧ (hh = 0 → l < n) ∧ many ≤ w ∧ bad ≤ many ∧ many ≤ 100 ∧
    (if D (11 + b) 4 ≤ D 1 (6 + m) then D (11 + b) 4 else D 1 (6 + m)) = nI many ∧ (if D (11 + b) 4 < D 1 (6 + m) then D (11 + b) 4 else D 1 (6 + m)) = nI many ∧
    (if nI many ≤ (D 3 3 + D 4 3 + D 5 3 + nI many) * D 1 1 / 1000 - (D 3 3 + D 4 3 + D 5 3) * D 1 1 / 1000 then nI many else (D 3 3 + D 4 3 + D 5 3 + nI many) * D 1 1 / 1000 - (D 3 3 + D 4 3 + D 5 3) * D 1 1 / 1000) = nI bad ∧
    (∀ s : Sg, s 0 5 = D 3 3 + D 4 3 + D 5 3 → s 1 1 = D 1 1 → sbR s (nI many) = nI bad) := by
  obtain ⟨h1, h2, h3, h4, h5⟩ := h
  have hn : n ≤ 40 := h1.1.2.2.1
  obtain ⟨m', p, r, c, w, hh, y, g, z, ⟨e0, e1, e2, e3, e4, e5, e6, e7, e8⟩, ⟨j1, j2, j3, j4, j5, j6, j7, j8⟩⟩ := h2 b hb
  obtain ⟨x, hx, ex⟩ := (h4 m hm).2
  rw [if_neg (by omega)] at hx
  obtain ⟨x0, hx0, ex0⟩ := (h4 0 (by omega)).2
  obtain ⟨x1, hx1, ex1⟩ := (h4 1 (by omega)).2
  obtain ⟨x2, hx2, ex2⟩ := (h4 2 (by omega)).2
  have hx0 : x0 ≤ 144100 := by split at hx0 <;> omega
  have hx1 : x1 ≤ 144100 := by split at hx1 <;> omega
  have hx2 : x2 ≤ 144100 := by split at hx2 <;> omega
  obtain ⟨rj, hrj, erj⟩ := bs_rej h1
  obtain ⟨v, hv1, hv2, ev⟩ := bs_speed h1 hm
  obtain ⟨l, el, R⟩ := h5
  have hll := rw_le hn R
  have ex0 : D 3 3 = nI x0 := ex0
  have ex1 : D 4 3 = nI x1 := ex1
  have ex2 : D 5 3 = nI x2 := ex2
  obtain ⟨many, hmany⟩ : ∃ many, many = if w ≤ v then w else v := ⟨_, rfl⟩
  have hmw : many ≤ w := by rw [hmany]; split <;> omega
  have hm100 : many ≤ 100 := by rw [hmany]; split <;> omega
  obtain ⟨X, hX⟩ : ∃ X, X = x0 + x1 + x2 := ⟨_, rfl⟩
  have hb1 : (X + many) * rj ≤ 432400 * 500 := Nat.mul_le_mul (by omega) hrj
  have hb2 : X * rj ≤ (X + many) * rj := Nat.mul_le_mul (by omega) (Nat.le_refl _)
  have hdv : X * rj / 1000 ≤ (X + many) * rj / 1000 := Nat.div_le_div_right hb2
  have hd0 : (nI X + nI many) * nI rj / 1000 - nI X * nI rj / 1000 = nI ((X + many) * rj / 1000 - X * rj / 1000) := by
    rw [nI_add, pk_mul, pk_mul, show (1000 : Int32) = nI 1000 from rfl, pk_div (by omega) (by omega) (by omega), pk_div (by omega) (by omega) (by omega), pk_sub hdv]
  obtain ⟨d, hd⟩ : ∃ d, d = (X + many) * rj / 1000 - X * rj / 1000 := ⟨_, rfl⟩
  have hdb : d < 2000000 := by omega
  rw [← hd] at hd0
  have hsum : D 3 3 + D 4 3 + D 5 3 = nI X := by rw [ex0, ex1, ex2, nI_add, nI_add, hX]
  have kle : (nI many ≤ nI d) = (many ≤ d) := propext (nI_leI (by omega) (by omega))
  have klt : (nI many < nI d) = (many < d) := propext (nI_ltI (by omega) (by omega))
  refine ⟨x, w, hh, y, l, many, if many ≤ d then many else d, e4, e5, e6, ex, el, by omega, by omega, by omega, by omega, by omega, fun q => rw_lt hn R hb (fun i hi e => ?_), hmw, by split <;> omega, hm100, ?_, ?_, ?_, fun s hs hs1 => ?_⟩
  · obtain ⟨c', hc', ec, q2⟩ := R.1 i hi
    rw [ec, nI_eq_iff (by omega) (by omega)] at e
    subst e
    apply q2
    rw [e5, q]; rfl
  · have k : (nI w ≤ nI v) = (w ≤ v) := nI_le_iff (by omega) (by omega)
    rw [e4, ev, hmany]
    by_cases c1 : w ≤ v
    · rw [if_pos (k.mpr c1), if_pos c1]
    · rw [if_neg (fun q => c1 (k.mp q)), if_neg c1]
  · have k : (nI w < nI v) = (w < v) := nI_lt_iff (by omega) (by omega)
    rw [e4, ev, hmany]
    by_cases c1 : w < v
    · rw [if_pos (k.mpr c1), if_pos (by omega)]
    · rw [if_neg (fun q => c1 (k.mp q))]
      by_cases c2 : w ≤ v
      · rw [if_pos c2, show v = w by omega]
      · rw [if_neg c2]
  · rw [hsum, erj, hd0]
    by_cases c1 : many ≤ d
    · rw [if_pos (kle.mpr c1), if_pos c1]
    · rw [if_neg (fun q => c1 (kle.mp q)), if_neg c1]
  · unfold sbR
    dsimp only
    rw [hs, hs1, hsum, erj, hd0]
    by_cases c1 : many < d
    · rw [if_pos (klt.mpr c1), if_pos (by omega)]
    · rw [if_neg (fun q => c1 (klt.mp q))]
      by_cases c2 : many ≤ d
      · rw [if_pos c2, show d = many by omega]
      · rw [if_neg c2]
end RU
