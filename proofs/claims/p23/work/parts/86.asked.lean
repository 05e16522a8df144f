/-! days to their end: all sorted, what misses -/
section AE
variable {s t w : Sg} {n u b m a e : Nat} {c : Int32}
theorem first_at (P : Nat → Prop) : ∀ L, ∃ N, N ≤ L ∧ (∀ k, k < N → ¬ P k) ∧ (N = L ∨ P N) := by
  intro L
  induction L with
  | zero => exact ⟨0, Nat.le_refl _, fun k hk => by omega, Or.inl rfl⟩
  | succ L ih =>
    obtain ⟨N, h1, h2, h3⟩ := ih
    by_cases hP : P N
    · exact ⟨N, by omega, h2, Or.inr hP⟩
    · have hN : N = L := h3.elim id (fun q => absurd q hP)
      subst hN
      refine ⟨N + 1, Nat.le_refl _, fun k hk => ?_, Or.inl rfl⟩
      by_cases hk2 : k = N
      · rw [hk2]; exact hP
      · exact h2 k (by omega)
theorem al_lf (h : dI n u t) (e : sG n s t) : ∀ k, k ≤ n → ∃ S, S ≤ 999 * k ∧ lfF t k = nI S ∧ (alB s k = true ↔ S = 0) := by
  intro k
  induction k with
  | zero => intro _; exact ⟨0, by omega, rfl, ⟨fun _ => rfl, fun _ => rfl⟩⟩
  | succ k ih =>
    intro hk
    obtain ⟨S, h1, h2, h3⟩ := ih (by omega)
    obtain ⟨m, p, r, c, w, hh, y, g, z, ⟨e0, e1, e2, e3, e4, e5, e6, e7, e8⟩, ⟨k1, k2, k3, k4, k5, k6, k7, k8⟩⟩ := h.2.1 k (by omega)
    refine ⟨S + (w + hh), by omega, ?_, ?_⟩
    · show lfF t k + (t (11 + k) 4 + t (11 + k) 5) = _
      rw [h2, e4, e5, nI_add, nI_add]
    · show (alB s k && decide (s (11 + k) 4 = 0 ∧ s (11 + k) 5 = 0)) = true ↔ _
      rw [Bool.and_eq_true, decide_eq_true_eq, h3, sG_b e (k := 4) (by omega), sG_b e (k := 5) (by omega), e4, e5, z_e (by omega), z_e (by omega)]
      constructor
      · intro q; omega
      · intro q; exact ⟨by omega, by omega, by omega⟩
theorem al_iff (h : dI n u t) (e : sG n s t) : (alB s n = true ↔ lfF t n = 0) ∧ (lfF t n ≤ 0 ↔ lfF t n = 0) := by
  obtain ⟨S, h1, h2, h3⟩ := al_lf h e n (Nat.le_refl _)
  have hn := h.1.1.2.2.1
  rw [h2, z_e (by omega), z_l (by omega)]
  exact ⟨h3, Iff.rfl⟩
theorem pn_all (h : rI n u s t) : ∀ k, u + k ≤ 1440 → rI n (u + k) (pmN s k) (dyN t k) ∧ ∀ j, j < k → pmOK n (pmN s j) := by
  intro k
  induction k with
  | zero => intro _; exact ⟨h, fun j hj => by omega⟩
  | succ k ih =>
    intro hk
    obtain ⟨i1, i2⟩ := ih (by omega)
    obtain ⟨p1, p2⟩ := mn_rI i1 (by omega)
    refine ⟨p2, fun j hj => ?_⟩
    by_cases c : j = k
    · rw [c]; exact p1
    · exact i2 j (by omega)
/-- all that the runs of sortedAt need, and that the answers are the same -/
theorem so_at (h : rI n u s t) : ∃ N, N ≤ 1440 ∧
    ((∀ k, k ≤ N → pmN s k 0 1 = nI n) ∧ (∀ k, k < N → pmOK n (pmN s k) ∧ ¬ 1440 ≤ pmN s k 0 0 ∧ alB (pmN s k) n = false) ∧ (N = 1440 ∨ 1440 ≤ pmN s N 0 0 ∨ alB (pmN s N) n = true)) ∧
    ((∀ k, k ≤ N → dyN t k 0 1 = nI n) ∧ (∀ k, k < N → mnOK (dyN t k) ∧ ¬ lfF (dyN t k) n ≤ 0 ∧ ¬ 1440 ≤ dyN t k 0 0) ∧ (lfF (dyN t N) n ≤ 0 ∨ 1440 ≤ dyN t N 0 0)) ∧
    (if alB (pmN s N) n = true then pmN s N 0 0 else -6) = (if lfF (dyN t N) n = 0 then dyN t N 0 0 else -6) := by
  have hu := h.1.1.1.2.2.2
  obtain ⟨N, h1, h2, h3⟩ := first_at (fun k => lfF (dyN t k) n = 0) (1440 - u)
  have R : ∀ k, k ≤ N → rI n (u + k) (pmN s k) (dyN t k) := fun k hk => (pn_all h k (by omega)).1
  have A : ∀ k, k ≤ N → (alB (pmN s k) n = true ↔ lfF (dyN t k) n = 0) ∧ (lfF (dyN t k) n ≤ 0 ↔ lfF (dyN t k) n = 0) := fun k hk => al_iff (R k hk).1 (R k hk).2.1
  have N0 : ∀ k, k ≤ N → pmN s k 0 0 = nI (u + k) ∧ dyN t k 0 0 = nI (u + k) := fun k hk => ⟨(sG_0 (R k hk).2.1 (by omega)).trans (R k hk).1.1.1.1, (R k hk).1.1.1.1⟩
  have k1440 : ∀ k, u + k < 1440 → ¬ 1440 ≤ nI (u + k) := fun k hk => by
    rw [show (1440 : Int32) = nI 1440 from rfl, nI_le_iff (by omega) (by omega)]; omega
  refine ⟨N, by omega, ⟨fun k hk => (sG_0 (R k hk).2.1 (by omega)).trans (R k hk).1.1.1.2.1, fun k hk => ⟨(pn_all h N (by omega)).2 k hk, by rw [(N0 k (by omega)).1]; exact k1440 k (by omega), ?_⟩, ?_⟩, ⟨fun k hk => (R k hk).1.1.1.2.1, fun k hk => ⟨(dy_all h.1 N (by omega)).2.1 k hk, fun q => h2 k hk ((A k (by omega)).2.mp q), by rw [(N0 k (by omega)).2]; exact k1440 k (by omega)⟩, ?_⟩, ?_⟩
  · have := fun q => h2 k hk ((A k (by omega)).1.mp q)
    cases hb : alB (pmN s k) n
    · rfl
    · exact absurd hb this
  · rcases h3 with h3 | h3
    · refine Or.inr (Or.inl ?_)
      rw [(N0 N (Nat.le_refl _)).1, show u + N = 1440 by omega]; decide
    · exact Or.inr (Or.inr ((A N (Nat.le_refl _)).1.mpr h3))
  · rcases h3 with h3 | h3
    · refine Or.inr ?_
      rw [(N0 N (Nat.le_refl _)).2, show u + N = 1440 by omega]; decide
    · exact Or.inl ((A N (Nat.le_refl _)).2.mpr h3)
  · rw [(N0 N (Nat.le_refl _)).1, (N0 N (Nat.le_refl _)).2]
    by_cases c : lfF (dyN t N) n = 0
    · rw [if_pos c, if_pos ((A N (Nat.le_refl _)).1.mpr c)]
    · rw [if_neg c, if_neg (fun q => c ((A N (Nat.le_refl _)).1.mp q))]
/-! what misses a cutoff -/
def mo8 (s t : Sg) : Prop := ∀ b, s (11 + b) 8 ≤ t (11 + b) 8
theorem mo8_rf : mo8 s s := fun _ => Int32.le_refl _
theorem mo8_tr (h : mo8 s t) (h2 : mo8 t w) : mo8 s w := fun b => Int32.le_trans (h b) (h2 b)
theorem mo8_u {g k : Nat} {v : Int32} (h : mo8 s t) (hg : g < 11 ∨ k ≠ 8) : mo8 s (u2 t g k v) := fun b => by
  rw [u2_ne (by omega)]; exact h b
theorem mo8_if {c : Prop} [Decidable c] {x y : Sg} (h1 : mo8 s x) (h2 : mo8 s y) : mo8 s (if c then x else y) := by
  split
  · exact h1
  · exact h2
theorem mo8_dl {d : Int32} (h : mo8 s t) : mo8 s (dlF t b d) := mo8_if (mo8_u h (by omega)) h
theorem mo8_ms (h : mo8 s t) : mo8 s (msF t b) := by
  unfold msF
  split
  · exact h
  · rename_i q
    intro c
    by_cases hc : c = b
    · subst hc
      rw [u2_s]
      exact Int32.le_trans (h c) (Int32.le_of_lt (Int32.not_le.mp q))
    · rw [u2_ne (by omega)]; exact h c
theorem mo8_cm (hm : nN (t (11 + b) 0) < 4) : mo8 t (cmS b t) := by
  unfold cmS
  refine mo8_if ?_ mo8_rf
  unfold cmF
  dsimp only
  have h2 : mo8 t (u2 (u2 t (7 + nN (t (11 + b) 0)) (nN (t 6 (nN (t (11 + b) 0)))) (nI b)) 6 (nN (t (11 + b) 0)) (u2 t (7 + nN (t (11 + b) 0)) (nN (t 6 (nN (t (11 + b) 0)))) (nI b) 6 (nN (t (11 + b) 0)) + 1)) := mo8_u (mo8_u mo8_rf (by omega)) (by omega)
  have h3 := fun c [Decidable c] => mo8_if (c := c) h2 (mo8_dl (d := 4) (b := b) h2)
  exact mo8_if (h3 _) (mo8_ms (h3 _))
theorem mo8_lv : mo8 t (lvS b t) := by
  unfold lvS
  refine mo8_if (mo8_if mo8_rf ?_) mo8_rf
  unfold lvF
  exact mo8_ms (mo8_u (mo8_u mo8_rf (by omega)) (by omega))
theorem mo8_kp (h : kp PA s t) : mo8 s t := fun b => by
  rw [h (11 + b) 8 (Or.inr (Or.inr ⟨by omega, by omega⟩))]; exact Int32.le_refl _
theorem mo8_mn (h : dI n u t) (hu : u < 1440) : mo8 t (mnF t) := by
  refine mo8_tr ?_ (mo8_kp kp_mF)
  unfold mn0
  rw [dI_n h]
  have h1 : ∀ b, b ≤ n → mo8 t (itF cmS b t) := by
    intro b
    induction b with
    | zero => intro _; exact mo8_rf
    | succ b ih =>
      intro hb
      refine mo8_tr (ih (by omega)) (mo8_cm ?_)
      obtain ⟨m, p, r, c, w, hh, y, g, z, ⟨e0, _⟩, ⟨k1, _⟩⟩ := (cm_all h hu b (by omega)).2.2.1 b (by omega)
      rw [e0, nN_nI (by omega)]; omega
  have h2 : ∀ b (x : Sg), mo8 x (itF lvS b x) := by
    intro b x
    induction b with
    | zero => exact mo8_rf
    | succ b ih => exact mo8_tr ih mo8_lv
  exact mo8_tr (h1 n (Nat.le_refl _)) (h2 n _)
theorem mo8_dy (h : dI n u t) : ∀ k, u + k ≤ 1440 → mo8 t (dyN t k) := by
  intro k
  induction k with
  | zero => intro _; exact mo8_rf
  | succ k ih => intro hk; exact mo8_tr (ih (by omega)) (mo8_mn (dy_all h k (by omega)).1 (by omega))
/-- nothing misses any more once there is no event -/
theorem no_dy (h : dI n u t) (he : evJ n u 1440 t) : ∀ k, u + k ≤ 1440 → kp PA t (dyN t k) := by
  intro k
  induction k with
  | zero => intro _; exact kp_rf
  | succ k ih =>
    intro hk
    obtain ⟨i1, i2, i3⟩ := dy_all h k (by omega)
    have hev : evJ n (u + k) 1440 (dyN t k) := evJ_mo (s := t) ⟨by omega, by omega, fun b hb x hx q => by have := he.2.2.1 b hb x hx q; omega, fun r hr x hx q => by have := he.2.2.2 r hr x hx q; omega⟩ (fun b hb => i3 _ _ (Or.inr (Or.inr ⟨by omega, by omega⟩))) (fun r _ => i3 _ _ (Or.inr (Or.inl rfl)))
    have h0 := mn0_no i1 hev (by omega) (by omega)
    refine kp_tr (ih (by omega)) ?_
    have := kp_mF (t := dyN t k)
    rw [h0] at this
    exact this
def smN (t : Sg) : Nat → Nat
  | 0 => 0
  | b + 1 => smN t b + nN (t (11 + b) 8)
theorem sm_n (h : dI n u t) : ∀ k, k ≤ n → smF t 8 (-6) k = nI (smN t k) ∧ smN t k ≤ 999 * k := by
  intro k
  induction k with
  | zero => intro _; exact ⟨rfl, Nat.le_refl _⟩
  | succ k ih =>
    intro hk
    obtain ⟨i1, i2⟩ := ih (by omega)
    obtain ⟨m, p, r, c, w, hh, y, g, z, ⟨e0, e1, e2, e3, e4, e5, e6, e7, e8⟩, ⟨k1, k2, k3, k4, k5, k6, k7, k8⟩⟩ := h.2.1 k (by omega)
    have hz : nN (t (11 + k) 8) = z := by rw [e8, nN_nI (by omega)]
    refine ⟨?_, ?_⟩
    · show smF t 8 (-6) k + (if (-6 : Int32) = -6 ∨ t (11 + k) 2 = -6 then t (11 + k) 8 else 0) = nI (smN t k + nN (t (11 + k) 8))
      rw [if_pos (Or.inl rfl), i1, hz, e8, nI_add]
    · show smN t k + nN (t (11 + k) 8) ≤ _
      rw [hz]; omega
theorem sm_le {v : Nat} (h : dI n u s) (h' : dI n v t) (hm : mo8 s t) : ∀ k, k ≤ n → smN s k ≤ smN t k := by
  intro k
  induction k with
  | zero => intro _; exact Nat.le_refl _
  | succ k ih =>
    intro hk
    have := ih (by omega)
    obtain ⟨m, p, r, c, w, hh, y, g, z, ⟨e0, e1, e2, e3, e4, e5, e6, e7, e8⟩, ⟨k1, k2, k3, k4, k5, k6, k7, k8⟩⟩ := h.2.1 k (by omega)
    obtain ⟨m', p', r', c', w', hh', y', g', z', ⟨f0, f1, f2, f3, f4, f5, f6, f7, f8⟩, ⟨j1, j2, j3, j4, j5, j6, j7, j8⟩⟩ := h'.2.1 k (by omega)
    have q := hm k
    rw [e8, f8, nI_le_iff (by omega) (by omega)] at q
    show smN s k + nN (s (11 + k) 8) ≤ smN t k + nN (t (11 + k) 8)
    rw [e8, f8, nN_nI (by omega), nN_nI (by omega)]
    omega
theorem sm_eq {x y : Sg} (h : ∀ b, b < n → x (11 + b) 8 = y (11 + b) 8) : ∀ k, k ≤ n → smF x 8 (-6) k = smF y 8 (-6) k := by
  intro k
  induction k with
  | zero => intro _; rfl
  | succ k ih =>
    intro hk
    show smF x 8 (-6) k + (if (-6 : Int32) = -6 ∨ x (11 + k) 2 = -6 then x (11 + k) 8 else 0) = smF y 8 (-6) k + (if (-6 : Int32) = -6 ∨ y (11 + k) 2 = -6 then y (11 + k) 8 else 0)
    rw [if_pos (Or.inl rfl), if_pos (Or.inl rfl), ih (by omega), h k (by omega)]
/-- the class's day goes on from event to event -/
theorem me_all (lim : Int32) : ∀ (f u : Nat) (s t : Sg), rI n u s t → 1440 - u ≤ f → meOK n lim f s ∧ ∃ v, u ≤ v ∧ v ≤ 1440 ∧ rI n v (meF n lim f s) (dyN t (v - u)) ∧ (meF n lim f s 0 6 = nI 1440 ∨ lim < smF (meF n lim f s) 8 (-6) n) := by
  intro f
  induction f with
  | zero =>
    intro u s t h h1
    have hu := h.1.1.1.2.2.2
    have : u = 1440 := by omega
    subst this
    refine ⟨(sG_0 h.2.1 (by omega)).trans h.1.1.1.2.1, 1440, Nat.le_refl _, Nat.le_refl _, h, Or.inl ?_⟩
    obtain ⟨_, e, v6, he⟩ := h.2.2.2
    have := he.1
    have := he.2.1
    show s 0 6 = nI 1440
    rw [v6, show e = 1440 by omega]
  | succ f ih =>
    intro u s t h h1
    have hu := h.1.1.1.2.2.2
    have h00 : s 0 0 = nI u := (sG_0 h.2.1 (by omega)).trans h.1.1.1.1
    have h01 : s 0 1 = nI n := (sG_0 h.2.1 (by omega)).trans h.1.1.1.2.1
    obtain ⟨v5, e, v6, he⟩ := h.2.2.2
    have he1 := he.1
    have he2 := he.2.1
    by_cases c1 : e = 1440
    · have q1 : 1440 ≤ s 0 6 := by rw [v6, c1]; decide
      have eF : meF n lim (f + 1) s = s := if_pos q1
      rw [eF]
      refine ⟨⟨h01, Or.inl q1⟩, u, Nat.le_refl _, hu, by rw [Nat.sub_self]; exact h, Or.inl (by rw [v6, c1])⟩
    · have q1 : ¬ 1440 ≤ s 0 6 := by rw [v6, show (1440 : Int32) = nI 1440 from rfl, nI_le_iff (by omega) (by omega)]; omega
      by_cases c2 : lim < smF s 8 (-6) n
      · have eF : meF n lim (f + 1) s = s := by
          show (if 1440 ≤ s 0 6 then s else if lim < smF s 8 (-6) n then s else meF n lim f (meS s)) = s
          rw [if_neg q1, if_pos c2]
        rw [eF]
        exact ⟨⟨h01, Or.inr (Or.inl c2)⟩, u, Nat.le_refl _, hu, by rw [Nat.sub_self]; exact h, Or.inr c2⟩
      · have eF : meF n lim (f + 1) s = meF n lim f (meS s) := by
          show (if 1440 ≤ s 0 6 then s else if lim < smF s 8 (-6) n then s else meF n lim f (meS s)) = _
          rw [if_neg q1, if_neg c2]
        have x1 : s 0 6 + 1 - s 0 0 = nI (e + 1 - u) := by rw [v6, h00, nI_1, pk_sub (by omega)]
        have x2 : meX s = e + 1 - u := by unfold meX; rw [x1, nN_nI (by omega)]
        have x3 : s 0 0 + nI (meX s) = nI (e + 1) := by rw [h00, x2, nI_add, show u + (e + 1 - u) = e + 1 by omega]
        obtain ⟨l1, l2⟩ := lp_all (E := e + 1) (by omega) (meX s) u s t h (by omega) (by omega)
        have eS : meS s = lpF (nI (e + 1)) (meX s) s := by unfold meS; rw [x3]
        rw [← eS] at l2
        obtain ⟨i1, v, i2, i3, i4, i5⟩ := ih (e + 1) _ _ l2 (by omega)
        rw [dy_add, show e + 1 - u + (v - (e + 1)) = v - u by omega] at i4
        rw [eF]
        refine ⟨⟨h01, Or.inr (Or.inr ⟨by rw [x1, x2], by omega, ?_, by rw [x3]; exact l1, i1⟩)⟩, v, by omega, i3, i4, i5⟩
        unfold maP
        rw [x2, h00, show (1440 : Int32) = nI 1440 from rfl, pk_sub (by omega), show (1 : Int32) = nI 1 from rfl, if_pos ((nI_leI (by omega) (by omega)).mpr (by omega)), if_pos ((nI_leI (by omega) (by omega)).mpr (by omega))]
/-- what the class finds is what the reference finds, or both are above the limit -/
theorem me_ms (h : rI n u s t) (lim : Int32) : meOK n lim 1440 s ∧ (smF (meF n lim 1440 s) 8 (-6) n ≤ lim ↔ smF (dyN t (1440 - u)) 8 (-6) n ≤ lim) ∧ (smF (meF n lim 1440 s) 8 (-6) n ≤ lim → smF (meF n lim 1440 s) 8 (-6) n = smF (dyN t (1440 - u)) 8 (-6) n) ∧ ∃ S, S ≤ 39960 ∧ smF (meF n lim 1440 s) 8 (-6) n = nI S := by
  obtain ⟨m1, v, v1, v2, v3, v4⟩ := me_all lim 1440 u s t h (by omega)
  have hn := h.1.1.1.2.2.1
  obtain ⟨hd, _, _⟩ := dy_all v3.1 (1440 - v) (by omega)
  rw [dy_add, show v - u + (1440 - v) = 1440 - u by omega] at hd
  have es : smF (meF n lim 1440 s) 8 (-6) n = smF (dyN t (v - u)) 8 (-6) n := sm_eq (fun b hb => sG_b v3.2.1 hb) n (Nat.le_refl _)
  obtain ⟨s1, s2⟩ := sm_n v3.1 n (Nat.le_refl _)
  obtain ⟨s3, s4⟩ := sm_n hd n (Nat.le_refl _)
  have hmo := mo8_dy v3.1 (1440 - v) (by omega)
  rw [dy_add, show v - u + (1440 - v) = 1440 - u by omega] at hmo
  have hle := sm_le v3.1 hd hmo n (Nat.le_refl _)
  have key : smF (meF n lim 1440 s) 8 (-6) n = smF (dyN t (1440 - u)) 8 (-6) n ∨ (lim < smF (meF n lim 1440 s) 8 (-6) n ∧ lim < smF (dyN t (1440 - u)) 8 (-6) n) := by
    rcases v4 with v4 | v4
    · refine Or.inl ?_
      obtain ⟨_, e, w6, he⟩ := v3.2.2.2
      rw [v4] at w6
      have he2 := he.2.1
      rw [nI_eq_iff (by omega) (by omega)] at w6
      rw [← w6] at he
      have hevt : evJ n v 1440 (dyN t (v - u)) := evJ_mo he (fun b hb => (sG_b v3.2.1 hb).symm) (fun r _ => (sG_g v3.2.1 (by omega) (by omega)).symm)
      have hk := no_dy v3.1 hevt (1440 - v) (by omega)
      rw [dy_add, show v - u + (1440 - v) = 1440 - u by omega] at hk
      rw [es]
      exact (sm_eq (fun b hb => hk _ _ (Or.inr (Or.inr ⟨by omega, by omega⟩))) n (Nat.le_refl _)).symm
    · refine Or.inr ⟨v4, ?_⟩
      rw [es, s1] at v4
      rw [s3]
      exact Int32.lt_of_lt_of_le v4 (nI_le hle (by omega))
  refine ⟨m1, ?_, ?_, smN (dyN t (v - u)) n, by omega, by rw [es, s1]⟩
  · rcases key with k | ⟨k1, k2⟩
    · rw [k]
    · exact ⟨fun q => absurd q (Int32.not_le.mpr k1), fun q => absurd q (Int32.not_le.mpr k2)⟩
  · intro q
    rcases key with k | ⟨k1, k2⟩
    · exact k
    · exact absurd q (Int32.not_le.mpr k1)
end AE
