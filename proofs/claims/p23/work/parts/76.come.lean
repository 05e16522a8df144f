/-! batches come, sorted pieces go: both sides do the same, and what is kept is kept -/
def C4 (t : Sg) (b m q u e : Nat) : Sg := u2 (u2 (u2 (u2 t (7 + m) q (nI b)) 6 m (nI (q + 1))) (11 + b) 8 (if e < u then t (11 + b) 1 else t (11 + b) 8)) (11 + b) 9 (if u < e then t (11 + b) 9 else if t (11 + b) 9 = 0 then 4 else t (11 + b) 9)
section CO
variable {t : Sg} {n u b m r q e : Nat}
theorem c4_cm (hm : m < 3) (h0 : t 0 0 = nI u) (h2 : t 2 r = nI e) (hu : u < 10000) (he : e < 10000) (h6 : t 6 m = nI q) (h7 : t (11 + b) 7 = 0) (h8 : t (11 + b) 8 = 0) (hp : ¬ t (11 + b) 1 ≤ 0) : cmF t b m r q = C4 t b m q u e := by
  unfold cmF C4
  dsimp only
  rw [u2_ne (s := t) (show ¬ (6 = 7 + m ∧ m = q) by omega), h6, nI_1]
  have x0 : u2 (u2 t (7 + m) q (nI b)) 6 m (nI (q + 1)) 0 0 = nI u := by rw [u2_ne (by omega), u2_ne (by omega), h0]
  have xb : ∀ k, u2 (u2 t (7 + m) q (nI b)) 6 m (nI (q + 1)) (11 + b) k = t (11 + b) k := fun k => by rw [u2_ne (by omega), u2_ne (by omega)]
  generalize u2 (u2 t (7 + m) q (nI b)) 6 m (nI (q + 1)) = X at x0 xb ⊢
  have kl : (nI u < nI e) = (u < e) := nI_lt_iff (by omega) (by omega)
  have kle : (nI u ≤ nI e) = (u ≤ e) := nI_le_iff (by omega) (by omega)
  rw [h2, x0]
  by_cases c1 : u < e
  · rw [if_pos (kl.mpr c1), x0, if_pos (kle.mpr (by omega)), if_neg (by omega), if_pos c1, ← xb 8, u2_id, ← xb 9, u2_id]
  · rw [if_neg (fun q => c1 (kl.mp q)), if_neg c1, dl_g (by omega), x0]
    by_cases c2 : e < u
    · rw [if_neg (fun q => absurd (kle.mp q) (by omega)), if_pos c2]
      unfold msF
      rw [dl_k (by omega), dl_k (by omega), dl_k (by omega), xb, xb, xb, h7, h8, Int32.sub_zero, if_neg hp, dl_u, xb, u2_sw (by omega)]
    · rw [if_pos (kle.mpr (by omega)), if_neg c2, ← xb 8, u2_id, dl_u, xb]
theorem c4_lt (hm : m < 3) (h3 : t (11 + b) 3 = nI u) (hu : u < 10000) (he : e < 10000) : ccF (u2 (u2 t (7 + m) q (nI b)) 6 m (nI (q + 1))) b (nI e) = C4 t b m q u e := by
  unfold ccF C4
  dsimp only
  have xb : ∀ k, u2 (u2 t (7 + m) q (nI b)) 6 m (nI (q + 1)) (11 + b) k = t (11 + b) k := fun k => by rw [u2_ne (by omega), u2_ne (by omega)]
  generalize u2 (u2 t (7 + m) q (nI b)) 6 m (nI (q + 1)) = X at xb ⊢
  have kl : (nI u < nI e) = (u < e) := nI_lt_iff (by omega) (by omega)
  have kle : (nI u ≤ nI e) = (u ≤ e) := nI_le_iff (by omega) (by omega)
  rw [xb 3, xb 1, h3]
  by_cases c1 : e < u
  · rw [if_neg (fun q => absurd (kle.mp q) (by omega)), if_pos c1, if_neg (show ¬ u < e by omega), u2_ne (by omega), xb, h3, if_neg (fun q => absurd (kl.mp q) (by omega)), dl_u, u2_ne (by omega), xb]
  · rw [if_pos (kle.mpr (by omega)), if_neg c1, ← xb 8, u2_id, xb 3, h3]
    by_cases c2 : u < e
    · rw [if_pos (kl.mpr c2), if_pos c2, ← xb 9, u2_id]
    · rw [if_neg (fun q => c2 (kl.mp q)), if_neg c2, dl_u, xb]
theorem cm_step (h : cI n u b t) (hb : b < n) (hu : u < 1440) : cmOK n t b ∧ ltOK n t b ∧ ltS b t = cmS b t ∧ cI n u (b + 1) (cmS b t) := by
  obtain ⟨B, T, Q, M, L⟩ := h
  have B' := B
  obtain ⟨⟨b0, b1, b2, b3⟩, bs, bc⟩ := B'
  have Tb := T b hb
  rw [if_neg (by omega)] at Tb
  obtain ⟨m, p, r, c, w, hh, y, g, z, ⟨e0, e1, e2, e3, e4, e5, e6, e7, e8⟩, ⟨k1, k2, k3, k4, k5, k6, k7, k8⟩⟩ := Tb
  obtain ⟨e, he, e2r⟩ := bc r k4
  obtain ⟨q, pp, hp, q6, R⟩ := Q m k1
  by_cases hc : c = u
  · obtain ⟨g0, z0⟩ := k8 (by omega)
    have hne : ∀ i, i < q → t (7 + m) i ≠ nI b := fun i hi ee => by
      obtain ⟨c', hc', ec, r1, r2⟩ := R.1 i hi
      rw [ec, nI_eq_iff (by omega) (by omega)] at ee
      by_cases hi2 : i < pp
      · obtain ⟨⟨z', hz', ez⟩, _⟩ := r1 hi2
        rw [ee, e3, nI_eq_iff (by omega) (by omega)] at ez
        omega
      · have := (r2 (by omega)).1
        omega
    have qn : q < n := rw_lt b2 R hb hne
    have hcm : cmS b t = C4 t b m q u e := by
      unfold cmS
      rw [if_pos (by rw [e3, b0, hc]), e0, e2, nN_nI (by omega), nN_nI (by omega), q6, nN_nI (by omega)]
      exact c4_cm k1 b0 e2r (by omega) (by omega) q6 (by rw [e7, g0]; rfl) (by rw [e8, z0]; rfl) (by rw [e1]; exact nI_nle (by omega) (by omega))
    have hlt : ltS b t = C4 t b m q u e := by
      unfold ltS
      rw [if_pos (by rw [e3, b0, hc]), e0, e2, nN_nI (by omega), nN_nI (by omega), q6, nN_nI (by omega), e2r]
      exact c4_lt k1 (by rw [e3, hc]) (by omega) (by omega)
    refine ⟨⟨b1, fun _ => ⟨m, r, q, k1, k4, by omega, e0, e2, q6⟩⟩, ⟨b1, m, r, k1, k4, e0, e2, fun _ => ⟨q, by omega, q6⟩⟩, by rw [hcm, hlt], ?_⟩
    rw [hcm]
    have g1 : ∀ g, g ≠ 7 + m → g ≠ 6 → g ≠ 11 + b → C4 t b m q u e g = t g := fun g a1 a2 a3 => by
      unfold C4; rw [u2_g a3, u2_g a3, u2_g a2, u2_g a1]
    have r7 : C4 t b m q u e (7 + m) = up (t (7 + m)) q (nI b) := by
      unfold C4; rw [u2_g (by omega), u2_g (by omega), u2_g (by omega), up_u2]
    have r6 : C4 t b m q u e 6 = up (t 6) m (nI (q + 1)) := by
      unfold C4; rw [u2_g (by omega), u2_g (by omega)]
      have : ∀ X : Sg, X 6 = t 6 → u2 X 6 m (nI (q + 1)) 6 = up (t 6) m (nI (q + 1)) := fun X hX => by rw [← hX, up_u2]
      exact this _ (u2_g (by omega))
    have rb : ∀ k, k ≠ 8 → k ≠ 9 → C4 t b m q u e (11 + b) k = t (11 + b) k := fun k a1 a2 => by
      unfold C4; rw [u2_ne (by omega), u2_ne (by omega), u2_ne (by omega), u2_ne (by omega)]
    have rb8 : C4 t b m q u e (11 + b) 8 = if e < u then t (11 + b) 1 else t (11 + b) 8 := by
      unfold C4; rw [u2_ne (by omega), u2_s]
    have rb9 : t (11 + b) 9 ≠ 0 → C4 t b m q u e (11 + b) 9 ≠ 0 := by
      intro hn
      unfold C4; rw [u2_s, if_neg hn]
      split <;> exact hn
    generalize C4 t b m q u e = V at g1 r7 r6 rb rb8 rb9 ⊢
    have hr : ∀ c, c < n → rmO (t (11 + c)) (V (11 + c)) := fun c' _ => by
      by_cases hcb : c' = b
      · subst hcb; exact ⟨rb 3 (by omega) (by omega), rb9⟩
      · rw [g1 _ (by omega) (by omega) (by omega)]; exact rm_rf
    refine ⟨bs_mo B (by rw [g1 0 (by omega) (by omega) (by omega)]) (by rw [g1 0 (by omega) (by omega) (by omega)]) (fun i _ => by rw [g1 1 (by omega) (by omega) (by omega)]) (fun i _ => by rw [g1 2 (by omega) (by omega) (by omega)]), fun c' hc' => ?_, fun m' hm' => ?_, fun m' hm' => ⟨mcI_mo (M m' hm').1 (by rw [g1 _ (by omega) (by omega) (by omega)]) (by rw [g1 _ (by omega) (by omega) (by omega)]) hr, raI_mo (M m' hm').2 (by rw [g1 _ (by omega) (by omega) (by omega)]) (Nat.le_refl _)⟩, lnI_mo L (by rw [g1 0 (by omega) (by omega) (by omega)]) (g1 10 (by omega) (by omega) (by omega)) (fun c' _ h5 => ?_)⟩
    · by_cases hcb : c' = b
      · subst hcb
        rw [if_pos (by omega)]
        refine ⟨m, p, r, c, w, hh, y, g, if e < u then p else z, ⟨(rb 0 (by omega) (by omega)).trans e0, (rb 1 (by omega) (by omega)).trans e1, (rb 2 (by omega) (by omega)).trans e2, (rb 3 (by omega) (by omega)).trans e3, (rb 4 (by omega) (by omega)).trans e4, (rb 5 (by omega) (by omega)).trans e5, (rb 6 (by omega) (by omega)).trans e6, (rb 7 (by omega) (by omega)).trans e7, ?_⟩, ⟨k1, k2, k3, k4, k5, k6, ?_, fun q => by omega⟩⟩
        · rw [rb8]
          split
          · exact e1
          · exact e8
        · split <;> omega
      · rw [g1 _ (by omega) (by omega) (by omega)]
        have := T c' hc'
        by_cases h2 : c' < b
        · rw [if_pos h2] at this; rw [if_pos (by omega)]; exact this
        · rw [if_neg h2] at this; rw [if_neg (by omega)]; exact this
    · by_cases hmm : m' = m
      · subst hmm
        refine ⟨q + 1, pp, by omega, by rw [r6]; exact if_pos rfl, ?_⟩
        rw [r7]
        exact rw_app R hb hne ⟨fun z => absurd z (by omega), fun _ => ⟨by omega, by rw [rb 3 (by omega) (by omega), e3, hc]⟩⟩ (fun i c' hi hc' _ P => ⟨fun z => qo_mo (P.1 z) (hr c' hc'), fun z => ⟨by have := (P.2 z).1; omega, (hr c' hc').1.trans (P.2 z).2⟩⟩)
      · exact quI_mo (quI_b (Q m' hm') (by omega)) (by rw [r6]; exact if_neg hmm) (g1 _ (by omega) (by omega) (by omega)) hr
    · by_cases hcb : c' = b
      · subst hcb; rw [rb 5 (by omega) (by omega)]; exact h5
      · rw [g1 _ (by omega) (by omega) (by omega)]; exact h5
  · have hne : ¬ t (11 + b) 3 = t 0 0 := by
      rw [e3, b0, nI_eq_iff (by omega) (by omega)]; exact hc
    have hcm : cmS b t = t := by unfold cmS; rw [if_neg hne]
    have hlt : ltS b t = t := by unfold ltS; rw [if_neg hne]
    refine ⟨⟨b1, fun q => absurd q hne⟩, ⟨b1, m, r, k1, k4, e0, e2, fun q => absurd q hne⟩, by rw [hcm, hlt], ?_⟩
    rw [hcm]
    refine ⟨B, fun c' hc' => ?_, fun m' hm' => quI_b (Q m' hm') (by omega), M, L⟩
    have := T c' hc'
    by_cases h2 : c' < b
    · rw [if_pos h2] at this; rw [if_pos (by omega)]; exact this
    · rw [if_neg h2] at this
      split
      · exact bt_mo this (by omega)
      · exact this
theorem cm_all (h : dI n u t) (hu : u < 1440) : ∀ b, b ≤ n → itF ltS b t = itF cmS b t ∧ cI n u b (itF cmS b t) := by
  intro b
  induction b with
  | zero => intro _; exact ⟨rfl, dI_c h⟩
  | succ b ih =>
    intro hb
    obtain ⟨i1, i2⟩ := ih (by omega)
    obtain ⟨_, _, j3, j4⟩ := cm_step i2 (by omega) hu
    refine ⟨?_, j4⟩
    show ltS b (itF ltS b t) = cmS b (itF cmS b t)
    rw [i1, j3]
theorem cm_end (h : dI n u t) (hu : u < 1440) : (∀ b, b < n → cmOK n (itF cmS b t) b) ∧ (∀ b, b < n → ltOK n (itF ltS b t) b) ∧ itF ltS n t = itF cmS n t ∧ dM n u 0 (itF cmS n t) := by
  refine ⟨fun b hb => (cm_step (cm_all h hu b (by omega)).2 hb hu).1, fun b hb => ?_, (cm_all h hu n (by omega)).1, cI_M (cm_all h hu n (by omega)).2⟩
  rw [(cm_all h hu b (by omega)).1]
  exact (cm_step (cm_all h hu b (by omega)).2 hb hu).2.1
theorem lv_u {s : Sg} : lvF s b = u2 (u2 (u2 s (11 + b) 7 (s (11 + b) 7 + s (11 + b) 6)) (11 + b) 6 0) (11 + b) 8 (if s (11 + b) 1 - (s (11 + b) 7 + s (11 + b) 6) ≤ s (11 + b) 8 then s (11 + b) 8 else s (11 + b) 1 - (s (11 + b) 7 + s (11 + b) 6)) := by
  unfold lvF msF
  dsimp only
  have x1 : u2 (u2 s (11 + b) 7 (s (11 + b) 7 + s (11 + b) 6)) (11 + b) 6 0 (11 + b) 1 = s (11 + b) 1 := by rw [u2_ne (by omega), u2_ne (by omega)]
  have x7 : u2 (u2 s (11 + b) 7 (s (11 + b) 7 + s (11 + b) 6)) (11 + b) 6 0 (11 + b) 7 = s (11 + b) 7 + s (11 + b) 6 := by rw [u2_ne (by omega), u2_s]
  have x8 : u2 (u2 s (11 + b) 7 (s (11 + b) 7 + s (11 + b) 6)) (11 + b) 6 0 (11 + b) 8 = s (11 + b) 8 := by rw [u2_ne (by omega), u2_ne (by omega)]
  rw [x1, x7, x8]
  split
  · rw [← x8, u2_id]
  · rfl
theorem lv_cg {s : Sg} : cgF s b = lvF s b := by
  unfold lvF msF cgF
  dsimp only
  generalize u2 (u2 s (11 + b) 7 (s (11 + b) 7 + s (11 + b) 6)) (11 + b) 6 0 = X
  by_cases c : X (11 + b) 1 - X (11 + b) 7 ≤ X (11 + b) 8
  · rw [if_pos c, if_neg (Int32.not_lt.mpr c), u2_id]
  · rw [if_neg c, if_pos (Int32.not_le.mp c)]
theorem lv_lg : lgS = lvS := by
  funext b s
  unfold lgS lvS
  by_cases c1 : s 2 (nN (s (11 + b) 2)) = s 0 0
  · by_cases c2 : s 0 0 < s (11 + b) 3
    · rw [if_neg (fun q => absurd q.1 (Int32.not_le.mpr c2)), if_pos c1, if_pos c2]
    · rw [if_pos ⟨Int32.not_lt.mp c2, c1⟩, if_pos c1, if_neg c2, lv_cg]
  · rw [if_neg (fun q => c1 q.2), if_neg c1]
theorem lv_step (h : dM n u 0 t) (hb : b < n) (hu : u < 1440) : dM n u 0 (lvS b t) := by
  have h' := h
  obtain ⟨⟨⟨b0, b1, b2, b3⟩, bs, bc⟩, T, Q, M, L⟩ := h'
  obtain ⟨m, p, r, c, w, hh, y, g, z, ⟨e0, e1, e2, e3, e4, e5, e6, e7, e8⟩, ⟨k1, k2, k3, k4, k5, k6, k7, k8⟩⟩ := T b hb
  unfold lvS
  split
  · split
    · exact h
    · rename_i h1 h2
      have hcu : c ≤ u := by
        rw [b0, e3, nI_lt_iff (by omega) (by omega)] at h2
        omega
      rw [lv_u]
      refine dM_row h (fun g hg => by rw [u2_g (by omega), u2_g (by omega), u2_g (by omega)]) (fun c' hc' => ?_)
      by_cases hcb : c' = b
      · subst hcb
        refine ⟨⟨by rw [u2_ne (by omega), u2_ne (by omega), u2_ne (by omega)], fun q => by rw [u2_ne (by omega), u2_ne (by omega), u2_ne (by omega)]; exact q⟩, fun q => by rw [u2_ne (by omega), u2_ne (by omega), u2_ne (by omega)]; exact q, m, p, r, c, w, hh, 0, g + y, if p - (g + y) ≤ z then z else p - (g + y), ⟨?_, ?_, ?_, ?_, ?_, ?_, ?_, ?_, ?_⟩, ⟨k1, k2, k3, k4, k5, by omega, ?_, fun q => by omega⟩⟩
        · rw [u2_ne (by omega), u2_ne (by omega), u2_ne (by omega)]; exact e0
        · rw [u2_ne (by omega), u2_ne (by omega), u2_ne (by omega)]; exact e1
        · rw [u2_ne (by omega), u2_ne (by omega), u2_ne (by omega)]; exact e2
        · rw [u2_ne (by omega), u2_ne (by omega), u2_ne (by omega)]; exact e3
        · rw [u2_ne (by omega), u2_ne (by omega), u2_ne (by omega)]; exact e4
        · rw [u2_ne (by omega), u2_ne (by omega), u2_ne (by omega)]; exact e5
        · rw [u2_ne (by omega), u2_s]; rfl
        · rw [u2_ne (by omega), u2_ne (by omega), u2_s, e7, e6, nI_add]
        · rw [u2_s, e1, e7, e6, e8, nI_add, pk_sub (by omega)]
          have kle : (nI (p - (g + y)) ≤ nI z) = (p - (g + y) ≤ z) := nI_le_iff (by omega) (by omega)
          by_cases c3 : p - (g + y) ≤ z
          · rw [if_pos (kle.mpr c3), if_pos c3]
          · rw [if_neg (fun q => c3 (kle.mp q)), if_neg c3]
        · split <;> omega
      · have e : ∀ v1 v2 v3, u2 (u2 (u2 t (11 + b) 7 v1) (11 + b) 6 v2) (11 + b) 8 v3 (11 + c') = t (11 + c') := fun v1 v2 v3 => by rw [u2_g (by omega), u2_g (by omega), u2_g (by omega)]
        rw [e]
        exact ⟨rm_rf, fun q => q, T c' hc'⟩
  · exact h
theorem lv_all (h : dM n u 0 t) (hu : u < 1440) : ∀ b, b ≤ n → dM n u 0 (itF lvS b t) := by
  intro b
  induction b with
  | zero => intro _; exact h
  | succ b ih => intro hb; exact lv_step (ih (by omega)) (by omega) hu
theorem dM_n {a : Nat} (h : dM n u a t) : t 0 1 = nI n := h.1.1.2.1
theorem dM_r {a : Nat} (h : dM n u a t) (hb : b < n) : ∃ r, r < 8 ∧ t (11 + b) 2 = nI r := by
  obtain ⟨m, p, r, c, w, hh, y, g, z, ⟨e0, e1, e2, _⟩, ⟨k1, k2, k3, k4, _⟩⟩ := h.2.1 b hb
  exact ⟨r, k4, e2⟩
/-- nothing comes, nothing goes -/
theorem cm_no (h : ∀ b, b < n → ¬ t (11 + b) 3 = t 0 0) : ∀ k, k ≤ n → itF cmS k t = t := by
  intro k
  induction k with
  | zero => intro _; rfl
  | succ k ih =>
    intro hk
    show cmS k (itF cmS k t) = t
    rw [ih (by omega)]
    exact if_neg (h k (by omega))
theorem lv_no (h : ∀ r, r < 8 → ¬ t 2 r = t 0 0) (h2 : ∀ b, b < n → ∃ r, r < 8 ∧ t (11 + b) 2 = nI r) : ∀ k, k ≤ n → itF lvS k t = t := by
  intro k
  induction k with
  | zero => intro _; rfl
  | succ k ih =>
    intro hk
    show lvS k (itF lvS k t) = t
    rw [ih (by omega)]
    obtain ⟨r, hr, e⟩ := h2 k (by omega)
    unfold lvS
    rw [e, nN_nI (by omega)]
    exact if_neg (h r hr)
end CO
