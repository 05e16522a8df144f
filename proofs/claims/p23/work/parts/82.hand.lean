/-! the hands in a minute; what agrees goes on to agree -/
section HD
variable {s t : Sg} {n u b m a : Nat}
theorem sG_r (h : sG n s t) {g : Nat} (h0 : 0 < g) (h1 : g < 11) : s g = t g := funext fun k => h g k (by omega) (fun q => by omega) (fun q => by omega)
theorem sG_o (h : sG n s t) : ∀ c, c < n → rmO (t (11 + c)) (s (11 + c)) := fun c hc => ⟨sG_b h hc, fun q => by rw [sG_b h hc (k := 9)]; exact q⟩
theorem dM_sG (h : dM n u a t) (e : sG n s t) : dM n u a s := by
  obtain ⟨h1, h2, h3, h4, h5⟩ := h
  have hr : ∀ c, c < n → rmO (t (11 + c)) (s (11 + c)) := sG_o e
  refine ⟨bs_mo h1 (sG_0 e (by omega)) (sG_0 e (by omega)) (fun i _ => by rw [sG_r e (by omega) (by omega)]) (fun i _ => by rw [sG_r e (by omega) (by omega)]), fun c hc => bt_eq (h2 c hc) (fun k hk => sG_b e hc), fun m' hm' => ⟨fun q => qvE_mo ((h3 m' hm').1 q) (by rw [sG_r e (by omega) (by omega)]) (sG_r e (by omega) (by omega)) hr, fun q => quI_mo ((h3 m' hm').2 q) (by rw [sG_r e (by omega) (by omega)]) (sG_r e (by omega) (by omega)) hr⟩, fun m' hm' => ⟨mcI_mo (h4 m' hm').1 (by rw [sG_r e (by omega) (by omega)]) (by rw [sG_r e (by omega) (by omega)]) hr, raI_mo (h4 m' hm').2 (by rw [sG_r e (by omega) (by omega)]) (Nat.le_refl _)⟩, lnI_mo h5 (sG_0 e (by omega)) (sG_r e (by omega) (by omega)) (fun c hc q => by rw [sG_b e hc (k := 5)]; exact q)⟩
theorem rn_loc (h : dM n u m s) (e : sG n s t) (hm : m < 3) : sG n (rnS s m) (rnS t m) ∧ rnB s m = rnB t m := by
  obtain ⟨q, q0, e6, hq0, hhd, a6, hqn, hqA, hdB, fA, fB, a3, hc⟩ := tk_all h hm
  have hn : n ≤ 40 := h.1.1.2.2.1
  have hB : sG n (rnT s m) (rnT t m) := by
    unfold rnT
    rw [← sG_g e (g := 3 + m) (by omega) (by omega), ← sG_g e (g := 6) (by omega) (by omega), ← sG_g e (g := 7 + m) (by omega) (by omega)]
    refine sG_if Iff.rfl (fun _ => sG_if Iff.rfl (fun _ => e) (fun c => sG_tk e ?_ hm)) (fun _ => e)
    have z : q0 ≠ 0 := fun z => by rw [e6, z] at c; exact absurd (by decide) c
    obtain ⟨b, hb, eb⟩ := hhd (by omega)
    rw [eb, nN_nI (by omega)]; exact hb
  have b6 : rnT s m 6 m = nI q := by rw [fB 6 (by omega)]; exact a6
  unfold rnS rnB
  generalize rnT s m = B at hB hdB b6 fB ⊢
  generalize rnT t m = B' at hB ⊢
  rw [← sG_g hB (g := 3 + m) (by omega) (by omega)]
  refine ⟨sG_if Iff.rfl (fun _ => hB) (fun c => ?_), rfl⟩
  obtain ⟨q', p, _, e', R⟩ := (hdB.2.2.1 m hm).2 (Nat.le_refl _)
  have hql := rw_le hn R
  rw [b6, nI_eq_iff (by omega) (by omega)] at e'
  subst e'
  have hD : sG n (itF (dqS m) q B) (itF (dqS m) q B') := sG_dq hB hm (fun i hi => by
    obtain ⟨c, hc, ec, _⟩ := R.1 i hi
    rw [← sG_g hB (g := 7 + m) (by omega) (by omega), ec, nN_nI (by omega)]; exact hc)
  have hb : nN (itF (dqS m) q B (3 + m) 0) < n := by
    rw [dq_g (by omega)]
    obtain ⟨y, _, _, z | ⟨b, hb, eb, _⟩⟩ := (hdB.2.2.2.1 m hm).1
    · exact absurd z.1 c
    · rw [eb, nN_nI (by omega)]; exact hb
  unfold rnU
  dsimp only
  rw [← sG_g hB (g := 6) (by omega) (by omega), b6, nN_nI (by omega), ← sG_g hD (g := 3 + m) (k := 1) (by omega) (by omega), ← sG_g hD (g := 3 + m) (k := 0) (by omega) (by omega), ← sG_0 hD (k := 4) (by omega)]
  exact sG_if Iff.rfl (fun _ => sG_so hD hb hm) (fun _ => sG_u hD rfl)
theorem ch_nf {w h y its : Nat} {x : Int32} (h4 : s (11 + b) 4 = nI w) (h5 : s (11 + b) 5 = nI h) (h6 : s (11 + b) 6 = nI y) (k1 : its ≤ h) (kw : w < 1000) (kh : h < 1000) : chM s b (nI its) x = u2 (u2 (u2 s (11 + b) 5 (nI (h - its))) (11 + b) 6 (nI (y + its))) (11 + b) 10 (if w = 0 ∧ h - its = 0 then x else s (11 + b) 10) := by
  unfold chM
  dsimp only
  rw [h5, pk_sub k1, u2_ne (s := s) (show ¬ (11 + b = 11 + b ∧ 6 = 5) by omega), h6, nI_add]
  simp (disch := omega) only [u2_ne, u2_s, h4, z_e]
  split
  · rfl
  · exact (u2_v (by simp (disch := omega) only [u2_ne])).symm
/-- one step of the hands -/
theorem hd_step (h : dM n u 3 s) {l f : Nat} (hl : s 0 4 = nI (l + 1)) (hl40 : l < 40) (hf : 0 < f) (hf2 : f ≤ 1000) : ∃ b f' l', b < n ∧ s 10 0 = nI b ∧ hdS (nI f, s) = (nI f', sh2 s (nI f)) ∧ nI f - sh1 s (nI f) = nI f' ∧ f' ≤ f ∧ dM n u 3 (sh2 s (nI f)) ∧ sh2 s (nI f) 0 4 = nI l' ∧ (l' = l ∨ (f' = 0 ∧ l' = l + 1)) ∧ ∀ k, k ≠ 4 → sh2 s (nI f) 0 k = s 0 k := by
  have H := h
  obtain ⟨h1, h2, h3, h4, h5⟩ := H
  have hn : n ≤ 40 := h1.1.2.2.1
  obtain ⟨l0, el, R⟩ := h5
  have hl0 := rw_le hn R
  rw [hl, nI_eq_iff (by omega) (by omega)] at el
  subst el
  obtain ⟨b, hb, eb, hnz⟩ := R.1 0 (by omega)
  obtain ⟨m', p, r, c', w, hh, y, g, z, ⟨e0, e1, e2, e3, e4, e5, e6, e7, e8⟩, ⟨j1, j2, j3, j4, j5, j6, j7, j8⟩⟩ := h2 b hb
  have hhz : hh ≠ 0 := fun q => hnz (by rw [e5, q]; rfl)
  obtain ⟨its, hits⟩ : ∃ its, its = if hh ≤ f then hh else f := ⟨_, rfl⟩
  have i1 : its ≤ hh := by rw [hits]; split <;> omega
  have i2 : its ≤ f := by rw [hits]; split <;> omega
  have i3 : hh - its ≠ 0 → its = f := fun q => by rw [hits] at q ⊢; split at q <;> (try rw [if_neg (by assumption)]) ; omega
  have nb : nN (s 10 0) = b := by rw [eb, nN_nI (by omega)]
  have es1 : sh1 s (nI f) = nI its := by
    unfold sh1
    have k : (nI hh < nI f) = (hh < f) := nI_lt_iff (by omega) (by omega)
    rw [nb, e5, hits]
    by_cases c : hh < f
    · rw [if_pos (k.mpr c), if_pos (by omega)]
    · rw [if_neg (fun q => c (k.mp q))]
      by_cases c2 : hh ≤ f
      · rw [if_pos c2, show f = hh by omega]
      · rw [if_neg c2]
  have ehd : hdI (nI f, s) b = nI its := by
    unfold hdI
    have k : (nI hh ≤ nI f) = (hh ≤ f) := nI_le_iff (by omega) (by omega)
    show (if s (11 + b) 5 ≤ nI f then s (11 + b) 5 else nI f) = nI its
    rw [e5, hits]
    by_cases c : hh ≤ f
    · rw [if_pos (k.mpr c), if_pos c]
    · rw [if_neg (fun q => c (k.mp q)), if_neg c]
  have esh : sh2 s (nI f) = if hh - its = 0 then u2 (rmF (u2 (u2 s (11 + b) 5 (nI (hh - its))) (11 + b) 6 (nI (y + its))) 10 0 4 (l + 1)) (11 + b) 10 (if w = 0 then s 0 0 else s (11 + b) 10) else u2 (u2 s (11 + b) 5 (nI (hh - its))) (11 + b) 6 (nI (y + its)) := by
    unfold sh2
    dsimp only
    rw [nb, es1, ch_nf e4 e5 e6 i1 (by omega) (by omega), hl, nN_nI (by omega), u2_ne (by omega), u2_ne (by omega), u2_s]
    by_cases c : hh - its = 0
    · rw [if_pos ((z_e (by omega)).mpr c), if_pos c, rm_u2 (by omega) (by omega)]
      by_cases c2 : w = 0
      · rw [if_pos ⟨c2, c⟩, if_pos c2]
      · rw [if_neg (fun q => c2 q.1), if_neg c2]
    · rw [if_neg (fun q => c ((z_e (by omega)).mp q)), if_neg c, if_neg (fun q => c q.2)]
      exact u2_v (by simp (disch := omega) only [u2_ne])
  have ehs : hdS (nI f, s) = (nI (f - its), sh2 s (nI f)) := by
    unfold hdS
    dsimp only
    rw [nb, ehd, e5, pk_sub i1, u2_ne (s := s) (show ¬ (11 + b = 11 + b ∧ 6 = 5) by omega), e6, nI_add, pk_sub i2, esh]
    refine congrArg (fun q => (nI (f - its), q)) ?_
    rw [u2_ne (s := u2 s _ _ _) (show ¬ (11 + b = 11 + b ∧ 5 = 6) by omega), u2_s]
    by_cases c : hh - its = 0
    · rw [if_pos ((z_e (by omega)).mpr c), if_pos c]
      have q4 : u2 (u2 s (11 + b) 5 (nI (hh - its))) (11 + b) 6 (nI (y + its)) 0 4 = nI (l + 1) := by rw [u2_ne (by omega), u2_ne (by omega), hl]
      have r4 : nN (u2 (u2 s (11 + b) 5 (nI (hh - its))) (11 + b) 6 (nI (y + its)) 0 4 - 1) = l := by rw [q4, nI_pred, nN_nI (by omega)]
      rw [r4, rm_sh (by omega) q4]
      unfold edF
      have w4 : rmF (u2 (u2 s (11 + b) 5 (nI (hh - its))) (11 + b) 6 (nI (y + its))) 10 0 4 (l + 1) (11 + b) 4 = nI w := by
        unfold rmF; rw [ug_g (by omega), u2_ne (by omega), u2_ne (by omega), u2_ne (by omega), e4]
      have w5 : rmF (u2 (u2 s (11 + b) 5 (nI (hh - its))) (11 + b) 6 (nI (y + its))) 10 0 4 (l + 1) (11 + b) 5 = nI (hh - its) := by
        unfold rmF; rw [ug_g (by omega), u2_ne (by omega), u2_ne (by omega), u2_s]
      have w10 : rmF (u2 (u2 s (11 + b) 5 (nI (hh - its))) (11 + b) 6 (nI (y + its))) 10 0 4 (l + 1) (11 + b) 10 = s (11 + b) 10 := by
        unfold rmF; rw [ug_g (by omega), u2_ne (by omega), u2_ne (by omega), u2_ne (by omega)]
      have w0 : rmF (u2 (u2 s (11 + b) 5 (nI (hh - its))) (11 + b) 6 (nI (y + its))) 10 0 4 (l + 1) 0 0 = s 0 0 := by
        unfold rmF; rw [ug_g (by omega), u2_ne (by omega), u2_ne (by omega), u2_ne (by omega)]
      rw [w4, w5, w0, if_pos ((z_e (k := hh - its) (by omega)).mpr c)]
      by_cases c2 : w = 0
      · rw [if_pos ((z_e (by omega)).mpr c2), if_pos c2]
      · rw [if_neg (fun q => c2 ((z_e (by omega)).mp q)), if_neg c2]
        exact (u2_v w10).symm
    · rw [if_neg (fun q => c ((z_e (by omega)).mp q)), if_neg c]
  have v1 : ∀ g, 0 < g → g ≠ 10 → g ≠ 11 + b → sh2 s (nI f) g = s g := fun g a1 a2 a3 => by
    rw [esh]
    split
    · unfold rmF; rw [u2_g a3, ug_g a2, u2_g (by omega), u2_g a3, u2_g a3]
    · rw [u2_g a3, u2_g a3]
  have v0 : ∀ k, k ≠ 4 → sh2 s (nI f) 0 k = s 0 k := fun k hk => by
    rw [esh]
    split
    · unfold rmF; rw [u2_ne (by omega), ug_g (by omega), u2_ne (by omega), u2_ne (by omega), u2_ne (by omega)]
    · rw [u2_ne (by omega), u2_ne (by omega)]
  have vb : ∀ k, k ≠ 5 → k ≠ 6 → k ≠ 10 → sh2 s (nI f) (11 + b) k = s (11 + b) k := fun k a1 a2 a3 => by
    rw [esh]
    split
    · unfold rmF; rw [u2_ne (by omega), ug_g (by omega), u2_ne (by omega), u2_ne (by omega), u2_ne (by omega)]
    · rw [u2_ne (by omega), u2_ne (by omega)]
  have vb5 : sh2 s (nI f) (11 + b) 5 = nI (hh - its) := by
    rw [esh]
    split
    · unfold rmF; rw [u2_ne (by omega), ug_g (by omega), u2_ne (by omega), u2_ne (by omega), u2_s]
    · rw [u2_ne (by omega), u2_s]
  have vb6 : sh2 s (nI f) (11 + b) 6 = nI (y + its) := by
    rw [esh]
    split
    · unfold rmF; rw [u2_ne (by omega), ug_g (by omega), u2_ne (by omega), u2_s]
    · rw [u2_s]
  have v04 : sh2 s (nI f) 0 4 = nI (if hh - its = 0 then l else l + 1) := by
    rw [esh]
    by_cases c : hh - its = 0
    · rw [if_pos c, if_pos c]; unfold rmF; rw [u2_ne (by omega), ug_g (by omega), u2_s]; rfl
    · rw [if_neg c, if_neg c, u2_ne (by omega), u2_ne (by omega), hl]
  have v10 : hh - its = 0 → ∀ i, i < l → sh2 s (nI f) 10 i = s 10 (i + 1) := fun c i hi => by
    rw [esh, if_pos c]
    unfold rmF
    rw [u2_ne (by omega), ug_s, if_pos (by omega), u2_ne (by omega), u2_ne (by omega)]
  have v10' : hh - its ≠ 0 → sh2 s (nI f) 10 = s 10 := fun c => by
    rw [esh, if_neg c, u2_g (by omega), u2_g (by omega)]
  refine ⟨b, f - its, if hh - its = 0 then l else l + 1, hb, eb, ehs, by rw [es1, pk_sub i2], by omega, ?_, v04, ?_, v0⟩
  · generalize sh2 s (nI f) = V at v1 v0 vb vb5 vb6 v04 v10 v10' ⊢
    have hr : ∀ c, c < n → rmO (s (11 + c)) (V (11 + c)) := fun c _ => by
      by_cases cb : c = b
      · subst cb; exact ⟨vb 3 (by omega) (by omega) (by omega), fun q => by rw [vb 9 (by omega) (by omega) (by omega)]; exact q⟩
      · rw [v1 _ (by omega) (by omega) (by omega)]; exact rm_rf
    refine ⟨bs_mo h1 (v0 0 (by omega)) (v0 1 (by omega)) (fun i _ => by rw [v1 1 (by omega) (by omega) (by omega)]) (fun i _ => by rw [v1 2 (by omega) (by omega) (by omega)]), fun c hc => ?_, fun m' hm' => ⟨fun q => qvE_mo ((h3 m' hm').1 q) (by rw [v1 6 (by omega) (by omega) (by omega)]) (v1 _ (by omega) (by omega) (by omega)) hr, fun q => quI_mo ((h3 m' hm').2 q) (by rw [v1 6 (by omega) (by omega) (by omega)]) (v1 _ (by omega) (by omega) (by omega)) hr⟩, fun m' hm' => ⟨mcI_mo (h4 m' hm').1 (by rw [v1 _ (by omega) (by omega) (by omega)]) (by rw [v1 _ (by omega) (by omega) (by omega)]) hr, raI_mo (h4 m' hm').2 (by rw [v1 _ (by omega) (by omega) (by omega)]) (Nat.le_refl _)⟩, ?_⟩
    · by_cases cb : c = b
      · subst cb
        exact ⟨m', p, r, c', w, hh - its, y + its, g, z, ⟨(vb 0 (by omega) (by omega) (by omega)).trans e0, (vb 1 (by omega) (by omega) (by omega)).trans e1, (vb 2 (by omega) (by omega) (by omega)).trans e2, (vb 3 (by omega) (by omega) (by omega)).trans e3, (vb 4 (by omega) (by omega) (by omega)).trans e4, vb5, vb6, (vb 7 (by omega) (by omega) (by omega)).trans e7, (vb 8 (by omega) (by omega) (by omega)).trans e8⟩, ⟨j1, j2, j3, j4, j5, by omega, j7, j8⟩⟩
      · rw [v1 _ (by omega) (by omega) (by omega)]; exact h2 c hc
    · by_cases cc : hh - its = 0
      · rw [if_pos cc] at v04
        refine ⟨l, v04, rw_cut R (v10 cc) (fun i c _ hc e ne q => ?_)⟩
        have cb : c ≠ b := fun z => ne (by rw [e, eb, z])
        rw [v1 _ (by omega) (by omega) (by omega)]; exact q
      · rw [if_neg cc] at v04
        refine ⟨l + 1, v04, rw_mo R (fun i _ => by rw [v10' cc]) (fun i c _ hc _ q => ?_)⟩
        by_cases cb : c = b
        · subst cb; rw [vb5]; exact nI_ne0 (by omega) (by omega)
        · rw [v1 _ (by omega) (by omega) (by omega)]; exact q
  · by_cases cc : hh - its = 0
    · rw [if_pos cc]; exact Or.inl rfl
    · rw [if_neg cc]; exact Or.inr ⟨by have := i3 cc; omega, rfl⟩
theorem hd_all : ∀ (k : Nat) (s : Sg) (f l : Nat), dM n u 3 s → s 0 4 = nI l → l ≤ 40 → f ≤ 1000 → (l ≤ k ∨ f = 0) → hdOK k (nI f, s) ∧ shOK n k (nI f) s ∧ shL k (nI f) s = hdL k (nI f, s) ∧ dM n u 3 (hdL k (nI f, s)) ∧ ∀ j, j ≠ 4 → hdL k (nI f, s) 0 j = s 0 j := by
  intro k
  induction k with
  | zero =>
    intro s f l h hl _ _ hk
    refine ⟨?_, trivial, rfl, h, fun _ _ => rfl⟩
    rcases hk with hk | hk
    · refine Or.inr ?_
      show s 0 4 ≤ 0
      rw [hl, show l = 0 by omega]; decide
    · refine Or.inl ?_
      show nI f ≤ 0
      rw [hk]; decide
  | succ k ih =>
    intro s f l h hl hl40 hf hk
    by_cases c1 : f = 0
    · subst c1
      refine ⟨fun q => absurd (show nI 0 ≤ 0 by decide) q, Or.inl (by decide), ?_, ?_, ?_⟩
      · show (if nI 0 ≤ 0 then s else _) = (if nI 0 ≤ 0 then s else _)
        rw [if_pos (by decide), if_pos (by decide)]
      · show dM n u 3 (if nI 0 ≤ 0 then s else _)
        rw [if_pos (by decide)]; exact h
      · intro j _
        show (if nI 0 ≤ 0 then s else _) 0 j = s 0 j
        rw [if_pos (by decide)]
    · have n1 : ¬ nI f ≤ 0 := nI_nle (by omega) (by omega)
      by_cases c2 : l = 0
      · subst c2
        have e0 : s 0 4 ≤ 0 := by rw [hl]; decide
        refine ⟨fun _ q => absurd e0 q, Or.inr ⟨h.1.1.2.1, 0, by omega, hl, Or.inl rfl⟩, ?_, ?_, ?_⟩
        · show (if nI f ≤ 0 then s else if s 0 4 = 0 then s else _) = (if nI f ≤ 0 then s else if s 0 4 ≤ 0 then s else _)
          rw [if_neg n1, if_neg n1, if_pos (show s 0 4 = 0 from hl), if_pos e0]
        · show dM n u 3 (if nI f ≤ 0 then s else if s 0 4 ≤ 0 then s else _)
          rw [if_neg n1, if_pos e0]; exact h
        · intro j _
          show (if nI f ≤ 0 then s else if s 0 4 ≤ 0 then s else _) 0 j = s 0 j
          rw [if_neg n1, if_pos e0]
      · obtain ⟨l1, rfl⟩ : ∃ l1, l = l1 + 1 := ⟨l - 1, by omega⟩
        obtain ⟨b, f', l', hb, eb, eS, eF, hff, hd', hl', hc, hj⟩ := hd_step h hl (by omega) (by omega) hf
        have n2 : ¬ s 0 4 ≤ 0 := by rw [hl]; exact nI_nle (by omega) (by omega)
        have n3 : ¬ s 0 4 = 0 := by rw [hl]; exact nI_ne0 (by omega) (by omega)
        obtain ⟨i1, i2, i3, i4, i5⟩ := ih (sh2 s (nI f)) f' l' hd' hl' (by omega) (by omega) (by omega)
        have eL : hdL (k + 1) (nI f, s) = hdL k (nI f', sh2 s (nI f)) := by
          show (if nI f ≤ 0 then s else if s 0 4 ≤ 0 then s else hdL k (hdS (nI f, s))) = _
          rw [if_neg n1, if_neg n2, eS]
        have hn : n ≤ 40 := h.1.1.2.2.1
        refine ⟨fun _ _ => ⟨⟨b, l1, by omega, by omega, eb, hl⟩, by rw [eS]; exact i1⟩, Or.inr ⟨h.1.1.2.1, l1 + 1, hl40, hl, Or.inr ⟨b, hb, eb, by rw [eF]; exact i2⟩⟩, ?_, by rw [eL]; exact i4, fun j hj' => by rw [eL, i5 j hj', hj j hj']⟩
        rw [eL]
        show (if nI f ≤ 0 then s else if s 0 4 = 0 then s else shL k (nI f - sh1 s (nI f)) (sh2 s (nI f))) = _
        rw [if_neg n1, if_neg n3, eF, i3]
theorem sG_hs {f : Int32} (h : sG n s t) (hb : nN (s 10 0) < n) : (hdS (f, s)).1 = (hdS (f, t)).1 ∧ sG n (hdS (f, s)).2 (hdS (f, t)).2 := by
  unfold hdS
  dsimp only
  rw [← sG_g h (g := 10) (by omega) (by omega)]
  generalize nN (s 10 0) = b at hb ⊢
  have eI : hdI (f, s) b = hdI (f, t) b := by
    show (if s (11 + b) 5 ≤ f then s (11 + b) 5 else f) = (if t (11 + b) 5 ≤ f then t (11 + b) 5 else f)
    rw [sG_b h hb (k := 5)]
  rw [eI]
  refine ⟨rfl, ?_⟩
  generalize hdI (f, t) b = its
  have h1 := sG_u h (g := 11 + b) (k := 5) (congrArg (· - its) (sG_b h hb (k := 5)))
  have h2 := sG_u h1 (g := 11 + b) (k := 6) (congrArg (· + its) (sG_b h1 hb (k := 6)))
  rw [← sG_0 h2 (k := 4) (by omega)]
  exact sG_if (by rw [sG_b h2 hb (k := 5)]) (fun _ => sG_ed (sG_sh (sG_u h2 rfl) (by omega) (by omega)) hb) (fun _ => h2)
theorem hd_loc : ∀ (k : Nat) (s t : Sg) (f l : Nat), dM n u 3 s → sG n s t → s 0 4 = nI l → l ≤ 40 → f ≤ 1000 → sG n (hdL k (nI f, s)) (hdL k (nI f, t)) := by
  intro k
  induction k with
  | zero => intro s t f l _ e _ _ _; exact e
  | succ k ih =>
    intro s t f l h e hl hl40 hf
    show sG n (if nI f ≤ 0 then s else if s 0 4 ≤ 0 then s else hdL k (hdS (nI f, s))) (if nI f ≤ 0 then t else if t 0 4 ≤ 0 then t else hdL k (hdS (nI f, t)))
    rw [← sG_0 e (k := 4) (by omega)]
    refine sG_if Iff.rfl (fun _ => e) (fun c1 => sG_if Iff.rfl (fun _ => e) (fun c2 => ?_))
    have n1 : f ≠ 0 := fun z => c1 (by rw [z]; decide)
    have n2 : l ≠ 0 := fun z => c2 (by rw [hl, z]; decide)
    obtain ⟨l1, rfl⟩ : ∃ l1, l = l1 + 1 := ⟨l - 1, by omega⟩
    obtain ⟨b, f', l', hb, eb, eS, eF, hff, hd', hl', hc, hj⟩ := hd_step h hl (by omega) (by omega) hf
    have hn : n ≤ 40 := h.1.1.2.2.1
    obtain ⟨p1, p2⟩ := sG_hs (f := nI f) e (by rw [eb, nN_nI (by omega)]; exact hb)
    have : hdS (nI f, t) = (nI f', (hdS (nI f, t)).2) := by
      refine Prod.ext ?_ rfl
      rw [← p1, eS]
    rw [this, eS]
    rw [eS] at p2
    exact ih _ _ f' l' hd' p2 hl' (by omega) (by omega)
end HD
