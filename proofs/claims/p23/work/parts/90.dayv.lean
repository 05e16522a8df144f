/-! what the law looks for besides: the hands, a whole minute, the day's changes -/
section VE
variable {s t t' V : Sg} {n u b m a : Nat}
theorem hd_cells {f its w hh : Nat} (hb : b < 40) (eb : s 10 0 = nI b) (h4 : s (11 + b) 4 = nI w) (h5 : s (11 + b) 5 = nI hh) (hi : hdI (nI f, s) b = nI its) (k1 : its ≤ hh) (kw : w < 1000) (kh : hh < 1000) :
    (∀ g k, ¬ (g = 0 ∧ k = 4) → g ≠ 10 → ¬ (g = 11 + b ∧ (k = 5 ∨ k = 6 ∨ k = 10)) → (hdS (nI f, s)).2 g k = s g k) ∧ (hdS (nI f, s)).2 (11 + b) 5 = nI (hh - its) ∧ (hdS (nI f, s)).2 (11 + b) 10 = if w = 0 ∧ hh - its = 0 then s 0 0 else s (11 + b) 10 := by
  unfold hdS
  dsimp only
  rw [eb, nN_nI (by omega), hi, h5, pk_sub k1]
  have e1 : ∀ g k, ¬ (g = 11 + b ∧ (k = 5 ∨ k = 6)) → ∀ x, u2 (u2 s (11 + b) 5 (nI (hh - its))) (11 + b) 6 x g k = s g k := fun g k q x => by rw [u2_ne (by omega), u2_ne (by omega)]
  have e2 : ∀ x, u2 (u2 s (11 + b) 5 (nI (hh - its))) (11 + b) 6 x (11 + b) 5 = nI (hh - its) := fun x => by rw [u2_ne (by omega), u2_s]
  generalize u2 s (11 + b) 5 (nI (hh - its)) (11 + b) 6 + nI its = x
  have e1 := fun g k q => e1 g k q x
  have e2 := e2 x
  generalize u2 (u2 s (11 + b) 5 (nI (hh - its))) (11 + b) 6 x = S at e1 e2 ⊢
  rw [e2]
  by_cases c : hh - its = 0
  · rw [if_pos ((z_e (by omega)).mpr c)]
    have e3 : ∀ K X g k, ¬ (g = 0 ∧ k = 4) → g ≠ 10 → itF (shS 10) K (u2 S 0 4 X) g k = S g k := fun K X g k q1 q2 => by rw [sh_o q2, u2_ne q1]
    generalize nN (S 0 4 - 1) = K
    generalize S 0 4 - 1 = X
    have e3 := fun g k q1 q2 => e3 K X g k q1 q2
    generalize itF (shS 10) K (u2 S 0 4 X) = Z at e3 ⊢
    have z4 : Z (11 + b) 4 = nI w := by rw [e3 _ _ (by omega) (by omega), e1 _ _ (by omega), h4]
    have z5 : Z (11 + b) 5 = nI (hh - its) := by rw [e3 _ _ (by omega) (by omega), e2]
    unfold edF
    rw [z4, z5, if_pos ((z_e (k := hh - its) (by omega)).mpr c)]
    by_cases c2 : w = 0
    · rw [if_pos ((z_e (by omega)).mpr c2), if_pos ⟨c2, c⟩]
      refine ⟨fun g k q1 q2 q3 => ?_, ?_, ?_⟩
      · rw [u2_ne (by omega), e3 _ _ q1 q2, e1 _ _ (by omega)]
      · rw [u2_ne (by omega), z5]
      · rw [u2_s, e3 _ _ (by omega) (by omega), e1 _ _ (by omega)]
    · rw [if_neg (fun q => c2 ((z_e (by omega)).mp q)), if_neg (fun q => c2 q.1)]
      refine ⟨fun g k q1 q2 q3 => ?_, z5, ?_⟩
      · rw [e3 _ _ q1 q2, e1 _ _ (by omega)]
      · rw [e3 _ _ (by omega) (by omega), e1 _ _ (by omega)]
  · rw [if_neg (fun q => c ((z_e (by omega)).mp q)), if_neg (fun q => c q.2)]
    exact ⟨fun g k q1 q2 q3 => e1 _ _ (by omega), e2, e1 _ _ (by omega)⟩
/-- one step of the hands -/
theorem vM_hs (h : dM n u 3 s) (k : vM n u s) {l f : Nat} (hl : s 0 4 = nI (l + 1)) (hl40 : l < 40) (hf2 : f ≤ 1000) : vM n u (hdS (nI f, s)).2 := by
  obtain ⟨h1, h2, h3, h4, h5⟩ := h
  have hn : n ≤ 40 := h1.1.2.2.1
  obtain ⟨l0, el, R⟩ := h5
  have hl0 := rw_le hn R
  rw [hl, nI_eq_iff (by omega) (by omega)] at el
  subst el
  obtain ⟨b, hb, eb, hnz⟩ := R.1 0 (by omega)
  obtain ⟨m', p, r, c', w, hh, y, g, z, ⟨e0, e1, e2, e3, e4, e5, e6, e7, e8⟩, ⟨j1, j2, j3, j4, j5, j6, j7, j8⟩⟩ := h2 b hb
  have hhz : hh ≠ 0 := fun q => hnz (by rw [e5, q]; rfl)
  obtain ⟨its, hits, ei⟩ : ∃ its, its ≤ hh ∧ hdI (nI f, s) b = nI its := by
    unfold hdI
    show ∃ its, its ≤ hh ∧ (if s (11 + b) 5 ≤ nI f then s (11 + b) 5 else nI f) = nI its
    have k : (nI hh ≤ nI f) = (hh ≤ f) := nI_le_iff (by omega) (by omega)
    rw [e5]
    by_cases c : hh ≤ f
    · exact ⟨hh, Nat.le_refl _, by rw [if_pos (k.mpr c)]⟩
    · exact ⟨f, by omega, by rw [if_neg (fun q => c (k.mp q))]⟩
  obtain ⟨v1, v5, v10⟩ := hd_cells (by omega) eb e4 e5 ei hits (by omega) (by omega)
  generalize (hdS (nI f, s)).2 = V at v1 v5 v10 ⊢
  obtain ⟨K1, K2, K3⟩ := k
  have hr' : ∀ c k, c < n → k < 5 → V (11 + c) k = s (11 + c) k := fun c k _ hk => v1 _ _ (by omega) (by omega) (by omega)
  refine ⟨fun c hc => ?_, fun m' hm' => ⟨quV_mo (K2 m' hm').1 (v1 _ _ (by omega) (by omega) (by omega)) (fun i => v1 _ _ (by omega) (by omega) (by omega)) (v1 _ _ (by omega) (by omega) (by omega)) hr', haV_mo (K2 m' hm').2 (Nat.le_refl _) (v1 _ _ (by omega) (by omega) (by omega)) (v1 _ _ (by omega) (by omega) (by omega)) hr'⟩, ?_⟩
  · by_cases cb : c = b
    · subst cb
      obtain ⟨x1, x2, x3, x4, x5⟩ := K1 c hc
      have w9 : V (11 + c) 9 = s (11 + c) 9 := v1 _ _ (by omega) (by omega) (by omega)
      have w3 : V (11 + c) 3 = s (11 + c) 3 := v1 _ _ (by omega) (by omega) (by omega)
      have w4 : V (11 + c) 4 = s (11 + c) 4 := v1 _ _ (by omega) (by omega) (by omega)
      have h10 : s (11 + c) 10 = -6 := by
        rcases x2 with q | q
        · exact q.1
        · exact absurd q.2.2 hnz
      refine ⟨fun q => ?_, ?_, by rw [w9]; exact x3, fun _ => by rw [w9]; exact x4 hnz, fun q => ?_⟩
      · rw [w3] at q; exact absurd (x1 q).2 (x4 hnz)
      · rw [v10, v5, w4, e4, h10]
        by_cases c1 : w = 0 ∧ hh - its = 0
        · rw [if_pos c1, c1.1, c1.2]
          exact Or.inr ⟨⟨u, by omega, h1.1.1⟩, rfl, rfl⟩
        · rw [if_neg c1]
          refine Or.inl ⟨rfl, ?_⟩
          by_cases c2 : w = 0
          · exact Or.inr (nI_ne0 (by omega) (by omega))
          · exact Or.inl (nI_ne0 (by omega) (by omega))
      · rw [w9] at q
        rw [v1 (11 + c) 8 (by omega) (by omega) (by omega), v1 (11 + c) 1 (by omega) (by omega) (by omega)]
        exact x5 q
    · have : V (11 + c) = s (11 + c) := funext fun k => v1 _ _ (by omega) (by omega) (by omega)
      rw [this]; exact K1 c hc
  · obtain ⟨R, x0, x1, x2, a1, a2, a3, a4, a5, a6, a7⟩ := K3
    have d1 : sN fD V n = sN fD s n := sN_eq n fun c hc => by
      unfold fD; rw [hr' c 1 hc (by omega), hr' c 4 hc (by omega)]
    have d2 := sN_up (F := fH) (t := s) (t' := V) (b := b) n hb (fun c _ hc => by unfold fH; rw [v1 _ _ (by omega) (by omega) (by omega)])
    have f3 : fH (s (11 + b)) = hh := by unfold fH; rw [e5, nN_nI (by omega)]
    have f4 : fH (V (11 + b)) = hh - its := by unfold fH; rw [v5, nN_nI (by omega)]
    rw [f3, f4] at d2
    exact ⟨R, x0, x1, x2, (v1 _ _ (by omega) (by omega) (by omega)).trans a1, (v1 _ _ (by omega) (by omega) (by omega)).trans a2, (v1 _ _ (by omega) (by omega) (by omega)).trans a3, (v1 _ _ (by omega) (by omega) (by omega)).trans a4, by rw [d1]; exact a5, a6, by omega⟩
theorem vM_hl : ∀ (k : Nat) (s : Sg) (f l : Nat), dM n u 3 s → vM n u s → s 0 4 = nI l → l ≤ 40 → f ≤ 1000 → vM n u (hdL k (nI f, s)) ∧ hdL k (nI f, s) 0 3 = s 0 3 := by
  intro k
  induction k with
  | zero => intro s f l _ h _ _ _; exact ⟨h, rfl⟩
  | succ k ih =>
    intro s f l h kk hl hl40 hf
    by_cases c1 : f = 0
    · subst c1
      have e : hdL (k + 1) (nI 0, s) = s := by
        show (if nI 0 ≤ 0 then s else _) = s
        rw [if_pos (by decide)]
      rw [e]; exact ⟨kk, rfl⟩
    · have n1 : ¬ nI f ≤ 0 := nI_nle (by omega) (by omega)
      by_cases c2 : l = 0
      · subst c2
        have e0 : s 0 4 ≤ 0 := by rw [hl]; decide
        have e : hdL (k + 1) (nI f, s) = s := by
          show (if nI f ≤ 0 then s else if s 0 4 ≤ 0 then s else _) = s
          rw [if_neg n1, if_pos e0]
        rw [e]; exact ⟨kk, rfl⟩
      · obtain ⟨l1, rfl⟩ : ∃ l1, l = l1 + 1 := ⟨l - 1, by omega⟩
        obtain ⟨b, f', l', hb, eb, eS, eF, hff, hd', hl', hc, hj⟩ := hd_step h hl (by omega) (by omega) hf
        have n2 : ¬ s 0 4 ≤ 0 := by rw [hl]; exact nI_nle (by omega) (by omega)
        have eL : hdL (k + 1) (nI f, s) = hdL k (nI f', sh2 s (nI f)) := by
          show (if nI f ≤ 0 then s else if s 0 4 ≤ 0 then s else hdL k (hdS (nI f, s))) = _
          rw [if_neg n1, if_neg n2, eS]
        have kS := vM_hs h kk hl (by omega) hf
        rw [eS] at kS
        rw [eL]
        obtain ⟨i1, i2⟩ := ih (sh2 s (nI f)) f' l' hd' kS hl' (by omega) (by omega)
        exact ⟨i1, by rw [i2, hj 3 (by omega)]⟩
theorem mi_c {x v : Nat} {c y : Int32} (hc : c = nI x) (hx : x ≤ 3) (hv : v ≤ 20) (hy : y = nI v) (p q r : Prop) [Decidable p] [Decidable q] [Decidable r] : ∃ e, e ≤ 43 ∧ c + (if p then y else if q then (if r then 0 else 2 * y) else 0) = nI e := by
  subst hc
  subst hy
  by_cases c1 : p
  · exact ⟨x + v, by omega, by rw [if_pos c1, nI_add]⟩
  · by_cases c2 : q
    · by_cases c3 : r
      · exact ⟨x + 0, by omega, by rw [if_neg c1, if_pos c2, if_pos c3, ← nI_add]; rfl⟩
      · exact ⟨x + 2 * v, by omega, by rw [if_neg c1, if_pos c2, if_neg c3, show (2 : Int32) = nI 2 from rfl, pk_mul, nI_add]⟩
    · exact ⟨x + 0, by omega, by rw [if_neg c1, if_neg c2, ← nI_add]; rfl⟩
/-- a whole minute -/
theorem vD_mn (h : dI n u t) (k : vD n u t) (hu : u < 1440) : vD n (u + 1) (mnF t) := by
  obtain ⟨m1, m2⟩ := mn_0 h hu
  have k0 := vM_0 h k hu
  obtain ⟨a1, a2, a3⟩ := vM_rn m1 k0 (m := 0) (by omega) hu
  obtain ⟨b1, b2, b3⟩ := vM_rn a2 a1 (m := 1) (by omega) hu
  obtain ⟨c1, c2, c3⟩ := vM_rn b2 b1 (m := 2) (by omega) hu
  have t03 : mn1 t 0 3 = t 0 3 := by
    show rnS (rnS (rnS (mn0 t) 0) 1) 2 0 3 = t 0 3
    rw [c3, b3, a3, m2 0 3 (Or.inl (by omega))]
  have hM : dM n u 3 (mn1 t) := c2
  have kM : vM n u (mn1 t) := c1
  obtain ⟨f, hf, ef⟩ := sh_bd hM
  obtain ⟨l, hl, el⟩ := ln_bd hM
  have hH : vM n u (mnH 40 (mn1 t)) ∧ mnH 40 (mn1 t) 0 3 = mn1 t 0 3 := by
    unfold mnH
    rw [ef]
    have q := vM_hl 40 (mn1 t) f l hM kM el hl hf
    split
    · exact q
    · split
      · exact q
      · exact ⟨kM, rfl⟩
  obtain ⟨⟨K1, K2, K3⟩, h03⟩ := hH
  obtain ⟨cs, hcs, ecs⟩ := k.2.2.2
  obtain ⟨v, hv, ev⟩ := bs_staff hM.1
  obtain ⟨x, hx, ex⟩ : ∃ x, x ≤ 3 ∧ mnK t = nI x := by
    unfold mnK
    rcases @rn_01 (mn0 t) 0 with q1 | q1 <;> rcases @rn_01 (rnS (mn0 t) 0) 1 with q2 | q2 <;> rcases @rn_01 (rnS (rnS (mn0 t) 0) 1) 2 with q3 | q3 <;> rw [q1, q2, q3]
    · exact ⟨0, by omega, rfl⟩
    · exact ⟨1, by omega, rfl⟩
    · exact ⟨1, by omega, rfl⟩
    · exact ⟨2, by omega, rfl⟩
    · exact ⟨1, by omega, rfl⟩
    · exact ⟨2, by omega, rfl⟩
    · exact ⟨2, by omega, rfl⟩
    · exact ⟨3, by omega, rfl⟩
  obtain ⟨e, he, ee⟩ := mi_c ex hx hv ev (mn1 t 0 0 < mn1 t 1 4) (mn1 t 1 5 = 1) (mn1 t 0 4 ≤ 0)
  have eC : mnC (mn1 t) (mnK t) = nI e := ee
  have eF : mnF t = u2 (u2 (mnH 40 (mn1 t)) 0 3 (nI (cs + e))) 0 0 (mnH 40 (mn1 t) 0 0 + 1) := by
    unfold mnF; dsimp only; rw [u2_ne (s := mnH 40 (mn1 t)) (show ¬ (0 = 0 ∧ 0 = 3) by omega), eC, h03, t03, ecs, nI_add]
  rw [eF]
  generalize mnH 40 (mn1 t) = X at K1 K2 K3 ⊢
  generalize X 0 0 + 1 = y
  have g1 : ∀ g k, ¬ (g = 0 ∧ (k = 0 ∨ k = 3)) → u2 (u2 X 0 3 (nI (cs + e))) 0 0 y g k = X g k := fun g k q => by rw [u2_ne (by omega), u2_ne (by omega)]
  exact ⟨fun c hc => by rw [u2_g (by omega), u2_g (by omega)]; exact K1 c hc, fun m' hm' => ⟨quV_mo (K2 m' hm').1 (g1 _ _ (by omega)) (fun i => g1 _ _ (by omega)) (g1 _ _ (by omega)) (fun _ _ _ _ => g1 _ _ (by omega)), haV_mo (K2 m' hm').2 (Nat.le_refl _) (g1 _ _ (by omega)) (g1 _ _ (by omega)) (fun _ _ _ _ => g1 _ _ (by omega))⟩, suV_mo K3 (g1 _ _ (by omega)) (fun j hj => g1 _ _ (by omega)) (fun _ _ _ _ => g1 _ _ (by omega)), cs + e, by omega, by rw [u2_ne (by omega), u2_s]⟩
theorem vD_dy (h : dI n u t) (k : vD n u t) : ∀ j, u + j ≤ 1440 → vD n (u + j) (dyN t j) := by
  intro j
  induction j with
  | zero => intro _; exact k
  | succ j ih =>
    intro hj
    have := vD_mn (dy_all h j (by omega)).1 (ih (by omega)) (by omega)
    exact this
/-- only settings and cutoffs change -/
theorem vD_fr (k : vD n u t) (hg : ∀ g, g ≠ 1 → g ≠ 2 → t' g = t g) : vD n u t' := by
  obtain ⟨K1, K2, K3, c, hc, ec⟩ := k
  have hr : ∀ c k, c < n → k < 5 → t' (11 + c) k = t (11 + c) k := fun c k _ _ => by rw [hg _ (by omega) (by omega)]
  exact ⟨fun c hc => by rw [hg _ (by omega) (by omega)]; exact K1 c hc, fun m' hm' => ⟨quV_mo (K2 m' hm').1 (by rw [hg _ (by omega) (by omega)]) (fun i => by rw [hg _ (by omega) (by omega)]) (by rw [hg _ (by omega) (by omega)]) hr, haV_mo (K2 m' hm').2 (Nat.le_refl _) (by rw [hg _ (by omega) (by omega)]) (by rw [hg _ (by omega) (by omega)]) hr⟩, suV_mo K3 (by rw [hg _ (by omega) (by omega)]) (fun j hj => by rw [hg _ (by omega) (by omega)]) (fun c k _ _ => by rw [hg _ (by omega) (by omega)]), c, hc, by rw [hg _ (by omega) (by omega)]; exact ec⟩
/-- days that agree -/
theorem vD_sG (k : vD n u t) (e : sG n s t) (h3 : s 0 3 = t 0 3) : vD n u s := by
  obtain ⟨K1, K2, K3, c, hc, ec⟩ := k
  have hr : ∀ c k, c < n → k < 6 → s (11 + c) k = t (11 + c) k := fun c k hc hk => sG_b e hc (by omega)
  have hr' : ∀ c k, c < n → k < 5 → s (11 + c) k = t (11 + c) k := fun c k hc hk => sG_b e hc (by omega)
  have hg : ∀ g k, 0 < g → g < 11 → s g k = t g k := fun g k h1 h2 => sG_g e h1 h2
  refine ⟨fun c hc => ?_, fun m' hm' => ⟨quV_mo (K2 m' hm').1 (hg _ _ (by omega) (by omega)) (fun i => hg _ _ (by omega) (by omega)) (hg _ _ (by omega) (by omega)) hr', haV_mo (K2 m' hm').2 (Nat.le_refl _) (hg _ _ (by omega) (by omega)) (hg _ _ (by omega) (by omega)) hr'⟩, suV_mo K3 (sG_0 e (by omega)) (fun j hj => hg _ _ (by omega) (by omega)) hr, c, hc, h3.trans ec⟩
  have hk := K1 c hc
  unfold rwV at hk ⊢
  rw [sG_b e hc (k := 1), sG_b e hc (k := 3), sG_b e hc (k := 4), sG_b e hc (k := 5), sG_b e hc (k := 8), sG_b e hc (k := 9), sG_b e hc (k := 10)]
  exact hk
theorem vD_mail {p r c : Nat} (h : dI n u t) (k : vD n u t) (hn : n < 40) (hp : 1 ≤ p) (hp2 : p ≤ 999) (hc : c < 1440) : vD (n + 1) u (u2 (bgF t n (nI m) (nI p) (nI r) (nI c)) 0 1 (nI (n + 1))) := by
  obtain ⟨K1, K2, K3, cs, hcs, ecs⟩ := k
  have hb : ∀ g k, g ≠ 11 + n → bgF t n (nI m) (nI p) (nI r) (nI c) g k = t g k := fun g k q => if_neg (fun z => q z.1)
  have hg : ∀ g, g ≠ 0 → g ≠ 11 + n → u2 (bgF t n (nI m) (nI p) (nI r) (nI c)) 0 1 (nI (n + 1)) g = t g := fun g q1 q2 => by
    rw [u2_g q1]; exact funext fun k => hb g k q2
  have h0 : ∀ k, k ≠ 1 → u2 (bgF t n (nI m) (nI p) (nI r) (nI c)) 0 1 (nI (n + 1)) 0 k = t 0 k := fun k q => by
    rw [u2_ne (by omega)]; exact hb _ _ (by omega)
  have w : ∀ k, k < 11 → u2 (bgF t n (nI m) (nI p) (nI r) (nI c)) 0 1 (nI (n + 1)) (11 + n) k = if k = 0 then nI m else if k = 1 then nI p else if k = 2 then nI r else if k = 3 then nI c else if k = 4 then nI p else if k = 10 then -6 else 0 := fun k hk => (u2_ne (by omega)).trans (if_pos ⟨rfl, hk⟩)
  generalize u2 (bgF t n (nI m) (nI p) (nI r) (nI c)) 0 1 (nI (n + 1)) = V at hg h0 w ⊢
  have ho : ∀ c, c < n → V (11 + c) = t (11 + c) := fun c hc => hg _ (by omega) (by omega)
  have w1 : V (11 + n) 1 = nI p := w 1 (by omega)
  have w3 : V (11 + n) 3 = nI c := w 3 (by omega)
  have w4 : V (11 + n) 4 = nI p := w 4 (by omega)
  have w5 : V (11 + n) 5 = 0 := w 5 (by omega)
  have w9 : V (11 + n) 9 = 0 := w 9 (by omega)
  have w10 : V (11 + n) 10 = -6 := w 10 (by omega)
  refine ⟨fun c' hc' => ?_, fun m' hm' => ⟨?_, ?_⟩, ?_, cs, hcs, by rw [h0 3 (by omega)]; exact ecs⟩
  · by_cases cn : c' = n
    · subst cn
      refine ⟨fun _ => ⟨w4.trans w1.symm, w9⟩, Or.inl ⟨w10, Or.inl ?_⟩, ⟨0, by omega, w9⟩, fun q => absurd w5 q, fun q => ?_⟩
      · rw [w4]; exact nI_ne0 (by omega) (by omega)
      · rw [w9] at q; exact absurd q (by decide)
    · rw [ho _ (by omega)]; exact K1 c' (by omega)
  · obtain ⟨q, q40, e6, Q1, Q2⟩ := (K2 m' hm').1
    refine ⟨q, q40, by rw [hg 6 (by omega) (by omega)]; exact e6, fun i hi => ?_, fun i c1 c2 hi hc1 hc2 z1 z2 => ?_⟩
    · obtain ⟨c', hc', z1, z2, z3, z4⟩ := Q1 i hi
      exact ⟨c', by omega, by rw [hg _ (by omega) (by omega)]; exact z1, by rw [ho c' hc']; exact z2, by rw [ho c' hc']; exact z3, by rw [hg _ (by omega) (by omega)]; exact z4⟩
    · rw [hg (7 + m') (by omega) (by omega)] at z1 z2
      obtain ⟨c1', hc1', y1, _⟩ := Q1 i (by omega)
      obtain ⟨c2', hc2', y2, _⟩ := Q1 (i + 1) (by omega)
      have x1 := z1
      have x2 := z2
      rw [y1, nI_eq_iff (by omega) (by omega)] at x1
      rw [y2, nI_eq_iff (by omega) (by omega)] at x2
      subst x1
      subst x2
      rw [ho c1' hc1', ho c2' hc2']
      exact Q2 i c1' c2' hi hc1' hc2' z1 z2
  · rcases (K2 m' hm').2 with H | ⟨b', hb', z0, z1, z2, z3, z4⟩
    · exact Or.inl (by rw [hg _ (by omega) (by omega)]; exact H)
    · exact Or.inr ⟨b', by omega, by rw [hg _ (by omega) (by omega)]; exact z0, by rw [ho b' hb']; exact z1, by rw [ho b' hb']; exact z2, by rw [ho b' hb', hg _ (by omega) (by omega)]; exact z3, by rw [ho b' hb']; exact z4⟩
  · obtain ⟨R, x0, x1, x2, a1, a2, a3, a4, a5, a6, a7⟩ := K3
    have d1 : sN fD V (n + 1) = sN fD t n := by
      show sN fD V n + fD (V (11 + n)) = _
      rw [sN_eq (t := t) (t' := V) n (fun c hc => by rw [ho c hc])]
      unfold fD
      rw [w1, w4]
      omega
    have d2 : sN fH V (n + 1) = sN fH t n := by
      show sN fH V n + fH (V (11 + n)) = _
      rw [sN_eq (t := t) (t' := V) n (fun c hc => by rw [ho c hc])]
      unfold fH
      rw [w5]
      rfl
    exact ⟨R, x0, x1, x2, (h0 2 (by omega)).trans a1, by rw [hg _ (by omega) (by omega)]; exact a2, by rw [hg _ (by omega) (by omega)]; exact a3, by rw [hg _ (by omega) (by omega)]; exact a4, by rw [d1]; exact a5, a6, by rw [d2]; exact a7⟩
theorem vD_ini : vD 0 0 iniS := by
  have z : ∀ g k, 3 ≤ g → ¬ ((3 ≤ g ∧ g < 3 + 3) ∧ (k = 0 ∨ k = 2)) → iniS g k = 0 := fun g k q1 q2 => by
    unfold iniS ini1
    rw [if_neg (by omega), if_neg (by omega), if_neg q2]
  refine ⟨fun c hc => by omega, fun m hm => ⟨⟨0, by omega, z 6 m (by omega) (by omega), fun i hi => by omega, fun i _ _ hi => by omega⟩, Or.inl ?_⟩, ⟨0, 0, 0, 0, rfl, z _ _ (by omega) (by omega), z _ _ (by omega) (by omega), z _ _ (by omega) (by omega), rfl, by omega, by show 0 ≤ 0; omega⟩, 0, by omega, rfl⟩
  unfold iniS ini1
  rw [if_neg (by omega), if_neg (by omega), if_pos ⟨by omega, Or.inl rfl⟩]
end VE
