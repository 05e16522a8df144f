/-! a minute, whole: both sides -/
section MN
variable {s t w : Sg} {n u b m a e : Nat} {c : Int32} {P : Nat → Nat → Prop}
theorem kp_hsP {p : Int32 × Sg} (hP : ∀ g k, P g k → 0 < g ∧ g < 10) (h : kp P s p.2) : kp P s (hdS p).2 := by
  unfold hdS
  dsimp only
  have o : ∀ g k, g = 0 ∨ 10 ≤ g → ¬ P g k := fun g k z q => by have := hP g k q; omega
  have h2 : ∀ v1 v2, kp P s (u2 (u2 p.2 (11 + nN (p.2 10 0)) 5 v1) (11 + nN (p.2 10 0)) 6 v2) := fun v1 v2 => kp_u2 (kp_u2 h (o _ _ (by omega))) (o _ _ (by omega))
  have h3 : ∀ x b, kp P s x → kp P s (edF x b) := fun x b z => kp_if (kp_if (kp_u2 z (o _ _ (by omega))) z) z
  exact kp_if (h3 _ _ (kp_it (fun i w z => kp_u2 z (o _ _ (by omega))) (kp_u2 (h2 _ _) (o _ _ (by omega))))) (h2 _ _)
theorem kp_hlP (hP : ∀ g k, P g k → 0 < g ∧ g < 10) : ∀ (k : Nat) (p : Int32 × Sg), kp P s p.2 → kp P s (hdL k p) := by
  intro k
  induction k with
  | zero => intro p h; exact h
  | succ k ih => intro p h; exact kp_if h (kp_if h (ih _ (kp_hsP hP h)))
theorem kp_mhP {k : Nat} (hP : ∀ g k, P g k → 0 < g ∧ g < 10) : kp P t (mnH k t) := kp_if (kp_hlP hP k _ kp_rf) (kp_if (kp_hlP hP k _ kp_rf) kp_rf)
theorem dI_sG (h : dI n u t) (e : sG n s t) : dI n u s := by
  obtain ⟨h1, h2, h3, h4, h5⟩ := h
  have hr : ∀ c, c < n → rmO (t (11 + c)) (s (11 + c)) := sG_o e
  exact ⟨bs_mo h1 (sG_0 e (by omega)) (sG_0 e (by omega)) (fun i _ => by rw [sG_r e (by omega) (by omega)]) (fun i _ => by rw [sG_r e (by omega) (by omega)]), fun c hc => bt_eq (h2 c hc) (fun k hk => sG_b e hc), fun m' hm' => qvE_mo (h3 m' hm') (by rw [sG_r e (by omega) (by omega)]) (sG_r e (by omega) (by omega)) hr, fun m' hm' => ⟨mcI_mo (h4 m' hm').1 (by rw [sG_r e (by omega) (by omega)]) (by rw [sG_r e (by omega) (by omega)]) hr, raI_mo (h4 m' hm').2 (by rw [sG_r e (by omega) (by omega)]) (Nat.le_refl _)⟩, lnI_mo h5 (sG_0 e (by omega)) (sG_r e (by omega) (by omega)) (fun c hc q => by rw [sG_b e hc (k := 5)]; exact q)⟩
theorem dI_n (h : dI n u t) : nN (t 0 1) = n := by rw [h.1.1.2.1, nN_nI (by have := h.1.1.2.2.1; omega)]
theorem sG_mn0 (h : dI n u t) (e : sG n s t) : sG n (mn0 s) (mn0 t) := by
  unfold mn0
  rw [dI_n h, dI_n (dI_sG h e)]
  exact sG_it (fun b s t hb q => sG_lv q hb) (sG_it (fun b s t hb q => sG_cm q hb) e)
/-- nothing comes or goes before the next event -/
theorem mn0_no (h : dI n u s) (he : evJ n u e s) (hu : u < 1440) (hue : u < e) : mn0 s = s := by
  unfold mn0
  rw [dI_n h, cm_no (fun b hb q => ?_) n (Nat.le_refl _), lv_no (fun r hr q => ?_) (fun b hb => ?_) n (Nat.le_refl _)]
  · obtain ⟨c, hc, ec⟩ := h.1.2.2 r hr
    have := he.2.2.2 r hr c hc ec
    rw [ec, h.1.1.1, nI_eq_iff (by omega) (by omega)] at q
    omega
  · obtain ⟨m, p, r, c, w, hh, y, g, z, ⟨e0, e1, e2, _⟩, ⟨k1, k2, k3, k4, _⟩⟩ := h.2.1 b hb
    exact ⟨r, k4, e2⟩
  · obtain ⟨c, hc, ec⟩ := bt_3 (h.2.1 b hb)
    have := he.2.2.1 b hb c hc ec
    rw [ec, h.1.1.1, nI_eq_iff (by omega) (by omega)] at q
    omega
theorem pm_0 (h : dI n u t) (e : sG n s t) (hv : evI n u s) (hu : u < 1440) : ∃ f, mR n u 0 f (s 0 3) (pm0 s n) (mn0 t) ∧ evJ n (u + 1) f (mn0 t) ∧
    (¬ s 0 0 < s 0 6 → (∀ b, b < n → ltOK n (itF ltS b s) b) ∧ (∀ b, b ≤ n → (itF lgS b (itF ltS n s)) 0 1 = nI n) ∧ ∀ b, b < n → ∃ r, r < 8 ∧ (itF lgS b (itF ltS n s)) (11 + b) 2 = nI r) := by
  have hs := dI_sG h e
  obtain ⟨m1, m2⟩ := mn_0 hs hu
  obtain ⟨n1, n2⟩ := mn_0 h hu
  have e0 := sG_mn0 h e
  obtain ⟨c1, c2, c3, c4⟩ := cm_end hs hu
  obtain ⟨v5, f, v6, hf⟩ := hv
  have k3 : ∀ b, b < n → mn0 t (11 + b) 3 = mn0 s (11 + b) 3 := fun b hb => (sG_b e0 hb).symm
  have k2 : ∀ r, r < 8 → mn0 t 2 r = mn0 s 2 r := fun r _ => (sG_g e0 (by omega) (by omega)).symm
  have hlv : ¬ s 0 0 < s 0 6 → (∀ b, b < n → ltOK n (itF ltS b s) b) ∧ (∀ b, b ≤ n → (itF lgS b (itF ltS n s)) 0 1 = nI n) ∧ ∀ b, b < n → ∃ r, r < 8 ∧ (itF lgS b (itF ltS n s)) (11 + b) 2 = nI r := fun _ => by
    rw [lv_lg, c3]
    exact ⟨c2, fun b hb => dM_n (lv_all c4 hu b hb), fun b hb => dM_r (lv_all c4 hu b (by omega)) hb⟩
  have kl : (nI u < nI f) = (u < f) := nI_lt_iff (by omega) (by have := hf.2.1; omega)
  by_cases c : u < f
  · have eP : pm0 s n = s := by
      unfold pm0; rw [hs.1.1.1, v6, if_pos (kl.mpr c)]
    have eM := mn0_no hs hf hu c
    rw [eM] at e0 k3 k2
    refine ⟨f, ⟨n1, by rw [eP]; exact e0, by rw [eP], by rw [eP]; exact v5, by rw [eP]; exact v6⟩, evJ_mo (s := s) ⟨by omega, hf.2.1, fun b hb x hx q => by have := hf.2.2.1 b hb x hx q; omega, fun r hr x hx q => by have := hf.2.2.2 r hr x hx q; omega⟩ k3 k2, hlv⟩
  · have eP : pm0 s n = u2 (mn0 s) 0 6 (neF (mn0 s) n) := by
      unfold pm0; rw [hs.1.1.1, v6, if_neg (fun q => c (kl.mp q)), lv_lg, c3]
      unfold mn0; rw [dI_n hs]
    obtain ⟨f', w1, w2⟩ := ne_f m1 hu
    have b3 : ∀ g k, g < 6 → mn0 s g k = s g k := fun g k hg => m2 g k (Or.inl hg)
    refine ⟨f', ⟨n1, by rw [eP]; exact sG_j e0 ⟨rfl, Or.inr (by omega)⟩, by rw [eP, u2_ne (by omega), b3 _ _ (by omega)], ?_, by rw [eP, u2_s, w1]⟩, evJ_mo w2 k3 k2, hlv⟩
    rw [eP, u2_ne (by omega), u2_ne (by omega), u2_ne (by omega), u2_ne (by omega), b3 _ _ (by omega), b3 _ _ (by omega), b3 _ _ (by omega), b3 _ _ (by omega)]
    exact v5
/-- what the staff costs in this minute -/
def stC (s : Sg) : Int32 := if s 0 0 < s 1 4 then s 1 2 else if s 1 5 = 1 then (if s 0 4 ≤ 0 then 0 else 2 * s 1 2) else 0
theorem stC_sG (e : sG n s t) : stC s = stC t := by
  unfold stC
  rw [sG_0 e (k := 0) (by omega), sG_0 e (k := 4) (by omega), sG_g e (g := 1) (k := 4) (by omega) (by omega), sG_g e (g := 1) (k := 2) (by omega) (by omega), sG_g e (g := 1) (k := 5) (by omega) (by omega)]
theorem pm1_u : pm1 s = u2 s 0 3 (s 0 3 + stC s) := by
  unfold pm1 stC
  split
  · rfl
  · split
    · split
      · rw [Int32.add_zero, u2_id]
      · rfl
    · rw [Int32.add_zero, u2_id]
/-- the hands' part, both sides -/
theorem hm_all (h : dM n u 3 t) (e : sG n s t) : shOK n 40 (pm1 s 1 2 * pm1 s 1 3) (pm1 s) ∧ hdOK 40 (t 1 2 * t 1 3, t) ∧ sG n (pm2 s) (mnH 40 t) ∧ dM n u 3 (mnH 40 t) ∧ (∀ k, k ≠ 4 → mnH 40 t 0 k = t 0 k) ∧ (∀ k, k ≠ 4 → pm2 s 0 k = pm1 s 0 k) := by
  have eP : sG n (pm1 s) t := by rw [pm1_u]; exact sG_j e ⟨rfl, Or.inl rfl⟩
  have hP := dM_sG h eP
  obtain ⟨f, hf, ef⟩ := sh_bd h
  obtain ⟨l, hl, el⟩ := ln_bd h
  have ef' : pm1 s 1 2 * pm1 s 1 3 = nI f := by rw [sG_g eP (by omega) (by omega), sG_g eP (by omega) (by omega), ef]
  have el' : pm1 s 0 4 = nI l := by rw [sG_0 eP (by omega), el]
  obtain ⟨a1, a2, a3, a4, a5⟩ := hd_all 40 t f l h el hl hf (Or.inl hl)
  obtain ⟨b1, b2, b3, b4, b5⟩ := hd_all 40 (pm1 s) f l hP el' hl hf (Or.inl hl)
  have hL := hd_loc 40 (pm1 s) t f l hP eP el' hl hf
  refine ⟨by rw [ef']; exact b2, by rw [ef]; exact a1, ?_, ?_, fun k hk => ?_, fun k hk => ?_⟩
  · unfold pm2 mnH
    rw [ef', ef, b3, sG_0 e (k := 0) (by omega), sG_g e (g := 1) (k := 4) (by omega) (by omega), sG_g e (g := 1) (k := 5) (by omega) (by omega)]
    exact sG_if Iff.rfl (fun _ => hL) (fun _ => sG_if Iff.rfl (fun _ => hL) (fun _ => eP))
  · unfold mnH
    rw [ef]
    split
    · exact a4
    · split
      · exact a4
      · exact h
  · unfold mnH
    rw [ef]
    split
    · exact a5 k hk
    · split
      · exact a5 k hk
      · rfl
  · unfold pm2
    rw [ef', b3]
    split
    · exact b5 k hk
    · split
      · exact b5 k hk
      · rfl
/-- the three machines -/
theorem m3_all {f : Nat} (h : mR n u 0 f c s t) (hu : u < 1440) : rnOK t 0 ∧ rnOK (rnS t 0) 1 ∧ rnOK (rnS (rnS t 0) 1) 2 ∧ pmMO n s 0 ∧ pmMO n (pmM s 0) 1 ∧ pmMO n (pmM (pmM s 0) 1) 2 ∧ mR n u 3 f (c + rnB t 0 + rnB (rnS t 0) 1 + rnB (rnS (rnS t 0) 1) 2) (pmM (pmM (pmM s 0) 1) 2) (rnS (rnS (rnS t 0) 1) 2) ∧ rnS (rnS (rnS t 0) 1) 2 0 3 = t 0 3 := by
  obtain ⟨a1, a2, a3, a4⟩ := mR_step h (m := 0) (by omega) hu
  obtain ⟨b1, b2, b3, b4⟩ := mR_step a3 (m := 1) (by omega) hu
  obtain ⟨c1, c2, c3, c4⟩ := mR_step b3 (m := 2) (by omega) hu
  exact ⟨a1, b1, c1, a2, b2, c2, c3, by rw [c4, b4, a4]⟩
/-- what a minute of the reference leaves -/
def PD (g k : Nat) : Prop := g = 1 ∨ g = 2 ∨ (11 ≤ g ∧ k < 4)
theorem kp_mo {P Q : Nat → Nat → Prop} (h : kp P s t) (q : ∀ g k, Q g k → P g k) : kp Q s t := fun g k z => h g k (q g k z)
theorem kp_m1 : kp PA (mn0 t) (mnH 40 (mn1 t)) := kp_tr (kp_tr (kp_tr (kp_rn (by omega)) (kp_rn (by omega))) (kp_rn (by omega))) kp_mh
theorem kp_mF0 : kp PA (mnH 40 (mn1 t)) (mnF t) := by
  unfold mnF
  exact kp_u2 (kp_u2 kp_rf (pa_o (by omega) (by omega) (by omega))) (pa_o (by omega) (by omega) (by omega))
theorem kp_mF : kp PA (mn0 t) (mnF t) := kp_tr kp_m1 kp_mF0
theorem mn_all (h : dI n u t) (e : sG n s t) (hc : s 0 3 = t 0 3) (hv : evI n u s) (hu : u < 1440) : mnOK t ∧ dI n (u + 1) (mnF t) ∧ kp PD t (mnF t) ∧ pmOK n s ∧ sG n (pmF s) (mnF t) ∧ pmF s 0 3 = mnF t 0 3 ∧ evI n (u + 1) (pmF s) := by
  have hn : n ≤ 40 := h.1.1.2.2.1
  obtain ⟨f, q1, q2, q3⟩ := pm_0 h e hv hu
  obtain ⟨a1, a2, a3, b1, b2, b3, r3, t3⟩ := m3_all q1 hu
  obtain ⟨j1, j2, j3, j4, j5⟩ := r3
  obtain ⟨g1, g2, g3, g4, g5, g6⟩ := hm_all j1 j2
  have hs := dI_sG h e
  obtain ⟨m1, m2⟩ := mn_0 h hu
  obtain ⟨c1, c2, c3, c4⟩ := cm_end h hu
  have t03 : mn1 t 0 3 = t 0 3 := by
    show rnS (rnS (rnS (mn0 t) 0) 1) 2 0 3 = t 0 3
    rw [t3, m2 0 3 (Or.inl (by omega))]
  have eF : mnF t = u2 (u2 (mnH 40 (mn1 t)) 0 3 (mnH 40 (mn1 t) 0 3 + mnC (mn1 t) (mnK t))) 0 0 (mnH 40 (mn1 t) 0 0 + 1) := by
    unfold mnF; dsimp only; rw [u2_ne (s := mnH 40 (mn1 t)) (show ¬ (0 = 0 ∧ 0 = 3) by omega)]
  have eC : pmF s = u2 (pm2 (pmM (pmM (pmM (pm0 s n) 0) 1) 2)) 0 0 (pm2 (pmM (pmM (pmM (pm0 s n) 0) 1) 2) 0 0 + 1) := by
    unfold pmF; rw [dI_n hs]
  have kD : kp PD t (mnF t) := kp_tr (kp_mo m2 (fun g k z => by rcases z with z | z | z; exact Or.inl (by omega); exact Or.inl (by omega); exact Or.inr z)) (kp_mo kp_mF (fun g k z => by rcases z with z | z | z; exact Or.inl z; exact Or.inr (Or.inl z); exact Or.inr (Or.inr ⟨z.1, Or.inl z.2⟩)))
  have sP : sG n (pmF s) (mnF t) := by
    rw [eC, eF]
    exact sG_u (sG_sy (sG_j (sG_sy g3) ⟨rfl, Or.inl rfl⟩)) (by rw [sG_0 g3 (by omega)]; rfl)
  have h00 : mnH 40 (mn1 t) 0 0 = nI u := g4.1.1.1
  refine ⟨⟨⟨n, hn, h.1.1.2.1, c1, dM_n c4, fun b hb => dM_n (lv_all c4 hu b hb), fun b hb => dM_r (lv_all c4 hu b (by omega)) hb⟩, a1, a2, a3, g2⟩, ?_, kD, ⟨hs.1.1.2.1, q3, b1, b2, b3, g1⟩, sP, ?_, ?_⟩
  · rw [eF]
    exact dM_dI g4 hu (by rw [h00, nI_1])
  · rw [eC, eF, u2_ne (by omega), u2_ne (by omega), u2_s, g6 3 (by omega), pm1_u, u2_s, j3, hc, stC_sG j2]
    have : mnH 40 (mn1 t) 0 3 = t 0 3 := by
      rw [show mnH 40 (mn1 t) 0 3 = mn1 t 0 3 from g5 3 (by omega), t03]
    rw [this]
    show t 0 3 + rnB (mn0 t) 0 + rnB (rnS (mn0 t) 0) 1 + rnB (rnS (rnS (mn0 t) 0) 1) 2 + stC (mn1 t) = t 0 3 + ((rnB (mn0 t) 0 + rnB (rnS (mn0 t) 0) 1 + rnB (rnS (rnS (mn0 t) 0) 1) 2) + stC (mn1 t))
    simp only [Int32.add_assoc]
  · have p0 : ∀ k, k ≠ 3 → k ≠ 4 → k ≠ 0 → pmF s 0 k = pmM (pmM (pmM (pm0 s n) 0) 1) 2 0 k := fun k x1 x2 x3 => by
      rw [eC, u2_ne (by omega), g6 k x2, pm1_u, u2_ne (by omega)]
    have pr : ∀ j, j < 3 → pmF s (3 + j) 3 = pmM (pmM (pmM (pm0 s n) 0) 1) 2 (3 + j) 3 := fun j hj => by
      have x1 : pmF s (3 + j) 3 = mnH 40 (mn1 t) (3 + j) 3 := by
        rw [sG_g sP (by omega) (by omega), eF, u2_ne (by omega), u2_ne (by omega)]
      have x2 : mnH 40 (mn1 t) (3 + j) 3 = mn1 t (3 + j) 3 := kp_mhP (P := fun g _ => 3 ≤ g ∧ g < 6) (fun g k q => by omega) _ _ ⟨by omega, by omega⟩
      rw [x1, x2, sG_g j2 (by omega) (by omega)]
      rfl
    have r3 : pmF s 3 3 = pmM (pmM (pmM (pm0 s n) 0) 1) 2 3 3 := pr 0 (by omega)
    have r4 : pmF s 4 3 = pmM (pmM (pmM (pm0 s n) 0) 1) 2 4 3 := pr 1 (by omega)
    have r5 : pmF s 5 3 = pmM (pmM (pmM (pm0 s n) 0) 1) 2 5 3 := pr 2 (by omega)
    refine ⟨by rw [p0 5 (by omega) (by omega) (by omega), r3, r4, r5]; exact j4, f, by rw [p0 6 (by omega) (by omega) (by omega)]; exact j5, evJ_mo q2 (fun b hb => ?_) (fun r hr => ?_)⟩
    · rw [sG_b sP hb (k := 3)]; exact kp_mF _ _ (Or.inr (Or.inr ⟨by omega, Or.inl (by omega)⟩))
    · rw [sG_g sP (by omega) (by omega)]; exact kp_mF _ _ (Or.inr (Or.inl rfl))
end MN
