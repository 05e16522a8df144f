/-! a minute: both sides -/
/-- the places of P hold in t what they hold in s -/
def kp (P : Nat → Nat → Prop) (s t : Sg) : Prop := ∀ g k, P g k → t g k = s g k
/-- what machines and hands leave as it is -/
def PA (g k : Nat) : Prop := g = 1 ∨ g = 2 ∨ (11 ≤ g ∧ (k < 4 ∨ k = 7 ∨ k = 8))
/-- what coming and going leave as it is -/
def PB (g k : Nat) : Prop := g < 6 ∨ (11 ≤ g ∧ k < 4)
section KQ
variable {s t w : Sg} {n u b m a : Nat} {P : Nat → Nat → Prop}
theorem kp_rf : kp P s s := fun _ _ _ => rfl
theorem kp_tr (h : kp P s t) (h2 : kp P t w) : kp P s w := fun g k q => (h2 g k q).trans (h g k q)
theorem kp_u2 {g k : Nat} {v : Int32} (h : kp P s t) (hP : ¬ P g k) : kp P s (u2 t g k v) := fun g' k' q => by
  rw [u2_ne (fun z => hP (by rw [← z.1, ← z.2]; exact q))]
  exact h g' k' q
theorem kp_if {c : Prop} [Decidable c] {x y : Sg} (h1 : kp P s x) (h2 : kp P s y) : kp P s (if c then x else y) := by
  split
  · exact h1
  · exact h2
theorem kp_dl {d : Int32} (h : kp P s t) (hP : ¬ P (11 + b) 9) : kp P s (dlF t b d) := kp_if (kp_u2 h hP) h
theorem kp_ms (h : kp P s t) (hP : ¬ P (11 + b) 8) : kp P s (msF t b) := kp_if h (kp_u2 h hP)
theorem kp_it {F : Nat → Sg → Sg} {k : Nat} (hF : ∀ b t, kp P s t → kp P s (F b t)) (h : kp P s t) : kp P s (itF F k t) := by
  induction k with
  | zero => exact h
  | succ k ih => exact hF k _ ih
theorem pb_6 {g k : Nat} (h1 : 6 ≤ g) (h2 : g < 11 ∨ 4 ≤ k) : ¬ PB g k := fun q => by rcases q with q | q <;> omega
theorem pa_o {g k : Nat} (h1 : g ≠ 1) (h2 : g ≠ 2) (h3 : g < 11 ∨ (4 ≤ k ∧ k ≠ 7 ∧ k ≠ 8)) : ¬ PA g k := fun q => by rcases q with q | q | q <;> omega
theorem kp_cm (hm : nN (t (11 + b) 0) < 4) : kp PB t (cmS b t) := by
  unfold cmS
  refine kp_if ?_ kp_rf
  unfold cmF
  dsimp only
  have h2 : kp PB t (u2 (u2 t (7 + nN (t (11 + b) 0)) (nN (t 6 (nN (t (11 + b) 0)))) (nI b)) 6 (nN (t (11 + b) 0)) (u2 t (7 + nN (t (11 + b) 0)) (nN (t 6 (nN (t (11 + b) 0)))) (nI b) 6 (nN (t (11 + b) 0)) + 1)) := kp_u2 (kp_u2 kp_rf (pb_6 (by omega) (by omega))) (pb_6 (by omega) (by omega))
  have h3 := fun c [Decidable c] => kp_if (c := c) h2 (kp_dl (d := 4) (b := b) h2 (pb_6 (by omega) (by omega)))
  exact kp_if (h3 _) (kp_ms (h3 _) (pb_6 (by omega) (by omega)))
theorem kp_lv : kp PB t (lvS b t) := by
  unfold lvS
  refine kp_if (kp_if kp_rf ?_) kp_rf
  unfold lvF
  exact kp_ms (kp_u2 (kp_u2 kp_rf (pb_6 (by omega) (by omega))) (pb_6 (by omega) (by omega))) (pb_6 (by omega) (by omega))
theorem kp_tk {q : Nat} (hm : m < 3) : kp PA t (tkF t m b q) := by
  unfold tkF
  dsimp only
  have h1 : kp PA t (u2 t 6 m (t 6 m - 1)) := kp_u2 kp_rf (pa_o (by omega) (by omega) (by omega))
  have h2 : kp PA t (itF (shS (7 + m)) q (u2 t 6 m (t 6 m - 1))) := kp_it (fun i w z => kp_u2 z (pa_o (by omega) (by omega) (by omega))) h1
  have h3 := kp_u2 (g := 3 + m) (k := 0) (v := nI b) h2 (pa_o (by omega) (by omega) (by omega))
  exact kp_u2 (kp_if h3 (kp_if h3 (kp_dl (kp_u2 (kp_u2 h3 (pa_o (by omega) (by omega) (by omega))) (pa_o (by omega) (by omega) (by omega))) (pa_o (by omega) (by omega) (by omega))))) (pa_o (by omega) (by omega) (by omega))
theorem kp_rj {q : Nat} {many : Int32} (h : kp PA s t) : kp PA s (rjF t b q many) := by
  unfold rjF
  refine kp_if h ?_
  dsimp only
  have h1 : kp PA s (if t (11 + b) 5 = 0 then u2 (u2 t 10 q (nI b)) 0 4 (u2 t 10 q (nI b) 0 4 + 1) else t) := kp_if (kp_u2 (kp_u2 h (pa_o (by omega) (by omega) (by omega))) (pa_o (by omega) (by omega) (by omega))) h
  exact kp_dl (kp_u2 (kp_u2 h1 (pa_o (by omega) (by omega) (by omega))) (pa_o (by omega) (by omega) (by omega))) (pa_o (by omega) (by omega) (by omega))
theorem kp_ed (h : kp PA s t) : kp PA s (edF t b) := kp_if (kp_if (kp_u2 h (pa_o (by omega) (by omega) (by omega))) h) h
theorem kp_so {q : Nat} (hm : m < 3) : kp PA t (soF t m b q) := by
  unfold soF
  dsimp only
  have h3 : ∀ v1 v2 v3, kp PA t (u2 (u2 (u2 t (3 + m) 3 v1) (11 + b) 4 v2) (11 + b) 6 v3) := fun v1 v2 v3 => kp_u2 (kp_u2 (kp_u2 kp_rf (pa_o (by omega) (by omega) (by omega))) (pa_o (by omega) (by omega) (by omega))) (pa_o (by omega) (by omega) (by omega))
  exact kp_if (kp_ed (kp_u2 (kp_rj (h3 _ _ _)) (pa_o (by omega) (by omega) (by omega)))) (kp_rj (h3 _ _ _))
theorem kp_rn (hm : m < 3) : kp PA t (rnS t m) := by
  have hB : kp PA t (rnT t m) := kp_if (kp_if kp_rf (kp_tk hm)) kp_rf
  refine kp_tr hB ?_
  unfold rnS
  refine kp_if kp_rf ?_
  unfold rnU
  dsimp only
  have hD : kp PA (rnT t m) (itF (dqS m) (nN (rnT t m 6 m)) (rnT t m)) := kp_it (fun i w z => kp_dl z (pa_o (by omega) (by omega) (by omega))) kp_rf
  exact kp_if (kp_tr hD (kp_so hm)) (kp_u2 hD (pa_o (by omega) (by omega) (by omega)))
theorem kp_hs {p : Int32 × Sg} (h : kp PA s p.2) : kp PA s (hdS p).2 := by
  unfold hdS
  dsimp only
  have h2 : ∀ v1 v2, kp PA s (u2 (u2 p.2 (11 + nN (p.2 10 0)) 5 v1) (11 + nN (p.2 10 0)) 6 v2) := fun v1 v2 => kp_u2 (kp_u2 h (pa_o (by omega) (by omega) (by omega))) (pa_o (by omega) (by omega) (by omega))
  exact kp_if (kp_ed (kp_it (fun i w z => kp_u2 z (pa_o (by omega) (by omega) (by omega))) (kp_u2 (h2 _ _) (pa_o (by omega) (by omega) (by omega))))) (h2 _ _)
theorem kp_hl : ∀ (k : Nat) (p : Int32 × Sg), kp PA s p.2 → kp PA s (hdL k p) := by
  intro k
  induction k with
  | zero => intro p h; exact h
  | succ k ih => intro p h; exact kp_if h (kp_if h (ih _ (kp_hs h)))
theorem kp_mh {k : Nat} : kp PA t (mnH k t) := kp_if (kp_hl k _ kp_rf) (kp_if (kp_hl k _ kp_rf) kp_rf)
end KQ
section MI
variable {s t w : Sg} {n u b m a e : Nat} {c : Int32}
/-- as machines run: s the class's, t the reference's -/
def mR (n u a e : Nat) (c : Int32) (s t : Sg) : Prop := dM n u a t ∧ sG n s t ∧ s 0 3 = c ∧ s 0 5 = s 3 3 + s 4 3 + s 5 3 ∧ s 0 6 = nI e
theorem mR_step (h : mR n u m e c s t) (hm : m < 3) (hu : u < 1440) : rnOK t m ∧ pmMO n s m ∧ mR n u (m + 1) e (c + rnB t m) (pmM s m) (rnS t m) ∧ rnS t m 0 3 = t 0 3 := by
  obtain ⟨h1, h2, h3, h4, h5⟩ := h
  have hs := dM_sG h1 h2
  obtain ⟨a1, a2, a3, a4, a5⟩ := mc_step h1 hm hu
  obtain ⟨b1, b2, b3, b4, b5⟩ := mc_step hs hm hu
  obtain ⟨c1, c2, c3, c4⟩ := b5 h4
  obtain ⟨d1, d2⟩ := rn_loc hs h2 hm
  exact ⟨a1, b2, ⟨a3, sG_tr c1 d1, by rw [c2, h3, d2], c3, by rw [c4, h5]⟩, a4⟩
/-- the next event: not before e, which is later than u -/
def evJ (n u e : Nat) (s : Sg) : Prop := u ≤ e ∧ e ≤ 1440 ∧ (∀ b, b < n → ∀ c, c < 1440 → s (11 + b) 3 = nI c → c < u ∨ e ≤ c) ∧ ∀ r, r < 8 → ∀ c, c < 1440 → s 2 r = nI c → c < u ∨ e ≤ c
def evI (n u : Nat) (s : Sg) : Prop := s 0 5 = s 3 3 + s 4 3 + s 5 3 ∧ ∃ e, s 0 6 = nI e ∧ evJ n u e s
theorem ne_b (h0 : s 0 0 = nI u) (hu : u < 1440) : ∀ k, (∀ b, b < k → ∃ c, c < 1440 ∧ s (11 + b) 3 = nI c) → ∃ e, neB s k = nI e ∧ u + 1 ≤ e ∧ e ≤ 1440 ∧ ∀ b, b < k → ∀ c, c < 1440 → s (11 + b) 3 = nI c → c < u + 1 ∨ e ≤ c := by
  intro k
  induction k with
  | zero => intro _; exact ⟨1440, rfl, by omega, by omega, fun b hb => by omega⟩
  | succ k ih =>
    intro hk
    obtain ⟨e, e1, e2, e3, e4⟩ := ih (fun b hb => hk b (by omega))
    obtain ⟨c, hc, ec⟩ := hk k (by omega)
    show ∃ e, (if s (11 + k) 3 ≤ s 0 0 then neB s k else if s (11 + k) 3 < neB s k then s (11 + k) 3 else neB s k) = nI e ∧ _
    rw [ec, h0, e1]
    have kle : (nI c ≤ nI u) = (c ≤ u) := nI_le_iff (by omega) (by omega)
    have klt : (nI c < nI e) = (c < e) := nI_lt_iff (by omega) (by omega)
    by_cases c1 : c ≤ u
    · rw [if_pos (kle.mpr c1)]
      refine ⟨e, rfl, e2, e3, fun b hb c' hc' q => ?_⟩
      by_cases hbk : b = k
      · subst hbk; rw [ec, nI_eq_iff (by omega) (by omega)] at q; omega
      · exact e4 b (by omega) c' hc' q
    · rw [if_neg (fun q => c1 (kle.mp q))]
      by_cases c2 : c < e
      · rw [if_pos (klt.mpr c2)]
        refine ⟨c, rfl, by omega, by omega, fun b hb c' hc' q => ?_⟩
        by_cases hbk : b = k
        · subst hbk; rw [ec, nI_eq_iff (by omega) (by omega)] at q; omega
        · have := e4 b (by omega) c' hc' q; omega
      · rw [if_neg (fun q => c2 (klt.mp q))]
        refine ⟨e, rfl, e2, e3, fun b hb c' hc' q => ?_⟩
        by_cases hbk : b = k
        · subst hbk; rw [ec, nI_eq_iff (by omega) (by omega)] at q; omega
        · exact e4 b (by omega) c' hc' q
theorem ne_c (h0 : s 0 0 = nI u) {e0 : Nat} (hu : u + 1 ≤ e0) (he : e0 ≤ 1440) : ∀ k, (∀ r, r < k → ∃ c, c < 1440 ∧ s 2 r = nI c) → ∃ e, neC s (nI e0) k = nI e ∧ u + 1 ≤ e ∧ e ≤ e0 ∧ ∀ r, r < k → ∀ c, c < 1440 → s 2 r = nI c → c < u + 1 ∨ e ≤ c := by
  intro k
  induction k with
  | zero => intro _; exact ⟨e0, rfl, hu, Nat.le_refl _, fun b hb => by omega⟩
  | succ k ih =>
    intro hk
    obtain ⟨e, e1, e2, e3, e4⟩ := ih (fun b hb => hk b (by omega))
    obtain ⟨c, hc, ec⟩ := hk k (by omega)
    show ∃ e, (if s 2 k ≤ s 0 0 then neC s (nI e0) k else if s 2 k < neC s (nI e0) k then s 2 k else neC s (nI e0) k) = nI e ∧ _
    rw [ec, h0, e1]
    have kle : (nI c ≤ nI u) = (c ≤ u) := nI_le_iff (by omega) (by omega)
    have klt : (nI c < nI e) = (c < e) := nI_lt_iff (by omega) (by omega)
    by_cases c1 : c ≤ u
    · rw [if_pos (kle.mpr c1)]
      refine ⟨e, rfl, e2, e3, fun b hb c' hc' q => ?_⟩
      by_cases hbk : b = k
      · subst hbk; rw [ec, nI_eq_iff (by omega) (by omega)] at q; omega
      · exact e4 b (by omega) c' hc' q
    · rw [if_neg (fun q => c1 (kle.mp q))]
      by_cases c2 : c < e
      · rw [if_pos (klt.mpr c2)]
        refine ⟨c, rfl, by omega, by omega, fun b hb c' hc' q => ?_⟩
        by_cases hbk : b = k
        · subst hbk; rw [ec, nI_eq_iff (by omega) (by omega)] at q; omega
        · have := e4 b (by omega) c' hc' q; omega
      · rw [if_neg (fun q => c2 (klt.mp q))]
        refine ⟨e, rfl, e2, e3, fun b hb c' hc' q => ?_⟩
        by_cases hbk : b = k
        · subst hbk; rw [ec, nI_eq_iff (by omega) (by omega)] at q; omega
        · exact e4 b (by omega) c' hc' q
theorem bt_3 {v : Nat} {f : Nat → Int32} (h : btI v f) : ∃ c, c < 1440 ∧ f 3 = nI c := by
  obtain ⟨m, p, r, c, w, hh, y, g, z, ⟨e0, e1, e2, e3, _⟩, ⟨k1, k2, k3, k4, k5, _⟩⟩ := h
  exact ⟨c, k5, e3⟩
theorem ne_f (h : dM n u a s) (hu : u < 1440) : ∃ e, neF s n = nI e ∧ evJ n (u + 1) e s := by
  obtain ⟨e, e1, e2, e3, e4⟩ := ne_b h.1.1.1 hu n (fun b hb => bt_3 (h.2.1 b hb))
  obtain ⟨f, f1, f2, f3, f4⟩ := ne_c (s := s) h.1.1.1 e2 e3 8 (fun r hr => h.1.2.2 r hr)
  refine ⟨f, ?_, f2, by omega, fun b hb c hc q => ?_, f4⟩
  · unfold neF; rw [e1, f1]
  · have := e4 b hb c hc q; omega
theorem evJ_mo {f : Nat} (h : evJ n u f s) (e1 : ∀ b, b < n → t (11 + b) 3 = s (11 + b) 3) (e2 : ∀ r, r < 8 → t 2 r = s 2 r) : evJ n u f t :=
  ⟨h.1, h.2.1, fun b hb c hc q => h.2.2.1 b hb c hc (by rw [← e1 b hb]; exact q), fun r hr c hc q => h.2.2.2 r hr c hc (by rw [← e2 r hr]; exact q)⟩
/-- a minute of the reference -/
theorem mn_0 (h : dI n u t) (hu : u < 1440) : dM n u 0 (mn0 t) ∧ kp PB t (mn0 t) := by
  have hn : nN (t 0 1) = n := by rw [h.1.1.2.1, nN_nI (by have := h.1.1.2.2.1; omega)]
  unfold mn0
  rw [hn]
  have h1 := (cm_end h hu).2.2.2
  refine ⟨lv_all h1 hu n (Nat.le_refl _), kp_tr ?_ (kp_it (fun b w z => kp_tr z kp_lv) kp_rf)⟩
  have : ∀ b, b ≤ n → kp PB t (itF cmS b t) := by
    intro b
    induction b with
    | zero => intro _; exact kp_rf
    | succ b ih =>
      intro hb
      refine kp_tr (ih (by omega)) (kp_cm ?_)
      obtain ⟨m, p, r, c, w, hh, y, g, z, ⟨e0, _⟩, ⟨k1, _⟩⟩ := (cm_all h hu b (by omega)).2.2.1 b (by omega)
      rw [e0, nN_nI (by omega)]; omega
  exact this n (Nat.le_refl _)
theorem dM_dI {x y : Int32} (h : dM n u 3 t) (hu : u < 1440) (e : y = nI (u + 1)) : dI n (u + 1) (u2 (u2 t 0 3 x) 0 0 y) := by
  obtain ⟨h1, h2, h3, h4, h5⟩ := h
  have g1 : ∀ g, g ≠ 0 → u2 (u2 t 0 3 x) 0 0 y g = t g := fun g hg => by rw [u2_g hg, u2_g hg]
  have hr : ∀ c, c < n → rmO (t (11 + c)) (u2 (u2 t 0 3 x) 0 0 y (11 + c)) := fun c _ => by rw [g1 _ (by omega)]; exact rm_rf
  refine ⟨⟨⟨by rw [u2_s, e], by rw [u2_ne (by omega), u2_ne (by omega)]; exact h1.1.2.1, h1.1.2.2.1, by omega⟩, fun i hi => by rw [g1 _ (by omega)]; exact h1.2.1 i hi, fun r hr => by rw [g1 _ (by omega)]; exact h1.2.2 r hr⟩, fun c hc => by rw [g1 _ (by omega)]; exact h2 c hc, fun m hm => qvE_mo ((h3 m hm).1 hm) (by rw [g1 _ (by omega)]) (g1 _ (by omega)) hr, fun m hm => ⟨mcI_mo (h4 m hm).1 (by rw [g1 _ (by omega)]) (by rw [g1 _ (by omega)]) hr, raI_mo (h4 m hm).2 (by rw [g1 _ (by omega)]) (by rw [if_pos hm]; omega)⟩, lnI_mo h5 (by rw [u2_ne (by omega), u2_ne (by omega)]) (g1 _ (by omega)) (fun c _ q => by rw [g1 _ (by omega)]; exact q)⟩
/-- the staff's minute, in pieces -/
theorem sh_bd (h : dM n u a t) : ∃ f, f ≤ 1000 ∧ t 1 2 * t 1 3 = nI f := by
  obtain ⟨x, hx, ex⟩ := bs_staff h.1
  obtain ⟨y, hy1, hy, ey⟩ := bs_hand h.1
  have : x * y ≤ 20 * 50 := Nat.mul_le_mul hx hy
  exact ⟨x * y, by omega, by rw [ex, ey, pk_mul]⟩
theorem ln_bd (h : dM n u a t) : ∃ l, l ≤ 40 ∧ t 0 4 = nI l := by
  obtain ⟨l, el, R⟩ := h.2.2.2.2
  have := rw_le h.1.1.2.2.1 R
  have := h.1.1.2.2.1
  exact ⟨l, by omega, el⟩
end MI
