/-! minutes pass: the class's way, with what it skips, and the reference's -/
section PS
variable {s t w : Sg} {n u b m a e : Nat} {c : Int32}
/-- the class's day s and the reference's day t, at the beginning of minute u -/
def rI (n u : Nat) (s t : Sg) : Prop := dI n u t ∧ sG n s t ∧ s 0 3 = t 0 3 ∧ evI n u s
theorem mn_t (h : dI n u t) (hu : u < 1440) : mnOK t ∧ dI n (u + 1) (mnF t) ∧ kp PD t (mnF t) := by
  have e : sG n (u2 (u2 t 0 5 (t 3 3 + t 4 3 + t 5 3)) 0 6 (nI u)) t := sG_j (sG_j sG_rf ⟨rfl, Or.inr (by omega)⟩) ⟨rfl, Or.inr (by omega)⟩
  obtain ⟨a1, a2, a3, _⟩ := mn_all h e (by rw [u2_ne (by omega), u2_ne (by omega)]) ⟨by rw [u2_ne (by omega), u2_s, u2_ne (by omega), u2_ne (by omega), u2_ne (by omega), u2_ne (by omega), u2_ne (by omega), u2_ne (by omega)], u, u2_s, Nat.le_refl _, by omega, fun b _ x _ _ => by omega, fun r _ x _ _ => by omega⟩ hu
  exact ⟨a1, a2, a3⟩
theorem dy_add (a : Nat) : ∀ k, dyN (dyN t a) k = dyN t (a + k) := by
  intro k
  induction k with
  | zero => rfl
  | succ k ih => exact congrArg mnF ih
theorem dy_all (h : dI n u t) : ∀ k, u + k ≤ 1440 → dI n (u + k) (dyN t k) ∧ (∀ j, j < k → mnOK (dyN t j)) ∧ kp PD t (dyN t k) := by
  intro k
  induction k with
  | zero => intro _; exact ⟨h, fun j hj => by omega, kp_rf⟩
  | succ k ih =>
    intro hk
    obtain ⟨i1, i2, i3⟩ := ih (by omega)
    obtain ⟨j1, j2, j3⟩ := mn_t i1 (by omega)
    refine ⟨j2, fun j hj => ?_, kp_tr i3 j3⟩
    by_cases c : j = k
    · rw [c]; exact j1
    · exact i2 j (by omega)
theorem dy_ok (h : dI n u t) : dyOK t := by
  have hu := h.1.1.2.2.2
  obtain ⟨a1, a2, a3⟩ := dy_all h (1440 - u) (by omega)
  exact ⟨u, n, hu, h.1.1.2.2.1, h.1.1.1, h.1.1.2.1, a2, a1.1.1.2.1⟩
/-- nothing is to do -/
def idS (t : Sg) : Prop := (∀ m, m < 3 → t (3 + m) 0 = -6 ∧ t 6 m = 0) ∧ t 0 4 = 0
theorem id_rn (h : idS t) (hm : m < 3) : rnS t m = t ∧ rnB t m = 0 := by
  obtain ⟨h1, h2⟩ := h.1 m hm
  have eT : rnT t m = t := by unfold rnT; rw [if_pos h1, h2, if_pos (by decide)]
  unfold rnS rnB
  rw [eT, if_pos h1, if_pos h1]
  exact ⟨rfl, rfl⟩
theorem id_mn (h : idS t) (h0 : mn0 t = t) : mnF t = u2 (u2 t 0 3 (t 0 3 + (if t 0 0 < t 1 4 then t 1 2 else 0))) 0 0 (t 0 0 + 1) := by
  obtain ⟨a1, a2⟩ := id_rn h (m := 0) (by omega)
  obtain ⟨b1, b2⟩ := id_rn h (m := 1) (by omega)
  obtain ⟨c1, c2⟩ := id_rn h (m := 2) (by omega)
  have e1 : mn1 t = t := by unfold mn1; rw [h0, a1, b1, c1]
  have eK : mnK t = 0 := by
    unfold mnK
    rw [h0, a1, b1, a2, b2, c2]; rfl
  have eL : ∀ p, hdL 40 (p, t) = t := fun p => by
    show (if p ≤ 0 then t else if t 0 4 ≤ 0 then t else _) = t
    split
    · rfl
    · rw [if_pos (by rw [h.2]; decide)]
  have eH : mnH 40 (mn1 t) = t := by
    unfold mnH
    rw [e1, eL, ite_self, ite_self]
  have eC : mnC (mn1 t) (mnK t) = if t 0 0 < t 1 4 then t 1 2 else 0 := by
    unfold mnC
    rw [e1, eK, Int32.zero_add]
    split
    · rfl
    · split
      · rw [if_pos (by rw [h.2]; decide)]
      · rfl
  unfold mnF
  dsimp only
  rw [eC, eH, u2_ne (s := t) (show ¬ (0 = 0 ∧ 0 = 3) by omega)]
theorem id_mo (h : idS t) {x y : Int32} : idS (u2 (u2 t 0 3 x) 0 0 y) :=
  ⟨fun m hm => ⟨by rw [u2_ne (by omega), u2_ne (by omega)]; exact (h.1 m hm).1, by rw [u2_ne (by omega), u2_ne (by omega)]; exact (h.1 m hm).2⟩, by rw [u2_ne (by omega), u2_ne (by omega)]; exact h.2⟩
/-- minutes in which nothing is to do -/
theorem id_dy (h : dI n u t) (hi : idS t) (he : evJ n u e t) {sh : Nat} (hs : t 1 4 = nI sh) (hs2 : sh ≤ 1440) : ∀ k, u + k ≤ e → dyN t k = u2 (u2 t 0 3 (t 0 3 + nI ((if sh < u + k then sh else u + k) - u) * t 1 2)) 0 0 (nI (u + k)) := by
  intro k
  induction k with
  | zero =>
    intro _
    rw [show (if sh < u + 0 then sh else u + 0) - u = 0 by split <;> omega, show nI 0 = 0 from rfl, Int32.zero_mul, Int32.add_zero, u2_id, Nat.add_zero]
    exact (u2_v h.1.1.1).symm
  | succ k ih =>
    intro hk
    have i1 := ih (by omega)
    have hd := (dy_all h k (by have := he.2.1; omega)).1
    have hpd := (dy_all h k (by have := he.2.1; omega)).2.2
    have hue := he.2.1
    have hev : evJ n (u + k) e (dyN t k) := evJ_mo (s := t) ⟨by omega, he.2.1, fun b hb x hx q => by have := he.2.2.1 b hb x hx q; omega, fun r hr x hx q => by have := he.2.2.2 r hr x hx q; omega⟩ (fun b hb => hpd _ _ (Or.inr (Or.inr ⟨by omega, by omega⟩))) (fun r _ => hpd _ _ (Or.inr (Or.inl rfl)))
    have h0 := mn0_no hd hev (by omega) (by omega)
    have hid : idS (dyN t k) := by rw [i1]; exact id_mo hi
    show mnF (dyN t k) = _
    rw [id_mn hid h0, i1]
    have klt : (nI (u + k) < nI sh) = (u + k < sh) := nI_lt_iff (by omega) (by omega)
    simp (disch := omega) only [u2_ne, u2_s, hs, nI_1, klt]
    rw [u2_sw (g := 0) (k := 0) (g' := 0) (k' := 3) (by omega), u2_u2, u2_u2]
    rw [show u + k + 1 = u + (k + 1) by omega, Int32.add_assoc]
    have ev : nI ((if sh < u + k then sh else u + k) - u) * t 1 2 + (if u + k < sh then t 1 2 else 0) = nI ((if sh < u + (k + 1) then sh else u + (k + 1)) - u) * t 1 2 := by
      by_cases c : u + k < sh
      · rw [if_pos c, if_neg (by omega), if_neg (by omega), show u + (k + 1) - u = u + k - u + 1 by omega, ← nI_1, Int32.add_mul, Int32.one_mul]
      · rw [if_neg c, Int32.add_zero, if_pos (show sh < u + (k + 1) by omega)]
        by_cases c2 : sh < u + k
        · rw [if_pos c2]
        · rw [if_neg c2, show u + k = sh by omega]
    rw [ev]
theorem id_of (h : sG n s t) (hi : idB s = true) (hq : ∀ m, m < 3 → ∃ q, t 6 m = nI q ∧ q ≤ 40) : idS t := by
  unfold idB at hi
  have hi := of_decide_eq_true hi
  obtain ⟨⟨⟨a1, a2⟩, ⟨b1, b2⟩, c1, c2⟩, d⟩ := hi
  have z : ∀ m, m < 3 → s 6 m ≤ 0 → t 6 m = 0 := fun m hm q => by
    obtain ⟨x, ex, hx⟩ := hq m hm
    rw [sG_g h (by omega) (by omega), ex] at q
    rw [ex, (z_l (by omega)).mp q]; rfl
  refine ⟨fun m hm => ?_, by rw [← sG_0 h (by omega)]; exact d⟩
  match m, hm with
  | 0, _ => exact ⟨by rw [← sG_g h (by omega) (by omega)]; exact a1, z 0 (by omega) a2⟩
  | 1, _ => exact ⟨by rw [← sG_g h (by omega) (by omega)]; exact b1, z 1 (by omega) b2⟩
  | 2, _ => exact ⟨by rw [← sG_g h (by omega) (by omega)]; exact c1, z 2 (by omega) c2⟩
/-- minutes are skipped -/
theorem sk_all (h : rI n u s t) (hi : idB s = true) (he : s 0 6 = nI e) (hev : evJ n u e s) {x : Nat} (hx : u ≤ x) (hxe : x ≤ e) : rI n x (skF s (nI x)) (dyN t (x - u)) := by
  obtain ⟨h1, h2, h3, h4⟩ := h
  have he40 := hev.2.1
  have hevt : evJ n u e t := evJ_mo hev (fun b hb => (sG_b h2 hb).symm) (fun r _ => (sG_g h2 (by omega) (by omega)).symm)
  have hid := id_of h2 hi (fun m hm => by
    obtain ⟨q, eq, R⟩ := h1.2.2.1 m hm
    have := rw_le h1.1.1.2.2.1 R
    have := h1.1.1.2.2.1
    exact ⟨q, eq, by omega⟩)
  obtain ⟨sh, hsh, esh⟩ := bs_shift h1.1
  have hdy := id_dy h1 hid hevt esh hsh (x - u) (by omega)
  rw [show u + (x - u) = x by omega] at hdy
  have hd := (dy_all h1 (x - u) (by omega)).1
  rw [show u + (x - u) = x by omega] at hd
  have ed : skF s (nI x) = u2 (u2 s 0 3 (s 0 3 + nI ((if sh < x then sh else x) - u) * s 1 2)) 0 0 (nI x) := by
    unfold skF
    dsimp only
    rw [sG_g h2 (g := 1) (k := 4) (by omega) (by omega), esh, sG_0 h2 (k := 0) (by omega), h1.1.1.1]
    have k1 : (nI sh < nI x) = (sh < x) := nI_lt_iff (by omega) (by omega)
    have e1 : (if nI sh < nI x then nI sh else nI x) = nI (if sh < x then sh else x) := by
      by_cases c : sh < x
      · rw [if_pos (k1.mpr c), if_pos c]
      · rw [if_neg (fun q => c (k1.mp q)), if_neg c]
    rw [e1]
    have e2 : (if nI (if sh < x then sh else x) - nI u < 0 then (0 : Int32) else nI (if sh < x then sh else x) - nI u) = nI ((if sh < x then sh else x) - u) := by
      generalize hz : (if sh < x then sh else x) = z
      have hz2 : z ≤ 1440 := by rw [← hz]; split <;> omega
      by_cases c : z < u
      · rw [if_pos (pk_sneg (by omega) c), show z - u = 0 by omega]; rfl
      · rw [pk_sub (by omega), if_neg (nI_pos (by omega))]
    rw [e2]
  rw [hdy] at hd ⊢
  rw [ed]
  refine ⟨hd, ?_, ?_, ?_, e, by rw [u2_ne (by omega), u2_ne (by omega)]; exact he, hxe, he40, fun b hb z hz q => ?_, fun r hr z hz q => ?_⟩
  · exact sG_u (sG_j (sG_sy (sG_j (sG_sy h2) ⟨rfl, Or.inl rfl⟩)) ⟨rfl, Or.inl rfl⟩) rfl
  · rw [u2_ne (by omega), u2_s, u2_ne (by omega), u2_s, h3, sG_g h2 (g := 1) (by omega) (by omega)]
  · simp (disch := omega) only [u2_ne]
    exact h4.1
  · rw [u2_ne (by omega), u2_ne (by omega)] at q
    have := hev.2.2.1 b hb z hz q; omega
  · rw [u2_ne (by omega), u2_ne (by omega)] at q
    have := hev.2.2.2 r hr z hz q; omega
theorem mn_rI (h : rI n u s t) (hu : u < 1440) : pmOK n s ∧ rI n (u + 1) (pmF s) (mnF t) := by
  obtain ⟨h1, h2, h3, h4⟩ := h
  obtain ⟨a1, a2, a3, a4, a5, a6, a7⟩ := mn_all h1 h2 h3 h4 hu
  exact ⟨a4, a2, a5, a6, a7⟩
theorem lp_all {E : Nat} (hE : E ≤ 1440) : ∀ (f u : Nat) (s t : Sg), rI n u s t → u ≤ E → E - u ≤ f → lpOK n (nI E) f s ∧ rI n E (lpF (nI E) f s) (dyN t (E - u)) := by
  intro f
  induction f with
  | zero =>
    intro u s t h h1 h2
    have : u = E := by omega
    subst this
    refine ⟨trivial, ?_⟩
    rw [Nat.sub_self]; exact h
  | succ f ih =>
    intro u s t h h1 h2
    have h00 : s 0 0 = nI u := (sG_0 h.2.1 (by omega)).trans h.1.1.1.1
    have kle : (nI E ≤ nI u) = (E ≤ u) := nI_le_iff (by omega) (by omega)
    by_cases c1 : E ≤ u
    · have : u = E := by omega
      subst this
      refine ⟨Or.inl (by rw [h00]; exact Int32.le_refl _), ?_⟩
      show rI n u (if nI u ≤ s 0 0 then s else _) _
      rw [h00, if_pos (Int32.le_refl _), Nat.sub_self]; exact h
    · have n1 : ¬ nI E ≤ s 0 0 := by rw [h00]; exact fun q => c1 (kle.mp q)
      have eL : lpF (nI E) (f + 1) s = lpF (nI E) f (lpS (nI E) s) := if_neg n1
      obtain ⟨v5, e, v6, hev⟩ := h.2.2.2
      have he40 := hev.2.1
      have klt : (nI u < nI e) = (u < e) := nI_lt_iff (by omega) (by omega)
      have kee : (nI E < nI e) = (E < e) := nI_lt_iff (by omega) (by omega)
      rw [eL]
      by_cases c2 : s 0 0 < s 0 6 ∧ idB s = true
      · have eS : lpS (nI E) s = skF s (nI (if E < e then E else e)) := by
          unfold lpS
          rw [if_pos c2, v6]
          by_cases c3 : E < e
          · rw [if_pos (kee.mpr c3), if_pos c3]
          · rw [if_neg (fun q => c3 (kee.mp q)), if_neg c3]
        have hue : u < e := by
          have := c2.1
          rw [h00, v6] at this
          exact klt.mp this
        obtain ⟨x, hx⟩ : ∃ x, x = if E < e then E else e := ⟨_, rfl⟩
        have x1 : u < x := by rw [hx]; split <;> omega
        have x2 : x ≤ e := by rw [hx]; split <;> omega
        have x3 : x ≤ E := by rw [hx]; split <;> omega
        rw [← hx] at eS
        have hk := sk_all h c2.2 v6 hev (by omega) x2
        obtain ⟨i1, i2⟩ := ih x _ _ hk x3 (by omega)
        rw [eS]
        rw [dy_add, show x - u + (E - x) = E - u by omega] at i2
        refine ⟨Or.inr ⟨Or.inl c2, ?_⟩, i2⟩
        rw [eS]; exact i1
      · have eS : lpS (nI E) s = pmF s := if_neg c2
        obtain ⟨p1, p2⟩ := mn_rI h (by omega)
        obtain ⟨i1, i2⟩ := ih (u + 1) _ _ p2 (by omega) (by omega)
        rw [eS]
        have : dyN (mnF t) (E - (u + 1)) = dyN t (E - u) := by
          have := dy_add (t := t) 1 (E - (u + 1))
          rw [show 1 + (E - (u + 1)) = E - u by omega] at this
          exact this
        rw [this] at i2
        refine ⟨Or.inr ⟨Or.inr p1, ?_⟩, i2⟩
        rw [eS]; exact i1
end PS
