/-! rows of different batches; what is kept from minute to minute -/
theorem pig : ∀ (n l : Nat) (f : Nat → Nat), (∀ i, i < l → f i < n) → (∀ i j, i < l → j < l → f i = f j → i = j) → l ≤ n := by
  intro n
  induction n with
  | zero =>
    intro l f h _
    by_cases hl : l = 0
    · omega
    · have := h 0 (by omega)
      omega
  | succ n ih =>
    intro l f h hi
    by_cases hl : l = 0
    · omega
    · by_cases hx : ∃ i, i < l ∧ f i = n
      · obtain ⟨i, hil, hfi⟩ := hx
        have := ih (l - 1) (fun j => if j = i then f (l - 1) else f j) (fun j hj => by
          by_cases hji : j = i
          · rw [if_pos hji]
            have h1 := h (l - 1) (by omega)
            have h2 : f (l - 1) ≠ n := fun q => by
              have := hi (l - 1) i (by omega) hil (q.trans hfi.symm)
              omega
            omega
          · rw [if_neg hji]
            have h1 := h j (by omega)
            have h2 : f j ≠ n := fun q => hji (hi j i (by omega) hil (q.trans hfi.symm))
            omega) (fun a b ha hb => by
          by_cases h1 : a = i
          · by_cases h2 : b = i
            · intro _; omega
            · rw [if_pos h1, if_neg h2]; intro q; have := hi _ _ (by omega) (by omega) q; omega
          · by_cases h2 : b = i
            · rw [if_neg h1, if_pos h2]; intro q; have := hi _ _ (by omega) (by omega) q; omega
            · rw [if_neg h1, if_neg h2]; intro q; exact hi _ _ (by omega) (by omega) q)
        omega
      · have := ih l f (fun j hj => by
          have h1 := h j hj
          have h2 : f j ≠ n := fun q => hx ⟨j, hj, q⟩
          omega) hi
        omega
def rwI (n l : Nat) (f : Nat → Int32) (P : Nat → Nat → Prop) : Prop := (∀ i, i < l → ∃ c, c < n ∧ f i = nI c ∧ P i c) ∧ ∀ i j, i < l → j < l → f i = f j → i = j
section RW
variable {n l : Nat} {f f' : Nat → Int32} {P Q : Nat → Nat → Prop}
theorem rw_le (hn : n ≤ 40) (h : rwI n l f P) : l ≤ n := by
  refine pig n l (fun i => nN (f i)) (fun i hi => ?_) (fun i j hi hj e => ?_)
  · obtain ⟨c, hc, e, _⟩ := h.1 i hi
    show nN (f i) < n
    rw [e, nN_nI (by omega)]; exact hc
  · obtain ⟨c, hc, e1, _⟩ := h.1 i hi
    obtain ⟨c', hc', e2, _⟩ := h.1 j hj
    rw [e1, e2, nN_nI (by omega), nN_nI (by omega)] at e
    exact h.2 i j hi hj (by rw [e1, e2, e])
theorem rw_app {b : Nat} (h : rwI n l f P) (hb : b < n) (hne : ∀ i, i < l → f i ≠ nI b) (hP : Q l b) (hm : ∀ i c, i < l → c < n → f i = nI c → P i c → Q i c) : rwI n (l + 1) (up f l (nI b)) Q := by
  refine ⟨fun i hi => ?_, fun i j hi hj e => ?_⟩
  · by_cases hl : i = l
    · subst hl
      exact ⟨b, hb, if_pos rfl, hP⟩
    · obtain ⟨c, hc, e, q⟩ := h.1 i (by omega)
      exact ⟨c, hc, (if_neg hl).trans e, hm i c (by omega) hc e q⟩
  · unfold up at e
    by_cases h1 : i = l
    · by_cases h2 : j = l
      · omega
      · rw [if_pos h1, if_neg h2] at e
        exact absurd e.symm (hne j (by omega))
    · by_cases h2 : j = l
      · rw [if_neg h1, if_pos h2] at e
        exact absurd e (hne i (by omega))
      · rw [if_neg h1, if_neg h2] at e
        exact h.2 i j (by omega) (by omega) e
theorem rw_lt {b : Nat} (hn : n ≤ 40) (h : rwI n l f P) (hb : b < n) (hne : ∀ i, i < l → f i ≠ nI b) : l < n := by
  have := rw_le hn (rw_app (Q := fun _ _ => True) h hb hne trivial (fun _ _ _ _ _ _ => trivial))
  omega
theorem rw_cut (h : rwI n (l + 1) f P) (hf : ∀ i, i < l → f' i = f (i + 1)) (hm : ∀ i c, i < l → c < n → f (i + 1) = nI c → f (i + 1) ≠ f 0 → P (i + 1) c → Q i c) : rwI n l f' Q := by
  refine ⟨fun i hi => ?_, fun i j hi hj e => ?_⟩
  · obtain ⟨c, hc, e, q⟩ := h.1 (i + 1) (by omega)
    refine ⟨c, hc, (hf i hi).trans e, hm i c hi hc e (fun q2 => ?_) q⟩
    have := h.2 (i + 1) 0 (by omega) (by omega) q2
    omega
  · rw [hf i hi, hf j hj] at e
    have := h.2 (i + 1) (j + 1) (by omega) (by omega) e
    omega
theorem rw_mo (h : rwI n l f P) (hf : ∀ i, i < l → f' i = f i) (hm : ∀ i c, i < l → c < n → f i = nI c → P i c → Q i c) : rwI n l f' Q := by
  refine ⟨fun i hi => ?_, fun i j hi hj e => ?_⟩
  · obtain ⟨c, hc, e, q⟩ := h.1 i hi
    exact ⟨c, hc, (hf i hi).trans e, hm i c hi hc e q⟩
  · rw [hf i hi, hf j hj] at e
    exact h.2 i j hi hj e
end RW
/-! a batch -/
def btE (f : Nat → Int32) (m p r c w h y g z : Nat) : Prop := f 0 = nI m ∧ f 1 = nI p ∧ f 2 = nI r ∧ f 3 = nI c ∧ f 4 = nI w ∧ f 5 = nI h ∧ f 6 = nI y ∧ f 7 = nI g ∧ f 8 = nI z
def btK (u m p r c w h y g z : Nat) : Prop := m < 3 ∧ 1 ≤ p ∧ p ≤ 999 ∧ r < 8 ∧ c < 1440 ∧ w + h + y + g = p ∧ z ≤ p ∧ (u ≤ c → g = 0 ∧ z = 0)
def btI (u : Nat) (f : Nat → Int32) : Prop := ∃ m p r c w h y g z, btE f m p r c w h y g z ∧ btK u m p r c w h y g z
theorem bt_mo {u v : Nat} {f : Nat → Int32} (h : btI u f) (huv : u ≤ v) : btI v f := by
  obtain ⟨m, p, r, c, w, h, y, g, z, E, k1, k2, k3, k4, k5, k6, k7, k8⟩ := h
  exact ⟨m, p, r, c, w, h, y, g, z, E, k1, k2, k3, k4, k5, k6, k7, fun q => k8 (by omega)⟩
/-! a day: base, queues, machines, the line -/
def bsI (n u : Nat) (t : Sg) : Prop := (t 0 0 = nI u ∧ t 0 1 = nI n ∧ n ≤ 40 ∧ u ≤ 1440) ∧ (∀ i, i < 9 → isF (nI i) (t 1 i) = true) ∧ ∀ r, r < 8 → ∃ c, c < 1440 ∧ t 2 r = nI c
theorem st_of {i : Nat} {x : Int32} (hi : i < 9) (h : isF (nI i) x = true) : ∃ v, x = nI v ∧ nI v = x ∧ loV i ≤ x ∧ x ≤ hiV i ∧ v ≤ 1440 := by
  rw [isF_at hi] at h
  have h1440 : hiV i ≤ 1440 := by
    match i, hi with
    | 0, _ | 1, _ | 2, _ | 3, _ | 4, _ | 5, _ | 6, _ | 7, _ | 8, _ => decide
  have h0 : 0 ≤ loV i := by
    match i, hi with
    | 0, _ | 1, _ | 2, _ | 3, _ | 4, _ | 5, _ | 6, _ | 7, _ | 8, _ => decide
  obtain ⟨v, hv, e⟩ := nI_bt (x := x) (n := 1440) (by omega) (Int32.le_trans h0 h.1) (Int32.le_trans h.2 h1440)
  exact ⟨v, e, e.symm, h.1, h.2, hv⟩
theorem st_le {i N : Nat} {x : Int32} (hi : i < 9) (h : isF (nI i) x = true) (hN : hiV i = nI N) (hN2 : N ≤ 1440) : ∃ v, v ≤ N ∧ x = nI v := by
  obtain ⟨v, e, _, _, h2, h3⟩ := st_of hi h
  rw [hN, e, nI_le_iff (by omega) (by omega)] at h2
  exact ⟨v, h2, e⟩
theorem st_ge {i N : Nat} {x : Int32} (hi : i < 9) (h : isF (nI i) x = true) (hN : hiV i = nI N) (hN2 : N ≤ 1440) (hL : loV i = nI 1) : ∃ v, 1 ≤ v ∧ v ≤ N ∧ x = nI v := by
  obtain ⟨v, e, _, h1, h2, h3⟩ := st_of hi h
  rw [hN, e, nI_le_iff (by omega) (by omega)] at h2
  rw [hL, e, nI_le_iff (by omega) (by omega)] at h1
  exact ⟨v, h1, h2, e⟩
section BS
variable {n u : Nat} {t t' : Sg}
theorem bs_mo (h : bsI n u t) (h0 : t' 0 0 = t 0 0) (h1 : t' 0 1 = t 0 1) (h2 : ∀ i, i < 9 → t' 1 i = t 1 i) (h3 : ∀ r, r < 8 → t' 2 r = t 2 r) : bsI n u t' :=
  ⟨⟨h0.trans h.1.1, h1.trans h.1.2.1, h.1.2.2⟩, fun i hi => by rw [h2 i hi]; exact h.2.1 i hi, fun r hr => by rw [h3 r hr]; exact h.2.2 r hr⟩
theorem bs_setup (h : bsI n u t) : ∃ v, v ≤ 30 ∧ t 1 0 = nI v := st_le (by omega) (h.2.1 0 (by omega)) rfl (by omega)
theorem bs_rej (h : bsI n u t) : ∃ v, v ≤ 500 ∧ t 1 1 = nI v := st_le (by omega) (h.2.1 1 (by omega)) rfl (by omega)
theorem bs_staff (h : bsI n u t) : ∃ v, v ≤ 20 ∧ t 1 2 = nI v := st_le (by omega) (h.2.1 2 (by omega)) rfl (by omega)
theorem bs_hand (h : bsI n u t) : ∃ v, 1 ≤ v ∧ v ≤ 50 ∧ t 1 3 = nI v := st_ge (by omega) (h.2.1 3 (by omega)) rfl (by omega) rfl
theorem bs_shift (h : bsI n u t) : ∃ v, v ≤ 1440 ∧ t 1 4 = nI v := st_le (by omega) (h.2.1 4 (by omega)) rfl (by omega)
theorem bs_speed (h : bsI n u t) {m : Nat} (hm : m < 3) : ∃ v, 1 ≤ v ∧ v ≤ 100 ∧ t 1 (6 + m) = nI v := by
  match m, hm with
  | 0, _ => exact st_ge (i := 6) (by omega) (h.2.1 6 (by omega)) rfl (by omega) rfl
  | 1, _ => exact st_ge (i := 7) (by omega) (h.2.1 7 (by omega)) rfl (by omega) rfl
  | 2, _ => exact st_ge (i := 8) (by omega) (h.2.1 8 (by omega)) rfl (by omega) rfl
end BS
/-- a batch that came before minute u and has a delay -/
def qoP (u : Nat) (f : Nat → Int32) : Prop := (∃ z, z < u ∧ f 3 = nI z) ∧ f 9 ≠ 0
/-- a queue in minute u, as batches before the b-th have come: first those of before, then those of this minute -/
def quI (n u b : Nat) (t : Sg) (m : Nat) : Prop := ∃ q p, p ≤ q ∧ t 6 m = nI q ∧ rwI n q (t (7 + m)) (fun i c => (i < p → qoP u (t (11 + c))) ∧ (p ≤ i → c < b ∧ t (11 + c) 3 = nI u))
/-- a queue at the beginning of minute u -/
def qvE (n u : Nat) (t : Sg) (m : Nat) : Prop := ∃ q, t 6 m = nI q ∧ rwI n q (t (7 + m)) (fun _ c => qoP u (t (11 + c)))
def mcI (n : Nat) (t : Sg) (m : Nat) : Prop := ∃ y, y ≤ 30 ∧ t (3 + m) 1 = nI y ∧ ((t (3 + m) 0 = -6 ∧ y = 0) ∨ ∃ b, b < n ∧ t (3 + m) 0 = nI b ∧ (y = 0 ∨ t (11 + b) 9 ≠ 0))
def raI (t : Sg) (m N : Nat) : Prop := ∃ x, x ≤ N ∧ t (3 + m) 3 = nI x
def lnI (n : Nat) (t : Sg) : Prop := ∃ l, t 0 4 = nI l ∧ rwI n l (t 10) (fun _ c => t (11 + c) 5 ≠ 0)
def rmO (f f' : Nat → Int32) : Prop := f' 3 = f 3 ∧ (f 9 ≠ 0 → f' 9 ≠ 0)
section KP
variable {n u b m a : Nat} {t t' : Sg}
theorem rm_rf {f : Nat → Int32} : rmO f f := ⟨rfl, fun h => h⟩
theorem qo_mo {f f' : Nat → Int32} (h : qoP u f) (hr : rmO f f') : qoP u f' := by
  obtain ⟨⟨z, hz, e⟩, h2⟩ := h
  exact ⟨⟨z, hz, hr.1.trans e⟩, hr.2 h2⟩
theorem qo_le {f : Nat → Int32} {v : Nat} (h : qoP u f) (huv : u ≤ v) : qoP v f := by
  obtain ⟨⟨z, hz, e⟩, h2⟩ := h
  exact ⟨⟨z, by omega, e⟩, h2⟩
theorem quI_mo (h : quI n u b t m) (h6 : t' 6 m = t 6 m) (h7 : t' (7 + m) = t (7 + m)) (hr : ∀ c, c < n → rmO (t (11 + c)) (t' (11 + c))) : quI n u b t' m := by
  obtain ⟨q, p, hp, e, R⟩ := h
  refine ⟨q, p, hp, h6.trans e, rw_mo R (fun i _ => by rw [h7]) (fun i c _ hc _ q => ⟨fun z => qo_mo (q.1 z) (hr c hc), fun z => ⟨(q.2 z).1, (hr c hc).1.trans (q.2 z).2⟩⟩)⟩
theorem qvE_mo (h : qvE n u t m) (h6 : t' 6 m = t 6 m) (h7 : t' (7 + m) = t (7 + m)) (hr : ∀ c, c < n → rmO (t (11 + c)) (t' (11 + c))) : qvE n u t' m := by
  obtain ⟨q, e, R⟩ := h
  exact ⟨q, h6.trans e, rw_mo R (fun i _ => by rw [h7]) (fun i c _ hc _ q => qo_mo q (hr c hc))⟩
theorem qvE_I (h : qvE n u t m) : quI n u b t m := by
  obtain ⟨q, e, R⟩ := h
  exact ⟨q, q, Nat.le_refl _, e, rw_mo R (fun i _ => rfl) (fun i c hi hc _ z => ⟨fun _ => z, fun w => absurd hi (by omega)⟩)⟩
theorem quI_b {b' : Nat} (h : quI n u b t m) (hb : b ≤ b') : quI n u b' t m := by
  obtain ⟨q, p, hp, e, R⟩ := h
  exact ⟨q, p, hp, e, rw_mo R (fun i _ => rfl) (fun i c _ hc _ q => ⟨q.1, fun z => ⟨by have := (q.2 z).1; omega, (q.2 z).2⟩⟩)⟩
theorem mcI_mo (h : mcI n t m) (h0 : t' (3 + m) 0 = t (3 + m) 0) (h1 : t' (3 + m) 1 = t (3 + m) 1) (hr : ∀ c, c < n → rmO (t (11 + c)) (t' (11 + c))) : mcI n t' m := by
  obtain ⟨y, hy, e, h⟩ := h
  refine ⟨y, hy, h1.trans e, ?_⟩
  rcases h with ⟨a, b⟩ | ⟨b, hb, e0, h⟩
  · exact Or.inl ⟨h0.trans a, b⟩
  · refine Or.inr ⟨b, hb, h0.trans e0, ?_⟩
    rcases h with h | h
    · exact Or.inl h
    · exact Or.inr ((hr b hb).2 h)
theorem raI_mo {N N' : Nat} (h : raI t m N) (h0 : t' (3 + m) 3 = t (3 + m) 3) (hN : N ≤ N') : raI t' m N' := by
  obtain ⟨x, hx, e⟩ := h
  exact ⟨x, by omega, h0.trans e⟩
theorem lnI_mo (h : lnI n t) (h0 : t' 0 4 = t 0 4) (h1 : t' 10 = t 10) (h5 : ∀ c, c < n → t (11 + c) 5 ≠ 0 → t' (11 + c) 5 ≠ 0) : lnI n t' := by
  obtain ⟨l, e, R⟩ := h
  exact ⟨l, h0.trans e, rw_mo R (fun i _ => by rw [h1]) (fun i c _ hc _ q => h5 c hc q)⟩
/-- the day at the beginning of minute u, with n batches -/
def dI (n u : Nat) (t : Sg) : Prop := bsI n u t ∧ (∀ c, c < n → btI u (t (11 + c))) ∧ (∀ m, m < 3 → qvE n u t m) ∧ (∀ m, m < 3 → mcI n t m ∧ raI t m (100 * u)) ∧ lnI n t
/-- as batches before the b-th have come -/
def cI (n u b : Nat) (t : Sg) : Prop := bsI n u t ∧ (∀ c, c < n → btI (if c < b then u + 1 else u) (t (11 + c))) ∧ (∀ m, m < 3 → quI n u b t m) ∧ (∀ m, m < 3 → mcI n t m ∧ raI t m (100 * u)) ∧ lnI n t
/-- within minute u, as the machines before the a-th have run -/
def dM (n u a : Nat) (t : Sg) : Prop := bsI n u t ∧ (∀ c, c < n → btI (u + 1) (t (11 + c))) ∧ (∀ m, m < 3 → (m < a → qvE n (u + 1) t m) ∧ (a ≤ m → quI n u n t m)) ∧ (∀ m, m < 3 → mcI n t m ∧ raI t m (100 * u + if m < a then 100 else 0)) ∧ lnI n t
theorem dI_c (h : dI n u t) : cI n u 0 t := ⟨h.1, fun c hc => by rw [if_neg (by omega)]; exact h.2.1 c hc, fun m hm => qvE_I (h.2.2.1 m hm), h.2.2.2⟩
theorem cI_M (h : cI n u n t) : dM n u 0 t := ⟨h.1, fun c hc => by have := h.2.1 c hc; rw [if_pos hc] at this; exact this, fun m hm => ⟨fun q => absurd q (by omega), fun _ => h.2.2.1 m hm⟩, fun m hm => ⟨(h.2.2.2.1 m hm).1, raI_mo (h.2.2.2.1 m hm).2 rfl (by omega)⟩, h.2.2.2.2⟩
/-- only batches change -/
theorem dM_row (h : dM n u a t) (hg : ∀ g, g < 11 → t' g = t g) (hr : ∀ c, c < n → rmO (t (11 + c)) (t' (11 + c)) ∧ (t (11 + c) 5 ≠ 0 → t' (11 + c) 5 ≠ 0) ∧ btI (u + 1) (t' (11 + c))) : dM n u a t' := by
  obtain ⟨h1, h2, h3, h4, h5⟩ := h
  have hm : ∀ c, c < n → rmO (t (11 + c)) (t' (11 + c)) := fun c hc => (hr c hc).1
  refine ⟨bs_mo h1 (by rw [hg 0 (by omega)]) (by rw [hg 0 (by omega)]) (fun i _ => by rw [hg 1 (by omega)]) (fun i _ => by rw [hg 2 (by omega)]), fun c hc => (hr c hc).2.2, fun m h => ?_, fun m h => ?_, lnI_mo h5 (by rw [hg 0 (by omega)]) (hg 10 (by omega)) (fun c hc => (hr c hc).2.1)⟩
  · exact ⟨fun q => qvE_mo ((h3 m h).1 q) (by rw [hg 6 (by omega)]) (hg _ (by omega)) hm, fun q => quI_mo ((h3 m h).2 q) (by rw [hg 6 (by omega)]) (hg _ (by omega)) hm⟩
  · exact ⟨mcI_mo (h4 m h).1 (by rw [hg (3 + m) (by omega)]) (by rw [hg (3 + m) (by omega)]) hm, raI_mo (h4 m h).2 (by rw [hg (3 + m) (by omega)]) (Nat.le_refl _)⟩
end KP
