/-! changes of a day, both sides -/
section CH
variable {s t s0 : Sg} {n u : Nat}
theorem dI_fr {t' : Sg} (h : dI n u t) (hg : ∀ g, g ≠ 1 → g ≠ 2 → t' g = t g) (h1 : ∀ i, i < 9 → isF (nI i) (t' 1 i) = true) (h2 : ∀ r, r < 8 → ∃ c, c < 1440 ∧ t' 2 r = nI c) : dI n u t' := by
  obtain ⟨a1, a2, a3, a4, a5⟩ := h
  have hr : ∀ c, c < n → rmO (t (11 + c)) (t' (11 + c)) := fun c _ => by rw [hg _ (by omega) (by omega)]; exact rm_rf
  exact ⟨⟨⟨by rw [hg 0 (by omega) (by omega)]; exact a1.1.1, by rw [hg 0 (by omega) (by omega)]; exact a1.1.2.1, a1.1.2.2⟩, h1, h2⟩, fun c hc => by rw [hg _ (by omega) (by omega)]; exact a2 c hc, fun m hm => qvE_mo (a3 m hm) (by rw [hg 6 (by omega) (by omega)]) (hg _ (by omega) (by omega)) hr, fun m hm => ⟨mcI_mo (a4 m hm).1 (by rw [hg _ (by omega) (by omega)]) (by rw [hg _ (by omega) (by omega)]) hr, raI_mo (a4 m hm).2 (by rw [hg _ (by omega) (by omega)]) (Nat.le_refl _)⟩, lnI_mo a5 (by rw [hg 0 (by omega) (by omega)]) (hg 10 (by omega) (by omega)) (fun c _ q => by rw [hg _ (by omega) (by omega)]; exact q)⟩
theorem rI_set {j : Nat} {v : Int32} (h : rI n u s t) (hv : isF (nI j) v = true) : rI n u (u2 s 1 j v) (u2 t 1 j v) := by
  obtain ⟨a1, a2, a3, a4, e, a5, a6⟩ := h
  refine ⟨dI_fr a1 (fun g g1 _ => u2_g g1) (fun i hi => ?_) (fun r hr => by rw [u2_ne (by omega)]; exact a1.1.2.2 r hr), sG_u a2 rfl, by rw [u2_ne (by omega), u2_ne (by omega)]; exact a3, by simp (disch := omega) only [u2_ne]; exact a4, e, by rw [u2_ne (by omega)]; exact a5, evJ_mo a6 (fun b _ => u2_ne (by omega)) (fun r _ => u2_ne (by omega))⟩
  rw [u2_at]
  split
  · rename_i q; rw [q.2]; exact hv
  · exact a1.1.2.1 i hi
theorem evJ_u : (hu : u ≤ 1440) → evJ n u u s := fun hu => ⟨Nat.le_refl _, hu, fun b _ x _ _ => by omega, fun r _ x _ _ => by omega⟩
theorem rI_cut {r c : Nat} (h : rI n u s t) (hc : c < 1440) : rI n u (u2 (u2 s 2 r (nI c)) 0 6 (s 0 0)) (u2 t 2 r (nI c)) := by
  obtain ⟨a1, a2, a3, a4, e, a5, a6⟩ := h
  refine ⟨dI_fr a1 (fun g _ g2 => u2_g g2) (fun i hi => by rw [u2_ne (by omega)]; exact a1.1.2.1 i hi) (fun r' hr => ?_), sG_j (sG_u a2 rfl) ⟨rfl, Or.inr (by omega)⟩, by rw [u2_ne (by omega), u2_ne (by omega), u2_ne (by omega)]; exact a3, by simp (disch := omega) only [u2_ne]; exact a4, u, by rw [u2_s, sG_0 a2 (by omega)]; exact a1.1.1.1, evJ_u a1.1.1.2.2.2⟩
  rw [u2_at]
  split
  · exact ⟨c, hc, rfl⟩
  · exact a1.1.2.2 r' hr
theorem rw_n {l : Nat} {f : Nat → Int32} {P : Nat → Nat → Prop} (h : rwI n l f P) : rwI (n + 1) l f P :=
  ⟨fun i hi => by obtain ⟨c, hc, e, q⟩ := h.1 i hi; exact ⟨c, by omega, e, q⟩, h.2⟩
theorem dI_mail {m p r c : Nat} (h : dI n u t) (hn : n < 40) (hm : m < 3) (hp : 1 ≤ p) (hp2 : p ≤ 999) (hr : r < 8) (hc : c < 1440) : dI (n + 1) u (u2 (bgF t n (nI m) (nI p) (nI r) (nI c)) 0 1 (nI (n + 1))) := by
  obtain ⟨a1, a2, a3, a4, a5⟩ := h
  have hb : ∀ g k, g ≠ 11 + n → bgF t n (nI m) (nI p) (nI r) (nI c) g k = t g k := fun g k q => if_neg (fun z => q z.1)
  have hg : ∀ g, g ≠ 0 → g ≠ 11 + n → u2 (bgF t n (nI m) (nI p) (nI r) (nI c)) 0 1 (nI (n + 1)) g = t g := fun g q1 q2 => by
    rw [u2_g q1]; exact funext fun k => hb g k q2
  have h0 : ∀ k, k ≠ 1 → u2 (bgF t n (nI m) (nI p) (nI r) (nI c)) 0 1 (nI (n + 1)) 0 k = t 0 k := fun k q => by
    rw [u2_ne (by omega)]; exact hb _ _ (by omega)
  have hw : ∀ k, u2 (bgF t n (nI m) (nI p) (nI r) (nI c)) 0 1 (nI (n + 1)) (11 + n) k = bgF t n (nI m) (nI p) (nI r) (nI c) (11 + n) k := fun k => u2_ne (by omega)
  refine ⟨⟨⟨by rw [h0 0 (by omega)]; exact a1.1.1, u2_s, by omega, a1.1.2.2.2⟩, fun i hi => by rw [hg 1 (by omega) (by omega)]; exact a1.2.1 i hi, fun r hr => by rw [hg 2 (by omega) (by omega)]; exact a1.2.2 r hr⟩, fun c' hc' => ?_, fun m' hm' => ?_, fun m' hm' => ⟨?_, raI_mo (a4 m' hm').2 (by rw [hg _ (by omega) (by omega)]) (Nat.le_refl _)⟩, ?_⟩
  · by_cases hcn : c' = n
    · subst hcn
      have w : ∀ k, k < 11 → u2 (bgF t c' (nI m) (nI p) (nI r) (nI c)) 0 1 (nI (c' + 1)) (11 + c') k = if k = 0 then nI m else if k = 1 then nI p else if k = 2 then nI r else if k = 3 then nI c else if k = 4 then nI p else if k = 10 then -6 else 0 := fun k hk => (hw k).trans (if_pos ⟨rfl, hk⟩)
      exact ⟨m, p, r, c, p, 0, 0, 0, 0, ⟨w 0 (by omega), w 1 (by omega), w 2 (by omega), w 3 (by omega), w 4 (by omega), w 5 (by omega), w 6 (by omega), w 7 (by omega), w 8 (by omega)⟩, ⟨hm, hp, hp2, hr, hc, by omega, by omega, fun _ => ⟨rfl, rfl⟩⟩⟩
    · rw [hg _ (by omega) (by omega)]; exact a2 c' (by omega)
  · obtain ⟨q, e, R⟩ := a3 m' hm'
    exact ⟨q, by rw [hg 6 (by omega) (by omega)]; exact e, rw_n (rw_mo R (fun i _ => by rw [hg _ (by omega) (by omega)]) (fun i c' _ hc' _ q => by rw [hg _ (by omega) (by omega)]; exact q))⟩
  · obtain ⟨y, hy, e, q⟩ := (a4 m' hm').1
    refine ⟨y, hy, by rw [hg _ (by omega) (by omega)]; exact e, ?_⟩
    rw [hg _ (by omega) (by omega)]
    rcases q with q | ⟨b, hb', e, q⟩
    · exact Or.inl q
    · exact Or.inr ⟨b, by omega, e, by rw [hg _ (by omega) (by omega)]; exact q⟩
  · obtain ⟨l, e, R⟩ := a5
    exact ⟨l, by rw [h0 4 (by omega)]; exact e, rw_n (rw_mo R (fun i _ => by rw [hg _ (by omega) (by omega)]) (fun i c' _ hc' _ q => by rw [hg _ (by omega) (by omega)]; exact q))⟩
theorem rI_mail {m p r c : Nat} (h : rI n u s t) (hn : n < 40) (hm : m < 3) (hp : 1 ≤ p) (hp2 : p ≤ 999) (hr : r < 8) (hc : c < 1440) : rI (n + 1) u (u2 (u2 (bgF s n (nI m) (nI p) (nI r) (nI c)) 0 6 (s 0 0)) 0 1 (nI (n + 1))) (u2 (bgF t n (nI m) (nI p) (nI r) (nI c)) 0 1 (nI (n + 1))) := by
  obtain ⟨a1, a2, a3, a4, e, a5, a6⟩ := h
  have hs : ∀ g k, g < 11 → bgF s n (nI m) (nI p) (nI r) (nI c) g k = s g k := fun g k q => if_neg (fun z => by omega)
  have ht : ∀ g k, g < 11 → bgF t n (nI m) (nI p) (nI r) (nI c) g k = t g k := fun g k q => if_neg (fun z => by omega)
  refine ⟨dI_mail a1 hn hm hp hp2 hr hc, ?_, ?_, ?_, u, ?_, evJ_u a1.1.1.2.2.2⟩
  · intro g k h1 h2 h3
    by_cases q0 : g = 0 ∧ k = 1
    · rw [q0.1, q0.2, u2_s, u2_s]
    · rw [u2_ne q0, u2_ne (show ¬ (g = 0 ∧ k = 6) from fun z => by have := h2 z.1; omega), u2_ne q0]
      unfold bgF
      by_cases q : g = 11 + n ∧ k < 11
      · rw [if_pos q, if_pos q]
      · rw [if_neg q, if_neg q]
        exact a2 g k (by
          by_cases z : g = 11 + n
          · exact absurd ⟨z, h3 (by omega)⟩ q
          · omega) h2 h3
  · rw [u2_ne (by omega), u2_ne (by omega), u2_ne (by omega), hs _ _ (by omega), ht _ _ (by omega)]; exact a3
  · simp (disch := omega) only [u2_ne, hs]; exact a4
  · rw [u2_ne (by omega), u2_s, sG_0 a2 (by omega)]; exact a1.1.1.1
theorem rI_tv (h : rI n u s t) : rI n u (tvF s0 s n) t := by
  obtain ⟨a1, a2, a3, a4, e, a5, a6⟩ := h
  have hv : ∀ g k, g < 11 + n → tvF s0 s n g k = s g k := fun g k q => if_neg (by omega)
  refine ⟨a1, fun g k h1 h2 h3 => by rw [hv g k h1]; exact a2 g k h1 h2 h3, by rw [hv _ _ (by omega)]; exact a3, by rw [hv _ _ (by omega), hv _ _ (by omega), hv _ _ (by omega), hv _ _ (by omega)]; exact a4, e, by rw [hv _ _ (by omega)]; exact a5, evJ_mo a6 (fun b hb => hv _ _ (by omega)) (fun r _ => hv _ _ (by omega))⟩
theorem rI_ini : rI 0 0 iniS iniS := by
  have z : ∀ g k, 3 ≤ g → ¬ ((3 ≤ g ∧ g < 3 + 3) ∧ (k = 0 ∨ k = 2)) → iniS g k = 0 := fun g k q1 q2 => by
    unfold iniS ini1
    rw [if_neg (by omega), if_neg (by omega), if_neg q2]
  refine ⟨⟨⟨⟨rfl, rfl, by omega, by omega⟩, fun i hi => ?_, fun r hr => ⟨720, by omega, ?_⟩⟩, fun c hc => by omega, fun m hm => ⟨0, z 6 m (by omega) (by omega), fun i hi => by omega, fun i j hi => by omega⟩, fun m hm => ⟨⟨0, by omega, z _ _ (by omega) (by omega), Or.inl ⟨?_, rfl⟩⟩, 0, by omega, z _ _ (by omega) (by omega)⟩, 0, rfl, fun i hi => by omega, fun i j hi => by omega⟩, sG_rf, rfl, rfl, 0, rfl, evJ_u (by omega)⟩
  · match i, hi with
    | 0, _ | 1, _ | 2, _ | 3, _ | 4, _ | 5, _ | 6, _ | 7, _ | 8, _ => decide
  · unfold iniS ini1
    rw [if_neg (by omega), if_pos ⟨rfl, hr⟩]; rfl
  · unfold iniS ini1
    rw [if_neg (by omega), if_neg (by omega), if_pos ⟨by omega, Or.inl rfl⟩]
/-- a class's day and a reference's day that are the same -/
def dR (s t : Sg) : Prop := ∃ n u, rI n u s t
theorem rI_00 (h : rI n u s t) : s 0 0 = nI u ∧ t 0 0 = nI u ∧ s 0 1 = nI n ∧ t 0 1 = nI n ∧ n ≤ 40 ∧ u ≤ 1440 :=
  ⟨(sG_0 h.2.1 (by omega)).trans h.1.1.1.1, h.1.1.1.1, (sG_0 h.2.1 (by omega)).trans h.1.1.1.2.1, h.1.1.1.2.1, h.1.1.1.2.2.1, h.1.1.1.2.2.2⟩
theorem rI_E (h : rI n u s t) : sE n s t := by
  obtain ⟨a1, a2, a3, a4⟩ := h
  refine ⟨⟨a1.1.1.2.2.1, (sG_0 a2 (by omega)).trans a1.1.1.2.1⟩, fun k hk => ?_, fun k _ => sG_g a2 (by omega) (by omega), fun k _ => sG_g a2 (by omega) (by omega), fun m k hm _ => sG_g a2 (by omega) (by omega), fun m _ => sG_g a2 (by omega) (by omega), fun m i hm _ => sG_g a2 (by omega) (by omega), fun i _ => sG_g a2 (by omega) (by omega), fun b k hb hk => sG_b a2 hb⟩
  by_cases c : k = 3
  · rw [c]; exact a3
  · exact sG_0 a2 (by omega)
/-- a class's day to each reference's day -/
theorem rI_of (h : dI n u t) : ∃ s, rI n u s t :=
  ⟨u2 (u2 t 0 5 (t 3 3 + t 4 3 + t 5 3)) 0 6 (nI u), h, sG_j (sG_j sG_rf ⟨rfl, Or.inr (by omega)⟩) ⟨rfl, Or.inr (by omega)⟩, by rw [u2_ne (by omega), u2_ne (by omega)], by rw [u2_ne (by omega), u2_s, u2_ne (by omega), u2_ne (by omega), u2_ne (by omega), u2_ne (by omega), u2_ne (by omega), u2_ne (by omega)], u, u2_s, evJ_u h.1.1.2.2.2⟩
theorem ma_0 {m p r x : Int32} (h : rI n u s t) (hz : maM t m p r x = 0) : ∃ m' p' r' c', m = nI m' ∧ p = nI p' ∧ r = nI r' ∧ x = nI c' ∧ m' < 3 ∧ 1 ≤ p' ∧ p' ≤ 999 ∧ r' < 8 ∧ c' < 1440 ∧ n < 40 := by
  obtain ⟨s0, t0, s1, t1, hn, hu⟩ := rI_00 h
  unfold maM at hz
  by_cases c1 : ¬ ((0 ≤ m ∧ m ≤ 2) ∧ 0 ≤ r ∧ r ≤ 7)
  · rw [if_pos c1] at hz; exact absurd hz (by decide)
  · rw [if_neg c1] at hz
    by_cases c2 : ¬ ((1 ≤ p ∧ p ≤ 999) ∧ t 0 0 ≤ x ∧ x ≤ 1439)
    · rw [if_pos c2] at hz; exact absurd hz (by decide)
    · rw [if_neg c2] at hz
      have c1 := Decidable.not_not.mp c1
      have c2 := Decidable.not_not.mp c2
      obtain ⟨m', hm', em⟩ := nI_bt (n := 2) (by omega) c1.1.1 c1.1.2
      obtain ⟨r', hr', er⟩ := nI_bt (n := 7) (by omega) c1.2.1 c1.2.2
      obtain ⟨p', hp', ep⟩ := nI_bt (n := 999) (by omega) (Int32.le_trans (by decide) c2.1.1) c2.1.2
      obtain ⟨c', hc', ec⟩ := nI_bt (x := x) (n := 1439) (by omega) (Int32.le_trans (by rw [t0]; exact nI_pos' (by omega)) c2.2.1) c2.2.2
      have hp1 : 1 ≤ p' := by
        have := c2.1.1
        rw [ep, show (1 : Int32) = nI 1 from rfl, nI_le_iff (by omega) (by omega)] at this
        exact this
      by_cases c3 : t 0 1 = 40
      · rw [if_pos c3] at hz; exact absurd hz (by decide)
      · refine ⟨m', p', r', c', em, ep, er, ec, by omega, hp1, hp', by omega, by omega, ?_⟩
        by_cases c4 : n = 40
        · exact absurd (by rw [t1, c4]; rfl) c3
        · omega
theorem mp_0 {x : Int32} (h : rI n u s t) (hz : maP t x = 0) : ∃ k, x = nI k ∧ 1 ≤ k ∧ u + k ≤ 1440 := by
  obtain ⟨s0, t0, s1, t1, hn, hu⟩ := rI_00 h
  unfold maP at hz
  by_cases c1 : 1 ≤ x
  · rw [if_pos c1, t0, show (1440 : Int32) = nI 1440 from rfl, pk_sub (by omega)] at hz
    by_cases c2 : x ≤ nI (1440 - u)
    · obtain ⟨k, hk, ek⟩ := nI_bt (x := x) (n := 1440 - u) (by omega) (Int32.le_trans (by decide) c1) c2
      refine ⟨k, ek, ?_, by omega⟩
      rw [ek, show (1 : Int32) = nI 1 from rfl, nI_le_iff (by omega) (by omega)] at c1
      exact c1
    · rw [if_neg c2] at hz; exact absurd hz (by decide)
  · rw [if_neg c1] at hz; exact absurd hz (by decide)
theorem mt_0 {x : Int32} (h : rI n u s t) (hz : t 0 0 ≤ x ∧ x ≤ 1439) : ∃ c, x = nI c ∧ c < 1440 := by
  obtain ⟨s0, t0, s1, t1, hn, hu⟩ := rI_00 h
  obtain ⟨c', hc', ec⟩ := nI_bt (x := x) (n := 1439) (by omega) (Int32.le_trans (by rw [t0]; exact nI_pos' (by omega)) hz.1) hz.2
  exact ⟨c', ec, by omega⟩
theorem lp_ok {k : Nat} (h : rI n u s t) (hk : u + k ≤ 1440) : lpOK n (s 0 0 + nI k) k s ∧ rI n (u + k) (lpF (s 0 0 + nI k) k s) (dyN t k) ∧ lpF (s 0 0 + nI k) k s 0 0 = nI (u + k) ∧ dyN t k 0 0 = nI (u + k) := by
  obtain ⟨s0, t0, s1, t1, hn, hu⟩ := rI_00 h
  rw [s0, nI_add]
  obtain ⟨a, b⟩ := lp_all (E := u + k) hk k u s t h (by omega) (by omega)
  rw [show u + k - u = k by omega] at b
  exact ⟨a, b, (rI_00 b).1, (rI_00 b).2.1⟩
/-- an order is carried out -/
theorem cl_ds {v : Nat} {a b e : Nat} (h : rI n u s t) (hv : knP v ≠ 0) (hz : mdV t v (nI a) (nI b) (nI e) = 0) : clOK n s v (nI a) ∧ dsOK t v (nI a) ∧ dR (clD s v (nI a) (nI b) (nI e)) (dsF t v (nI a) (nI b) (nI e)) := by
  obtain ⟨s0, t0, s1, t1, hn, hu⟩ := rI_00 h
  have hcut : ∀ r, r < 8 → ¬ s 2 r < 0 := fun r hr => by
    obtain ⟨c, hc, ec⟩ := h.1.1.2.2 r hr
    rw [sG_g h.2.1 (by omega) (by omega), ec]
    exact nI_pos (by omega)
  have hst : ¬ s 1 2 < 0 := by
    obtain ⟨x, hx, ex⟩ := bs_staff h.1.1
    rw [sG_g h.2.1 (by omega) (by omega), ex]
    exact nI_pos (by omega)
  unfold mdV at hz
  by_cases c1 : v = 99
  · subst c1
    rw [if_pos rfl] at hz
    by_cases d1 : 0 ≤ nI a ∧ nI a ≤ 7
    · rw [if_pos d1] at hz
      by_cases d2 : t 0 0 ≤ nI b ∧ nI b ≤ 1439
      · obtain ⟨c, ec, hc⟩ := mt_0 h d2
        refine ⟨⟨s1, hn, hcut, hst, fun q => absurd q (by decide)⟩, ⟨fun q => absurd q (by decide), fun q => absurd q (by decide)⟩, n, u, ?_⟩
        unfold clD dsF
        rw [if_pos rfl, if_pos rfl, ec]
        exact rI_cut h hc
      · rw [if_neg d2] at hz; exact absurd hz (by decide)
    · rw [if_neg d1] at hz; exact absurd hz (by decide)
  · rw [if_neg c1] at hz
    by_cases c2 : v = 116
    · subst c2
      rw [if_pos rfl] at hz
      obtain ⟨k, ek, k1, k2⟩ := mp_0 h hz
      obtain ⟨p1, p2, p3, p4⟩ := lp_ok h k2
      rw [ek]
      refine ⟨⟨s1, hn, hcut, hst, fun _ => ⟨k, by omega, rfl, p1, by rw [p3]; exact nI_pos (by omega)⟩⟩, ⟨fun _ => ⟨k, by omega, rfl, (dy_all h.1 k k2).2.1⟩, fun q => absurd q (by decide)⟩, n, u + k, ?_⟩
      unfold clD dsF
      rw [if_neg c1, if_neg c1, if_pos rfl, if_pos rfl, nN_nI (by omega)]
      exact p2
    · rw [if_neg c2] at hz
      by_cases c3 : v = 115
      · subst c3
        rw [if_pos rfl] at hz
        by_cases d1 : isF 2 (nI a) = true
        · refine ⟨⟨s1, hn, hcut, hst, fun q => absurd q (by decide)⟩, ⟨fun q => absurd q (by decide), fun q => absurd q (by decide)⟩, n, u, ?_⟩
          unfold clD dsF
          rw [if_neg c1, if_neg c1, if_neg c2, if_neg c2, if_pos rfl, if_pos rfl]
          exact rI_set h d1
        · rw [if_neg d1] at hz; exact absurd hz (by decide)
      · rw [if_neg c3] at hz
        obtain ⟨m', p', r', c', em, ep, er, ec, hm, hp1, hp2, hr, hc, hn40⟩ := ma_0 h hz
        refine ⟨⟨s1, hn, hcut, hst, fun q => absurd q c2⟩, ⟨fun q => absurd q c2, fun _ => ⟨n, hn40, t1⟩⟩, n + 1, u, ?_⟩
        unfold clD dsF
        rw [if_neg c1, if_neg c1, if_neg c2, if_neg c2, if_neg c3, if_neg c3, s1, t1, nN_nI (by omega), nI_1, ep, er, ec]
        have hsh : ∃ m2, m2 < 3 ∧ shP1 v = nI m2 := by
          unfold shP1
          split
          · exact ⟨0, by omega, rfl⟩
          · split
            · exact ⟨1, by omega, rfl⟩
            · exact ⟨2, by omega, rfl⟩
        obtain ⟨m2, hm2, e2⟩ := hsh
        rw [e2]
        exact rI_mail h hn40 hm2 hp1 hp2 hr hc
theorem md_eq {v : Nat} {a b e : Int32} (h : rI n u s t) : mdV s v a b e = mdV t v a b e := by
  unfold mdV
  rw [sE_mp (rI_E h), sE_ma (rI_E h), sG_0 h.2.1 (k := 0) (by omega)]
theorem cy_all {y : Nat → Nat} {P N : Nat} (hk : ∀ j, j < N → knP (srP y P (psP y P j)) ≠ 0) : ∀ (f k : Nat) (s t : Sg), dR s t → k + f ≤ N → (cyC y P f k s).1 = (cyL y P f k t).1 ∧ dR (cyC y P f k s).2 (cyL y P f k t).2 := by
  intro f
  induction f with
  | zero => intro k s t h _; exact ⟨rfl, h⟩
  | succ f ih =>
    intro k s t h hkf
    obtain ⟨n, u, h⟩ := h
    unfold cyC cyL
    rw [md_eq h]
    by_cases c : mdV t (srP y P (psP y P k)) (nI (orP y P (psP y P k)).2.1) (nI (orP y P (psP y P k)).2.2.1) (nI (orP y P (psP y P k)).2.2.2.1) = 0
    · rw [if_pos c, if_pos c]
      exact ih (k + 1) _ _ (cl_ds h (hk k (by omega)) c).2.2 (by omega)
    · rw [if_neg c, if_neg c]
      exact ⟨rfl, n, u, h⟩
end CH
