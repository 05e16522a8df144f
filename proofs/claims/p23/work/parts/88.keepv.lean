/-! what the law looks for besides, kept from minute to minute -/
/-- a batch's row; L: it came in the minute of its cutoff -/
def rwV (u : Nat) (L : Prop) (f : Nat → Int32) : Prop :=
  (u ≤ nN (f 3) → f 4 = f 1 ∧ f 9 = 0) ∧ ((f 10 = -6 ∧ (f 4 ≠ 0 ∨ f 5 ≠ 0)) ∨ ((∃ a, a < u ∧ f 10 = nI a) ∧ f 4 = 0 ∧ f 5 = 0)) ∧ (∃ d, d ≤ 4 ∧ f 9 = nI d) ∧ (f 5 ≠ 0 → f 9 ≠ 0) ∧ (f 9 = 4 → f 8 = f 1 ∨ L)
/-- told to come before -/
def ltV (f f' : Nat → Int32) (c c' : Nat) : Prop := nN (f 3) < nN (f' 3) ∨ (nN (f 3) = nN (f' 3) ∧ c < c')
def quV (n : Nat) (t : Sg) (m : Nat) : Prop := ∃ q, q ≤ 40 ∧ t 6 m = nI q ∧
  (∀ i, i < q → ∃ c, c < n ∧ t (7 + m) i = nI c ∧ t (11 + c) 0 = nI m ∧ t (11 + c) 4 = t (11 + c) 1 ∧ t (3 + m) 0 ≠ nI c) ∧
  ∀ i c c', i + 1 < q → c < n → c' < n → t (7 + m) i = nI c → t (7 + m) (i + 1) = nI c' → ltV (t (11 + c)) (t (11 + c')) c c'
def haV (n v : Nat) (t : Sg) (m : Nat) : Prop := t (3 + m) 0 = -6 ∨ ∃ b, b < n ∧ t (3 + m) 0 = nI b ∧ t (11 + b) 0 = nI m ∧ t (11 + b) 4 ≠ 0 ∧ t (11 + b) 2 = t (3 + m) 2 ∧ nN (t (11 + b) 3) < v
def sN (F : (Nat → Int32) → Nat) (t : Sg) : Nat → Nat
  | 0 => 0
  | b + 1 => sN F t b + F (t (11 + b))
/-- what is with the machines no more; what is with the hands -/
def fD (f : Nat → Int32) : Nat := nN (f 1) - nN (f 4)
def fH (f : Nat → Int32) : Nat := nN (f 5)
def suV (n : Nat) (t : Sg) : Prop := ∃ R x0 x1 x2, t 0 2 = nI R ∧ t 3 3 = nI x0 ∧ t 4 3 = nI x1 ∧ t 5 3 = nI x2 ∧ x0 + x1 + x2 = sN fD t n ∧ R ≤ x0 + x1 + x2 ∧ sN fH t n ≤ R
/-- at the beginning of a minute; within it; as batches come; as sorted pieces go -/
def vD (n u : Nat) (t : Sg) : Prop := (∀ c, c < n → rwV u False (t (11 + c))) ∧ (∀ m, m < 3 → quV n t m ∧ haV n u t m) ∧ suV n t ∧ ∃ c, c ≤ 100 * u ∧ t 0 3 = nI c
def vM (n u : Nat) (t : Sg) : Prop := (∀ c, c < n → rwV (u + 1) False (t (11 + c))) ∧ (∀ m, m < 3 → quV n t m ∧ haV n (u + 1) t m) ∧ suV n t
def laV (t : Sg) (u c : Nat) : Prop := t (11 + c) 3 = nI u ∧ t 2 (nN (t (11 + c) 2)) = nI u ∧ t (11 + c) 4 = t (11 + c) 1
def vC (n u b : Nat) (t : Sg) : Prop := (∀ c, c < n → rwV (u + 1) (laV t u c) (t (11 + c)) ∧ (b ≤ c → rwV u False (t (11 + c)))) ∧ (∀ m, m < 3 → quV n t m ∧ haV n u t m) ∧ suV n t
def vL (n u b : Nat) (t : Sg) : Prop := (∀ c, c < n → rwV (u + 1) (b ≤ c ∧ laV t u c) (t (11 + c))) ∧ (∀ m, m < 3 → quV n t m ∧ haV n (u + 1) t m) ∧ suV n t
section VA
variable {s t t' B D : Sg} {n u b m a v v' : Nat} {L L' : Prop} {f f' : Nat → Int32} {F : (Nat → Int32) → Nat}
theorem rwV_mo (h : rwV u L f) (huv : u ≤ v) (hL : L → L') : rwV v L' f := by
  obtain ⟨h1, h2, h3, h4, h5⟩ := h
  refine ⟨fun q => h1 (by omega), ?_, h3, h4, fun q => (h5 q).imp id hL⟩
  rcases h2 with q | ⟨⟨a, q1, q2⟩, q3⟩
  · exact Or.inl q
  · exact Or.inr ⟨⟨a, by omega, q2⟩, q3⟩
theorem sN_eq : ∀ n, (∀ c, c < n → F (t' (11 + c)) = F (t (11 + c))) → sN F t' n = sN F t n := by
  intro n
  induction n with
  | zero => intro _; rfl
  | succ n ih =>
    intro h
    show sN F t' n + F (t' (11 + n)) = sN F t n + F (t (11 + n))
    rw [ih (fun c hc => h c (by omega)), h n (by omega)]
theorem sN_up : ∀ n, b < n → (∀ c, c < n → c ≠ b → F (t' (11 + c)) = F (t (11 + c))) → sN F t' n + F (t (11 + b)) = sN F t n + F (t' (11 + b)) := by
  intro n
  induction n with
  | zero => intro hb; omega
  | succ n ih =>
    intro hb h
    show sN F t' n + F (t' (11 + n)) + F (t (11 + b)) = sN F t n + F (t (11 + n)) + F (t' (11 + b))
    by_cases c : b = n
    · subst c
      rw [sN_eq (t := t) (t' := t') b (fun c hc => h c (by omega) (by omega))]
      omega
    · have := ih (by omega) (fun c hc => h c (by omega))
      rw [h n (by omega) (fun q => c q.symm)]
      omega
theorem sN_le {k : Nat} : ∀ n, (∀ c, c < n → F (t (11 + c)) ≤ k) → sN F t n ≤ k * n := by
  intro n
  induction n with
  | zero => intro _; exact Nat.le_refl _
  | succ n ih =>
    intro h
    have h1 := ih (fun c hc => h c (by omega))
    have h2 := h n (by omega)
    show sN F t n + F (t (11 + n)) ≤ k * (n + 1)
    rw [Nat.mul_succ]
    omega
theorem quV_mo (h : quV n t m) (h6 : t' 6 m = t 6 m) (h7 : ∀ i, t' (7 + m) i = t (7 + m) i) (h3 : t' (3 + m) 0 = t (3 + m) 0) (hr : ∀ c k, c < n → k < 5 → t' (11 + c) k = t (11 + c) k) : quV n t' m := by
  obtain ⟨q, q40, e6, h1, h2⟩ := h
  refine ⟨q, q40, h6.trans e6, fun i hi => ?_, fun i c c' hi hc hc' e e' => ?_⟩
  · obtain ⟨c, hc, z1, z2, z3, z4⟩ := h1 i hi
    exact ⟨c, hc, (h7 i).trans z1, (hr c 0 hc (by omega)).trans z2, by rw [hr c 4 hc (by omega), hr c 1 hc (by omega)]; exact z3, by rw [h3]; exact z4⟩
  · have := h2 i c c' hi hc hc' ((h7 i).symm.trans e) ((h7 _).symm.trans e')
    unfold ltV at this ⊢
    rw [hr c 3 hc (by omega), hr c' 3 hc' (by omega)]
    exact this
theorem haV_mo (h : haV n v t m) (hv : v ≤ v') (h0 : t' (3 + m) 0 = t (3 + m) 0) (h2 : t' (3 + m) 2 = t (3 + m) 2) (hr : ∀ c k, c < n → k < 5 → t' (11 + c) k = t (11 + c) k) : haV n v' t' m := by
  rcases h with q | ⟨b, hb, e0, e1, e2, e3, e4⟩
  · exact Or.inl (h0.trans q)
  · exact Or.inr ⟨b, hb, h0.trans e0, (hr b 0 hb (by omega)).trans e1, by rw [hr b 4 hb (by omega)]; exact e2, by rw [hr b 2 hb (by omega), h2]; exact e3, by rw [hr b 3 hb (by omega)]; omega⟩
theorem suV_mo (h : suV n t) (h2 : t' 0 2 = t 0 2) (h3 : ∀ j, j < 3 → t' (3 + j) 3 = t (3 + j) 3) (hr : ∀ c k, c < n → k < 6 → t' (11 + c) k = t (11 + c) k) : suV n t' := by
  obtain ⟨R, x0, x1, x2, a1, a2, a3, a4, a5, a6, a7⟩ := h
  have eD : sN fD t' n = sN fD t n := sN_eq n fun c hc => by
    unfold fD; rw [hr c 1 hc (by omega), hr c 4 hc (by omega)]
  have eH : sN fH t' n = sN fH t n := sN_eq n fun c hc => by
    unfold fH; rw [hr c 5 hc (by omega)]
  exact ⟨R, x0, x1, x2, h2.trans a1, (h3 0 (by omega)).trans a2, (h3 1 (by omega)).trans a3, (h3 2 (by omega)).trans a4, by rw [eD]; exact a5, a6, by rw [eH]; exact a7⟩
/-- batches come -/
theorem vc_step (h : cI n u b t) (k : vC n u b t) (hb : b < n) (hu : u < 1440) : vC n u (b + 1) (cmS b t) := by
  obtain ⟨⟨⟨b0, b1, b2, b3⟩, bs, bc⟩, T, Q, M, L⟩ := h
  obtain ⟨K1, K2, K3⟩ := k
  have Tb := T b hb
  rw [if_neg (by omega)] at Tb
  obtain ⟨m, p, r, c, w, hh, y, g, z, ⟨e0, e1, e2, e3, e4, e5, e6, e7, e8⟩, ⟨k1, k2, k3, k4, k5, k6, k7, k8⟩⟩ := Tb
  obtain ⟨e, he, e2r⟩ := bc r k4
  obtain ⟨q, pp, hp, q6, R⟩ := Q m k1
  have rowb := (K1 b hb).2 (Nat.le_refl _)
  by_cases hc : c = u
  · obtain ⟨g0, z0⟩ := k8 (by omega)
    have hne : ∀ i, i < q → t (7 + m) i ≠ nI b := fun i hi ee => by
      obtain ⟨c', hc', ec, r1, r2⟩ := R.1 i hi
      rw [ec, nI_eq_iff (by omega) (by omega)] at ee
      by_cases hi2 : i < pp
      · obtain ⟨⟨z', hz', ez⟩, _⟩ := r1 hi2
        rw [ee, e3, nI_eq_iff (by omega) (by omega)] at ez
        omega
      · have := (r2 (by omega)).1
        omega
    have qn : q < n := rw_lt b2 R hb hne
    have hcm : cmS b t = C4 t b m q u e := by
      unfold cmS
      rw [if_pos (by rw [e3, b0, hc]), e0, e2, nN_nI (by omega), nN_nI (by omega), q6, nN_nI (by omega)]
      exact c4_cm k1 b0 e2r (by omega) (by omega) q6 (by rw [e7, g0]; rfl) (by rw [e8, z0]; rfl) (by rw [e1]; exact nI_nle (by omega) (by omega))
    obtain ⟨w4, w9⟩ := rowb.1 (by rw [e3, nN_nI (by omega)]; omega)
    rw [hcm]
    have g1 : ∀ g, g ≠ 7 + m → g ≠ 6 → g ≠ 11 + b → C4 t b m q u e g = t g := fun g a1 a2 a3 => by
      unfold C4; rw [u2_g a3, u2_g a3, u2_g a2, u2_g a1]
    have r7 : C4 t b m q u e (7 + m) = up (t (7 + m)) q (nI b) := by
      unfold C4; rw [u2_g (by omega), u2_g (by omega), u2_g (by omega), up_u2]
    have r6 : C4 t b m q u e 6 = up (t 6) m (nI (q + 1)) := by
      unfold C4; rw [u2_g (by omega), u2_g (by omega)]
      have : ∀ X : Sg, X 6 = t 6 → u2 X 6 m (nI (q + 1)) 6 = up (t 6) m (nI (q + 1)) := fun X hX => by rw [← hX, up_u2]
      exact this _ (u2_g (by omega))
    have rb : ∀ k, k ≠ 8 → k ≠ 9 → C4 t b m q u e (11 + b) k = t (11 + b) k := fun k a1 a2 => by
      unfold C4; rw [u2_ne (by omega), u2_ne (by omega), u2_ne (by omega), u2_ne (by omega)]
    have rb8 : C4 t b m q u e (11 + b) 8 = if e < u then t (11 + b) 1 else t (11 + b) 8 := by
      unfold C4; rw [u2_ne (by omega), u2_s]
    have rb9 : C4 t b m q u e (11 + b) 9 = if u < e then 0 else 4 := by
      unfold C4; rw [u2_s, w9, if_pos rfl]
    generalize C4 t b m q u e = V at g1 r7 r6 rb rb8 rb9 ⊢
    have hr : ∀ c k, k < 6 → V (11 + c) k = t (11 + c) k := fun c' k hk => by
      by_cases hcb : c' = b
      · subst hcb; exact rb k (by omega) (by omega)
      · rw [g1 _ (by omega) (by omega) (by omega)]
    have v2 : V 2 = t 2 := g1 2 (by omega) (by omega) (by omega)
    have hla : ∀ c, laV t u c → laV V u c := fun c' q => by
      unfold laV at q ⊢
      rw [hr c' 3 (by omega), hr c' 2 (by omega), hr c' 4 (by omega), hr c' 1 (by omega), v2]
      exact q
    refine ⟨fun c' hc' => ?_, fun m' hm' => ?_, suV_mo K3 (by rw [g1 0 (by omega) (by omega) (by omega)]) (fun j hj => by rw [g1 _ (by omega) (by omega) (by omega)]) (fun c' k' _ hk => hr c' k' hk)⟩
    · by_cases hcb : c' = b
      · subst hcb
        refine ⟨?_, fun q => by omega⟩
        obtain ⟨x1, x2, x3, x4, x5⟩ := rwV_mo (L' := False) rowb (Nat.le_succ u) id
        refine ⟨fun q => ?_, ?_, ?_, fun q => ?_, fun q => ?_⟩
        · rw [hr c' 3 (by omega), e3, nN_nI (by omega)] at q; omega
        · rw [rb 10 (by omega) (by omega), hr c' 4 (by omega), hr c' 5 (by omega)]; exact x2
        · rw [rb9]
          split
          · exact ⟨0, by omega, rfl⟩
          · exact ⟨4, by omega, rfl⟩
        · rw [hr c' 5 (by omega)] at q; exact absurd w9 (x4 q)
        · rw [rb9] at q
          by_cases c1 : u < e
          · rw [if_pos c1] at q; exact absurd q (by decide)
          · rw [rb8, rb 1 (by omega) (by omega)]
            by_cases c2 : e < u
            · rw [if_pos c2]; exact Or.inl rfl
            · refine Or.inr (hla c' ⟨by rw [e3, hc], ?_, w4⟩)
              rw [e2, nN_nI (by omega), e2r, show e = u by omega]
      · have hV : V (11 + c') = t (11 + c') := g1 _ (by omega) (by omega) (by omega)
        rw [hV]
        obtain ⟨x1, x2⟩ := K1 c' hc'
        exact ⟨rwV_mo x1 (Nat.le_refl _) (hla c'), fun q => x2 (by omega)⟩
    · by_cases hmm : m' = m
      · subst hmm
        obtain ⟨⟨q', q40, e6', Q1, Q2⟩, H⟩ := K2 m' hm'
        have : q' = q := by
          rw [q6, nI_eq_iff (by omega) (by omega)] at e6'; exact e6'.symm
        subst this
        have h3 : V (3 + m') = t (3 + m') := g1 _ (by omega) (by omega) (by omega)
        refine ⟨⟨q' + 1, by omega, by rw [r6]; exact if_pos rfl, fun i hi => ?_, fun i c1 c2 hi hc1 hc2 z1 z2 => ?_⟩, haV_mo H (Nat.le_refl _) (by rw [h3]) (by rw [h3]) (fun c' k' _ hk => hr c' k' (by omega))⟩
        · by_cases hi2 : i = q'
          · subst hi2
            refine ⟨b, hb, by rw [r7]; exact up_at, (hr b 0 (by omega)).trans e0, by rw [hr b 4 (by omega), hr b 1 (by omega)]; exact w4, ?_⟩
            rw [h3]
            rcases H with H | ⟨b', hb', z0, _, _, _, z4⟩
            · rw [H]; exact fun q => m6_n (k := b) (by omega) q.symm
            · rw [z0, Ne, nI_eq_iff (by omega) (by omega)]
              intro q
              subst q
              rw [e3, nN_nI (by omega)] at z4
              omega
          · obtain ⟨c', hc', z1, z2, z3, z4⟩ := Q1 i (by omega)
            exact ⟨c', hc', by rw [r7, up_n hi2]; exact z1, (hr c' 0 (by omega)).trans z2, by rw [hr c' 4 (by omega), hr c' 1 (by omega)]; exact z3, by rw [h3]; exact z4⟩
        · rw [r7] at z1 z2
          rw [up_n (by omega)] at z1
          unfold ltV
          rw [hr c1 3 (by omega), hr c2 3 (by omega)]
          by_cases hi2 : i + 1 = q'
          · rw [hi2, up_at, nI_eq_iff (by omega) (by omega)] at z2
            subst z2
            obtain ⟨c', hc', ec, r1, r2⟩ := R.1 i (by omega)
            rw [z1, nI_eq_iff (by omega) (by omega)] at ec
            subst ec
            rw [e3, nN_nI (by omega)]
            by_cases hi3 : i < pp
            · obtain ⟨⟨z', hz', ez⟩, _⟩ := r1 hi3
              rw [ez, nN_nI (by omega)]; omega
            · obtain ⟨y1, y2⟩ := r2 (by omega)
              rw [y2, nN_nI (by omega)]; omega
          · rw [up_n hi2] at z2
            exact Q2 i c1 c2 (by omega) hc1 hc2 z1 z2
      · have hr' : ∀ c k, c < n → k < 5 → V (11 + c) k = t (11 + c) k := fun c' k' _ hk => hr c' k' (by omega)
        exact ⟨quV_mo (K2 m' hm').1 (by rw [r6]; exact if_neg hmm) (fun i => by rw [g1 _ (by omega) (by omega) (by omega)]) (by rw [g1 _ (by omega) (by omega) (by omega)]) hr', haV_mo (K2 m' hm').2 (Nat.le_refl _) (by rw [g1 _ (by omega) (by omega) (by omega)]) (by rw [g1 _ (by omega) (by omega) (by omega)]) hr'⟩
  · have hne : ¬ t (11 + b) 3 = t 0 0 := by
      rw [e3, b0, nI_eq_iff (by omega) (by omega)]; exact hc
    have hcm : cmS b t = t := by unfold cmS; rw [if_neg hne]
    rw [hcm]
    exact ⟨fun c' hc' => ⟨(K1 c' hc').1, fun q => (K1 c' hc').2 (by omega)⟩, K2, K3⟩
theorem vc_all (h : dI n u t) (k : vD n u t) (hu : u < 1440) : ∀ b, b ≤ n → vC n u b (itF cmS b t) := by
  intro b
  induction b with
  | zero => intro _; exact ⟨fun c hc => ⟨rwV_mo (k.1 c hc) (Nat.le_succ u) (fun q => absurd q id), fun _ => k.1 c hc⟩, k.2.1, k.2.2.1⟩
  | succ b ih =>
    intro hb
    exact vc_step (cm_all h hu b (by omega)).2 (ih (by omega)) (by omega) hu
/-- sorted pieces go -/
theorem vl_step (h : dM n u 0 t) (k : vL n u b t) (hb : b < n) (hu : u < 1440) : vL n u (b + 1) (lvS b t) := by
  obtain ⟨⟨⟨b0, b1, b2, b3⟩, bs, bc⟩, T, _, _, _⟩ := h
  obtain ⟨K1, K2, K3⟩ := k
  obtain ⟨m, p, r, c, w, hh, y, g, z, ⟨e0, e1, e2, e3, e4, e5, e6, e7, e8⟩, ⟨k1, k2, k3, k4, k5, k6, k7, k8⟩⟩ := T b hb
  obtain ⟨x1, x2, x3, x4, x5⟩ := K1 b hb
  by_cases cc : t 2 (nN (t (11 + b) 2)) = t 0 0 ∧ ¬ t 0 0 < t (11 + b) 3
  · have hl : lvS b t = u2 (u2 (u2 t (11 + b) 7 (t (11 + b) 7 + t (11 + b) 6)) (11 + b) 6 0) (11 + b) 8 (if t (11 + b) 1 - (t (11 + b) 7 + t (11 + b) 6) ≤ t (11 + b) 8 then t (11 + b) 8 else t (11 + b) 1 - (t (11 + b) 7 + t (11 + b) 6)) := by
      unfold lvS
      rw [if_pos cc.1, if_neg cc.2, lv_u]
    have hv : t (11 + b) 1 - (t (11 + b) 7 + t (11 + b) 6) = nI (p - (g + y)) := by
      rw [e1, e7, e6, nI_add, pk_sub (by omega)]
    have g1 : ∀ g, g ≠ 11 + b → lvS b t g = t g := fun g a => by rw [hl, u2_g a, u2_g a, u2_g a]
    have rb : ∀ k, k ≠ 6 → k ≠ 7 → k ≠ 8 → lvS b t (11 + b) k = t (11 + b) k := fun k a1 a2 a3 => by rw [hl, u2_ne (by omega), u2_ne (by omega), u2_ne (by omega)]
    have rb8 : lvS b t (11 + b) 8 = if p - (g + y) ≤ z then nI z else nI (p - (g + y)) := by
      rw [hl, u2_s, hv, e8]
      have q : (nI (p - (g + y)) ≤ nI z) = (p - (g + y) ≤ z) := nI_le_iff (by omega) (by omega)
      by_cases c1 : p - (g + y) ≤ z
      · rw [if_pos (q.mpr c1), if_pos c1]
      · rw [if_neg (fun w => c1 (q.mp w)), if_neg c1]
    generalize lvS b t = V at g1 rb rb8 ⊢
    have hr : ∀ c k, k < 6 → V (11 + c) k = t (11 + c) k := fun c' k hk => by
      by_cases hcb : c' = b
      · subst hcb; exact rb k (by omega) (by omega) (by omega)
      · rw [g1 _ (by omega)]
    have hr' : ∀ c k, c < n → k < 5 → V (11 + c) k = t (11 + c) k := fun c' k' _ hk => hr c' k' (by omega)
    have hla : ∀ c, laV t u c → laV V u c := fun c' q => by
      unfold laV at q ⊢
      rw [hr c' 3 (by omega), hr c' 2 (by omega), hr c' 4 (by omega), hr c' 1 (by omega), g1 2 (by omega)]
      exact q
    refine ⟨fun c' hc' => ?_, fun m' hm' => ⟨quV_mo (K2 m' hm').1 (by rw [g1 _ (by omega)]) (fun i => by rw [g1 _ (by omega)]) (by rw [g1 _ (by omega)]) hr', haV_mo (K2 m' hm').2 (Nat.le_refl _) (by rw [g1 _ (by omega)]) (by rw [g1 _ (by omega)]) hr'⟩, suV_mo K3 (by rw [g1 0 (by omega)]) (fun j hj => by rw [g1 _ (by omega)]) (fun c' k' _ hk => hr c' k' hk)⟩
    by_cases hcb : c' = b
    · subst hcb
      refine ⟨by rw [hr c' 3 (by omega), hr c' 4 (by omega), hr c' 1 (by omega), rb 9 (by omega) (by omega) (by omega)]; exact x1, by rw [rb 10 (by omega) (by omega) (by omega), hr c' 4 (by omega), hr c' 5 (by omega)]; exact x2, by rw [rb 9 (by omega) (by omega) (by omega)]; exact x3, by rw [rb 9 (by omega) (by omega) (by omega), hr c' 5 (by omega)]; exact x4, fun q => Or.inl ?_⟩
      rw [rb 9 (by omega) (by omega) (by omega)] at q
      rw [rb8, hr c' 1 (by omega), e1]
      have hz : z = p ∨ g + y = 0 := by
        rcases x5 q with q1 | ⟨_, _, _, q1⟩
        · rw [e8, e1, nI_eq_iff (by omega) (by omega)] at q1
          exact Or.inl q1
        · rw [e4, e1, nI_eq_iff (by omega) (by omega)] at q1
          exact Or.inr (by omega)
      by_cases c1 : p - (g + y) ≤ z
      · rw [if_pos c1]; congr 1; omega
      · rw [if_neg c1]; congr 1; omega
    · rw [g1 _ (by omega)]
      exact rwV_mo (K1 c' hc') (Nat.le_refl _) (fun q => ⟨by omega, hla c' q.2⟩)
  · have hl : lvS b t = t := by
      unfold lvS
      by_cases c1 : t 2 (nN (t (11 + b) 2)) = t 0 0
      · rw [if_pos c1, if_pos (Classical.not_not.mp fun q => cc ⟨c1, q⟩)]
      · rw [if_neg c1]
    rw [hl]
    refine ⟨fun c' hc' => ?_, K2, K3⟩
    by_cases hcb : c' = b
    · subst hcb
      refine rwV_mo (K1 c' hc') (Nat.le_refl _) (fun q => ?_)
      exfalso
      obtain ⟨_, q1, q2, q3⟩ := q
      refine cc ⟨by rw [q2, b0], ?_⟩
      rw [q1, b0, nI_lt_iff (by omega) (by omega)]
      omega
    · exact rwV_mo (K1 c' hc') (Nat.le_refl _) (fun q => ⟨by omega, q.2⟩)
theorem vl_all (h : dM n u 0 t) (k : vL n u 0 t) (hu : u < 1440) : ∀ b, b ≤ n → vL n u b (itF lvS b t) := by
  intro b
  induction b with
  | zero => intro _; exact k
  | succ b ih =>
    intro hb
    exact vl_step (lv_all h hu b (by omega)) (ih (by omega)) (by omega) hu
theorem vC_L (k : vC n u n t) : vL n u 0 t := by
  refine ⟨fun c hc => rwV_mo (k.1 c hc).1 (Nat.le_refl _) (fun q => ⟨by omega, q⟩), fun m hm => ⟨(k.2.1 m hm).1, haV_mo (k.2.1 m hm).2 (Nat.le_succ u) rfl rfl (fun _ _ _ _ => rfl)⟩, k.2.2⟩
theorem vL_M (k : vL n u n t) : vM n u t :=
  ⟨fun c hc => rwV_mo (k.1 c hc) (Nat.le_refl _) (fun q => absurd q.1 (by omega)), k.2⟩
/-- as the machines begin -/
theorem vM_0 (h : dI n u t) (k : vD n u t) (hu : u < 1440) : vM n u (mn0 t) := by
  have c4 := (cm_end h hu).2.2.2
  have := vl_all c4 (vC_L (vc_all h k hu n (Nat.le_refl _))) hu n (Nat.le_refl _)
  unfold mn0
  rw [dI_n h]
  exact vL_M this
end VA
