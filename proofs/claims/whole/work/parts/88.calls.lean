/-! both objects in the law's room, call by call -/
/-- class and reference after the same calls: f the first place of the class's ring, z states kept, P characters y on the pad -/
def RL (K : Nat → Sg) (d v x c : Nat → Int32) (R : Nat → Sg) (A : Nat → Nat → Int32) (f z P : Nat) (y : Nat → Nat) : Prop :=
  (d 0 = nI f ∧ d 1 = nI z ∧ f < 7 ∧ z ≤ 6 ∧ c 0 = nI z) ∧ dR (K 0) (R 0) ∧ (∀ j, j < z → dR (K (2 + (f + j) % 7)) (R (2 + j))) ∧
  (∀ k, k < 2 → (v k = 0 ∧ A 0 k = 0) ∨ (v k = 1 ∧ A 0 k = 1 ∧ dR (K (9 + k)) (R (8 + k)))) ∧
  (P ≤ 80 ∧ d 2 = nI P ∧ c 1 = nI P ∧ ∀ k, k < P → x k = nI (y k) ∧ A 1 k = nI (y k) ∧ 33 ≤ y k ∧ y k ≤ 126)
/-- one round of the law's loop -/
def NX (N : qHp) (i : Nat) (K : Nat → Sg) (d v x c : Nat → Int32) (R : Nat → Sg) (A : Nat → Nat → Int32) : Prop :=
  ∃ K' d' v' x' c' R' A' f' z' P' y', RL K' d' v' x' c' R' A' f' z' P' y' ∧ qEx 150 (18, [some (.ref 0), some (.ref 4), some (.ref 627), some (.int (nI i))], [], wm (kW N K d v x) c R A) = qEx 150 (18, [some (.ref 0), some (.ref 4), some (.ref 627), some (.int (nI (i + 5)))], [], wm (kW N K' d' v' x') c' R' A')
section RL
variable {N : qHp} {K K' : Nat → Sg} {d d' v v' x x' c c' : Nat → Int32} {R R' : Nat → Sg} {A A' : Nat → Nat → Int32} {f z P n u i P' : Nat} {y y' : Nat → Nat} {xs : List Int32} {V V' : Sg}
theorem RL_mo (H : RL K d v x c R A f z P y) (hK0 : K' 0 = K 0) (hK : ∀ i, 2 ≤ i → i ≠ 2 + (f + z) % 7 → K' i = K i) (hR0 : R' 0 = R 0) (hR : ∀ i, 2 ≤ i → R' i = R i) (hd : d' 0 = d 0 ∧ d' 1 = d 1 ∧ d' 2 = d 2) (hc : c' 0 = c 0 ∧ c' 1 = c 1) (hA : A' 0 = A 0 ∧ A' 1 = A 1) : RL K' d' v x c' R' A' f z P y := by
  obtain ⟨⟨a1, a2, a3, a4, a5⟩, b, e, g, ⟨p1, p2, p3, p4⟩⟩ := H
  refine ⟨⟨hd.1.trans a1, hd.2.1.trans a2, a3, a4, hc.1.trans a5⟩, by rw [hK0, hR0]; exact b, fun j hj => by rw [hK _ (by omega) (by omega), hR _ (by omega)]; exact e j hj, fun k hk => by rw [hK _ (by omega) (by omega), hR _ (by omega), hA.1]; exact g k hk, p1, hd.2.2.trans p2, hc.2.trans p3, fun k hk => by rw [hA.2]; exact p4 k hk⟩
theorem RL_rec (H : RL K d v x c R A f z P y) (hr : rI n u (K 0) (R 0)) (hV : dR V V') (hd : d' 0 = kpD d f z 0 ∧ d' 1 = kpD d f z 1) (hc : c' 0 = nI (rcK z)) (hA : A' 0 = A 0) (hP : P' ≤ 80 ∧ d' 2 = nI P' ∧ c' 1 = nI P' ∧ ∀ k, k < P' → x' k = nI (y' k) ∧ A' 1 k = nI (y' k) ∧ 33 ≤ y' k ∧ y' k ≤ 126) : ∃ f' z', RL (us (ntK K f z n) 0 V) d' v x' c' (us (rcR R z) 0 V') A' f' z' P' y' := by
  obtain ⟨⟨a1, a2, a3, a4, a5⟩, b, e, g, _⟩ := H
  have slot : ∀ k, k < 2 → us (ntK K f z n) 0 V (9 + k) = K (9 + k) ∧ us (rcR R z) 0 V' (8 + k) = R (8 + k) := fun k hk => by
    refine ⟨?_, ?_⟩
    · unfold ntK
      rw [us_ne (by omega), us_ne (by omega)]
    · unfold rcR
      rw [us_ne (by omega)]
      split
      · rw [us_ne (by omega), if_neg (by omega)]
      · rw [us_ne (by omega)]
  have hs : ∀ k, k < 2 → (v k = 0 ∧ A' 0 k = 0) ∨ (v k = 1 ∧ A' 0 k = 1 ∧ dR (us (ntK K f z n) 0 V (9 + k)) (us (rcR R z) 0 V' (8 + k))) := fun k hk => by
    rw [(slot k hk).1, (slot k hk).2, hA]; exact g k hk
  by_cases hz : z < 6
  · unfold kpD at hd
    rw [if_pos hz, up_n (by omega), up_at] at hd
    refine ⟨f, z + 1, ⟨hd.1.trans a1, hd.2, a3, by omega, ?_⟩, by rw [us_s, us_s]; exact hV, fun j hj => ?_, hs, hP⟩
    · rw [hc]; unfold rcK; rw [if_neg (by omega)]
    · unfold ntK rcR
      rw [us_ne (by omega), us_ne (show 2 + j ≠ 0 by omega), if_neg (by omega)]
      by_cases c : j = z
      · rw [c, us_s, us_s]
        exact ⟨n, u, rI_tv hr⟩
      · rw [us_ne (by omega), us_ne (by omega)]
        exact e j (by omega)
  · have z6 : z = 6 := by omega
    subst z6
    unfold kpD at hd
    rw [if_neg hz, up_at, up_n (by omega)] at hd
    refine ⟨(f + 1) % 7, 6, ⟨hd.1, hd.2.trans a2, by omega, by omega, hc⟩, by rw [us_s, us_s]; exact hV, fun j hj => ?_, hs, hP⟩
    unfold ntK rcR
    rw [us_ne (by omega), us_ne (show 2 + j ≠ 0 by omega), if_pos rfl]
    by_cases c : j = 5
    · rw [c, show 2 + ((f + 1) % 7 + 5) % 7 = 2 + (f + 6) % 7 by omega, us_s, us_s]
      exact ⟨n, u, rI_tv hr⟩
    · rw [us_ne (by omega), us_ne (by omega), if_pos (by omega), show 2 + ((f + 1) % 7 + j) % 7 = 2 + (f + (j + 1)) % 7 by omega]
      exact e (j + 1) (by omega)
theorem rl_hs (hN : stOK N) (H : RL K d v x c R A f z P y) (hr : rI n u (K 0) (R 0)) : hsOK (wm N c R A) K d f z n :=
  ⟨st_wm hN, H.1.1, H.1.2.1, H.1.2.2.1, H.1.2.2.2.1, (rI_00 hr).2.2.1, (rI_00 hr).2.2.2.2.1⟩
/-- a change that was refused: the class has noted a state -/
theorem RL_nt (H : RL K d v x c R A f z P y) : RL (ntK K f z n) d v x c R A f z P y := by
  refine RL_mo H ?_ (fun i _ h2 => ?_) rfl (fun _ _ => rfl) ⟨rfl, rfl, rfl⟩ ⟨rfl, rfl⟩ ⟨rfl, rfl⟩
  · unfold ntK; rw [us_ne (by omega)]
  · unfold ntK; rw [us_ne h2]
theorem rl_P (H : RL K d v x c R A f z P y) : P ≤ 80 ∧ kpD d f z 2 = nI P ∧ up c 0 (nI (rcK z)) 1 = nI P ∧ ∀ k, k < P → x k = nI (y k) ∧ A 1 k = nI (y k) ∧ 33 ≤ y k ∧ y k ≤ 126 := by
  obtain ⟨p1, p2, p3, p4⟩ := H.2.2.2.2
  refine ⟨p1, ?_, ?_, p4⟩
  · unfold kpD
    split
    · rw [up_n (by omega)]; exact p2
    · rw [up_n (by omega)]; exact p2
  · rw [up_n (by omega)]; exact p3
theorem cs_d (h0 : N.2 0 = some (14, xs.map .int)) (H : RL K d v x c R A f z P y) (hi : i + 5 ≤ xs.length) (hl : xs.length ≤ 2560) (hz : ∀ j, j < 20 → xg xs i &&& 31 ≠ nI j) : NX N i K d v x c R A :=
  ⟨K, d, v, x, c, R, A, f, z, P, y, H, ls_d (lwR_of h0) hi hl hz⟩
theorem cs_0 (hN : stOK N) (h0 : N.2 0 = some (14, xs.map .int)) (H : RL K d v x c R A f z P y) (hi : i + 5 ≤ xs.length) (hl : xs.length ≤ 2560) (hz : xg xs i &&& 31 = 0) : NX N i K d v x c R A := by
  obtain ⟨n, u, hr⟩ := H.2.1
  have hs := rl_hs hN H hr
  by_cases h : (0 ≤ xg xs (i + 1) ∧ xg xs (i + 1) ≤ 8) ∧ isF (xg xs (i + 1)) (xg xs (i + 2)) = true
  · obtain ⟨j, hj, ej⟩ := nI_bt (n := 8) (by omega) h.1.1 h.1.2
    have hv := h.2
    rw [ej] at hv
    obtain ⟨w, ew, _⟩ := st_of (by omega) (hr.1.1.2.1 j (by omega))
    have e := sG_g hr.2.1 (g := 1) (k := j) (by omega) (by omega)
    have r1 := hw_k (s_64 (v := v) (x := x) hs (show j < 9 by omega) hv (by rw [e, ew]; exact nI_pos (by omega)))
    rw [e] at r1
    have r2 := s_113 (M := kW N (us (ntK K f z n) 0 (u2 (K 0) 1 j (xg xs (i + 2)))) (kpD d f z) v x) (R := R) (A := A) (show j < 9 by omega) hv H.1.2.2.2.2 H.1.2.2.2.1
    obtain ⟨f', z', H'⟩ := RL_rec H hr ⟨n, u, rI_set hr hv⟩ (d' := kpD d f z) ⟨rfl, rfl⟩ (c' := up c 0 (nI (rcK z))) up_at rfl (rl_P H)
    exact ⟨_, _, _, _, _, _, _, f', z', P, y, H', ls_0 (lwR_of h0) (lwR_of h0) hi hl hz (by rw [ej]; exact r1) (by rw [ej]; exact r2)⟩
  · exact ⟨_, _, _, _, _, _, _, f, z, P, y, RL_nt (n := n) H, ls_0 (lwR_of h0) (lwR_of h0) hi hl hz (hw_k (s_64_0 hs h)) (s_113_0 h)⟩
theorem cs_1 (hN : stOK N) (h0 : N.2 0 = some (14, xs.map .int)) (H : RL K d v x c R A f z P y) (hi : i + 5 ≤ xs.length) (hl : xs.length ≤ 2560) (hz : xg xs i &&& 31 = 1) : NX N i K d v x c R A := by
  obtain ⟨n, u, hr⟩ := H.2.1
  have hs := rl_hs hN H hr
  by_cases h : 0 ≤ xg xs (i + 1) ∧ xg xs (i + 1) ≤ 7
  · have em : mtOK (K 0) (xg xs (i + 2)) ↔ mtOK (R 0) (xg xs (i + 2)) := by unfold mtOK; rw [sG_0 hr.2.1 (by omega)]
    by_cases h2 : mtOK (R 0) (xg xs (i + 2))
    · obtain ⟨r, hr7, er⟩ := nI_bt (n := 7) (by omega) h.1 h.2
      obtain ⟨w, ew, hw⟩ := mt_0 hr h2
      have e := sG_g hr.2.1 (g := 2) (k := r) (by omega) (by omega)
      obtain ⟨q, hq, eq⟩ := hr.1.1.2.2 r (by omega)
      have r1 := hw_k (s_65 (v := v) (x := x) hs (show r < 8 by omega) (em.mpr h2) (by rw [e, eq]; exact nI_pos (by omega)))
      rw [e] at r1
      have r2 := s_116 (M := kW N (us (ntK K f z n) 0 (u2 (u2 (K 0) 2 r (xg xs (i + 2))) 0 6 (K 0 0 0))) (kpD d f z) v x) (R := R) (A := A) (show r < 8 by omega) h2 H.1.2.2.2.2 H.1.2.2.2.1
      obtain ⟨f', z', H'⟩ := RL_rec (V := u2 (u2 (K 0) 2 r (xg xs (i + 2))) 0 6 (K 0 0 0)) (V' := u2 (R 0) 2 r (xg xs (i + 2))) H hr ⟨n, u, by rw [ew]; exact rI_cut hr hw⟩ (d' := kpD d f z) ⟨rfl, rfl⟩ (c' := up c 0 (nI (rcK z))) up_at rfl (rl_P H)
      exact ⟨_, _, _, _, _, _, _, f', z', P, y, H', ls_1 (lwR_of h0) (lwR_of h0) hi hl hz (by rw [er]; exact r1) (by rw [er]; exact r2)⟩
    · exact ⟨_, _, _, _, _, _, _, f, z, P, y, RL_nt (n := n) H, ls_1 (lwR_of h0) (lwR_of h0) hi hl hz (hw_k (s_65_1 hs h (fun q => h2 (em.mp q)))) (s_116_1 h h2)⟩
  · exact ⟨_, _, _, _, _, _, _, f, z, P, y, RL_nt (n := n) H, ls_1 (lwR_of h0) (lwR_of h0) hi hl hz (hw_k (s_65_0 hs h)) (s_116_0 h)⟩
theorem cs_2 (hN : stOK N) (h0 : N.2 0 = some (14, xs.map .int)) (H : RL K d v x c R A f z P y) (hi : i + 5 ≤ xs.length) (hl : xs.length ≤ 2560) (hz : xg xs i &&& 31 = 2) : NX N i K d v x c R A := by
  obtain ⟨n, u, hr⟩ := H.2.1
  have hs := rl_hs hN H hr
  have em := sE_ma (m := xg xs (i + 1)) (p := xg xs (i + 2)) (r := xg xs (i + 3)) (z := xg xs (i + 4)) (rI_E hr)
  by_cases h : maM (R 0) (xg xs (i + 1)) (xg xs (i + 2)) (xg xs (i + 3)) (xg xs (i + 4)) = 0
  · obtain ⟨m', p', r', c', e1, e2, e3, e4, k1, k2, k3, k4, k5, hn40⟩ := ma_0 hr h
    have r1 := hw_k (s_66 (v := v) (x := x) hs (em.trans h))
    have r2 := s_119 (M := kW N (us (ntK K f z n) 0 (u2 (u2 (bgF (K 0) n (xg xs (i + 1)) (xg xs (i + 2)) (xg xs (i + 3)) (xg xs (i + 4))) 0 6 (K 0 0 0)) 0 1 (nI (n + 1)))) (kpD d f z) v x) (R := R) (A := A) h hn40 hr.1.1.1.2.1 H.1.2.2.2.2 H.1.2.2.2.1
    obtain ⟨f', z', H'⟩ := RL_rec (V := u2 (u2 (bgF (K 0) n (xg xs (i + 1)) (xg xs (i + 2)) (xg xs (i + 3)) (xg xs (i + 4))) 0 6 (K 0 0 0)) 0 1 (nI (n + 1))) (V' := u2 (bgF (R 0) n (xg xs (i + 1)) (xg xs (i + 2)) (xg xs (i + 3)) (xg xs (i + 4))) 0 1 (nI (n + 1))) H hr ⟨n + 1, u, by rw [e1, e2, e3, e4]; exact rI_mail hr hn40 k1 k2 k3 k4 k5⟩ (d' := kpD d f z) ⟨rfl, rfl⟩ (c' := up c 0 (nI (rcK z))) up_at rfl (rl_P H)
    exact ⟨_, _, _, _, _, _, _, f', z', P, y, H', ls_2 (lwR_of h0) (lwR_of h0) hi hl hz r1 r2⟩
  · have r1 := hw_k (s_66_0 (v := v) (x := x) hs (by rw [em]; exact h))
    rw [em] at r1
    exact ⟨_, _, _, _, _, _, _, f, z, P, y, RL_nt (n := n) H, ls_2 (lwR_of h0) (lwR_of h0) hi hl hz r1 (s_119_0 h)⟩
theorem cs_3 (hN : stOK N) (h0 : N.2 0 = some (14, xs.map .int)) (H : RL K d v x c R A f z P y) (hi : i + 5 ≤ xs.length) (hl : xs.length ≤ 2560) (hz : xg xs i &&& 31 = 3) : NX N i K d v x c R A := by
  obtain ⟨n, u, hr⟩ := H.2.1
  have hs := rl_hs hN H hr
  have em := sE_mp (z := xg xs (i + 1)) (rI_E hr)
  by_cases h : maP (R 0) (xg xs (i + 1)) = 0
  · obtain ⟨k, ek, k1, k2⟩ := mp_0 hr h
    obtain ⟨p1, p2, p3, p4⟩ := lp_ok hr k2
    have r1 := hw_k (s_67 (v := v) (x := x) (k := k) hs (by rw [← ek]; exact em.trans h) (by omega) p1 (by rw [p3]; exact nI_pos (by have := (rI_00 hr).2.2.2.2.2; omega)))
    rw [p3] at r1
    have r2 := s_121 (M := kW N (us (ntK K f z n) 0 (lpF (K 0 0 0 + nI k) k (K 0))) (kpD d f z) v x) (R := R) (A := A) (n := k) (by rw [← ek]; exact h) (by omega) (dy_all hr.1 k k2).2.1 H.1.2.2.2.2 H.1.2.2.2.1
    rw [show (itF (fun _ => mnF) k (R 0)) 0 0 = nI (u + k) from p4] at r2
    obtain ⟨f', z', H'⟩ := RL_rec H hr ⟨n, u + k, p2⟩ (d' := kpD d f z) ⟨rfl, rfl⟩ (c' := up c 0 (nI (rcK z))) up_at rfl (rl_P H)
    exact ⟨_, _, _, _, _, _, _, f', z', P, y, H', ls_3 (lwR_of h0) (lwR_of h0) hi hl hz (by rw [ek]; exact r1) (by rw [ek]; exact r2)⟩
  · have r1 := hw_k (s_67_0 (v := v) (x := x) hs (by rw [em]; exact h))
    rw [em] at r1
    exact ⟨_, _, _, _, _, _, _, f, z, P, y, RL_nt (n := n) H, ls_3 (lwR_of h0) (lwR_of h0) hi hl hz r1 (s_121_0 h)⟩
theorem bt_n {a : Int32} (hn : n ≤ 40) (h : 0 ≤ a ∧ a ≤ nI n - 1) : ∃ b, b < n ∧ a = nI b := by
  by_cases c : n = 0
  · rw [c] at h
    exact absurd (Int32.le_trans h.1 h.2) (by decide)
  · rw [show (1 : Int32) = nI 1 from rfl, pk_sub (by omega)] at h
    obtain ⟨b, hb, eb⟩ := nI_bt (by omega) h.1 h.2
    exact ⟨b, by omega, eb⟩
theorem cs_4 (h0 : N.2 0 = some (14, xs.map .int)) (H : RL K d v x c R A f z P y) (hi : i + 5 ≤ xs.length) (hl : xs.length ≤ 2560) (hz : xg xs i &&& 31 = 4) : NX N i K d v x c R A := by
  obtain ⟨n, u, hr⟩ := H.2.1
  obtain ⟨s0, t0, s1, t1, hn, hu⟩ := rI_00 hr
  refine ⟨K, d, v, x, c, R, A, f, z, P, y, H, ?_⟩
  by_cases h : 0 ≤ xg xs (i + 1) ∧ xg xs (i + 1) ≤ nI n - 1
  · obtain ⟨b, hb, eb⟩ := bt_n hn h
    by_cases h2 : 0 ≤ xg xs (i + 2) ∧ xg xs (i + 2) ≤ 10
    · obtain ⟨w, hw, ew⟩ := nI_bt (n := 10) (by omega) h2.1 h2.2
      have r1 := hw_k (M := N) (c := c) (R := R) (A := A) (s_69 (w := w) (d := d) (v := v) (x := x) s1 hn hb (by omega))
      rw [sG_b hr.2.1 hb (k := w)] at r1
      exact ls_4 (lwR_of h0) (lwR_of h0) hi hl hz (by rw [eb, ew]; exact r1) (by rw [eb, ew]; exact s_122 t1 hn hb (by omega))
    · exact ls_4 (lwR_of h0) (lwR_of h0) hi hl hz (by rw [eb]; exact hw_k (s_69_1 s1 hn hb h2)) (s_122_1 (by rw [t1]; exact h) h2)
  · exact ls_4 (lwR_of h0) (lwR_of h0) hi hl hz (hw_k (s_69_0 s1 hn (by rw [s1]; exact h))) (s_122_0 (by rw [t1]; exact h))
theorem cs_5 (h0 : N.2 0 = some (14, xs.map .int)) (H : RL K d v x c R A f z P y) (hi : i + 5 ≤ xs.length) (hl : xs.length ≤ 2560) (hz : xg xs i &&& 31 = 5) : NX N i K d v x c R A := by
  obtain ⟨n, u, hr⟩ := H.2.1
  refine ⟨K, d, v, x, c, R, A, f, z, P, y, H, ?_⟩
  by_cases h : 0 ≤ xg xs (i + 1) ∧ xg xs (i + 1) ≤ 2
  · obtain ⟨m, hm, em⟩ := nI_bt (n := 2) (by omega) h.1 h.2
    by_cases h2 : 0 ≤ xg xs (i + 2) ∧ xg xs (i + 2) ≤ 5
    · obtain ⟨w, hw, ew⟩ := nI_bt (n := 5) (by omega) h2.1 h2.2
      have r1 := hw_k (M := N) (c := c) (R := R) (A := A) (s_70 (K := K) (d := d) (v := v) (x := x) (show m < 3 by omega) (show w < 6 by omega))
      rw [sE_mc (rI_E hr) (by omega) (by omega)] at r1
      exact ls_5 (lwR_of h0) (lwR_of h0) hi hl hz (by rw [em, ew]; exact r1) (by rw [em, ew]; exact s_123 (by omega) (by omega))
    · exact ls_5 (lwR_of h0) (lwR_of h0) hi hl hz (by rw [em]; exact hw_k (s_70_1 (by omega) h2)) (s_123_1 h h2)
  · exact ls_5 (lwR_of h0) (lwR_of h0) hi hl hz (hw_k (s_70_0 h)) (s_123_0 h)
theorem cs_6 (h0 : N.2 0 = some (14, xs.map .int)) (H : RL K d v x c R A f z P y) (hi : i + 5 ≤ xs.length) (hl : xs.length ≤ 2560) (hz : xg xs i &&& 31 = 6) : NX N i K d v x c R A := by
  obtain ⟨n, u, hr⟩ := H.2.1
  obtain ⟨s0, t0, s1, t1, hn, hu⟩ := rI_00 hr
  refine ⟨K, d, v, x, c, R, A, f, z, P, y, H, ?_⟩
  by_cases h : 0 ≤ xg xs (i + 1) ∧ xg xs (i + 1) ≤ 7
  · obtain ⟨m, hm, em⟩ := nI_bt (n := 7) (by omega) h.1 h.2
    by_cases h2 : 0 ≤ xg xs (i + 2) ∧ xg xs (i + 2) ≤ 4
    · obtain ⟨w, hw, ew⟩ := nI_bt (n := 4) (by omega) h2.1 h2.2
      have r1 := hw_k (M := N) (c := c) (R := R) (A := A) (s_71 (K := K) (d := d) (v := v) (x := x) (show m < 8 by omega) (show w < 5 by omega) s1 hn)
      rw [sE_rt (rI_E hr) (by omega)] at r1
      exact ls_6 (lwR_of h0) (lwR_of h0) hi hl hz (by rw [em, ew]; exact r1) (by rw [em, ew]; exact s_125 (by omega) (by omega) t1 hn)
    · exact ls_6 (lwR_of h0) (lwR_of h0) hi hl hz (hw_k (s_71_1 h h2)) (s_125_1 h h2)
  · exact ls_6 (lwR_of h0) (lwR_of h0) hi hl hz (hw_k (s_71_0 h)) (s_125_0 h)
theorem cs_7 (h0 : N.2 0 = some (14, xs.map .int)) (H : RL K d v x c R A f z P y) (hi : i + 5 ≤ xs.length) (hl : xs.length ≤ 2560) (hz : xg xs i &&& 31 = 7) : NX N i K d v x c R A := by
  obtain ⟨n, u, hr⟩ := H.2.1
  obtain ⟨s0, t0, s1, t1, hn, hu⟩ := rI_00 hr
  refine ⟨K, d, v, x, c, R, A, f, z, P, y, H, ?_⟩
  have r1 := hw_k (M := N) (c := c) (R := R) (A := A) (s_72 (K := K) (d := d) (v := v) (x := x) (y := xg xs (i + 1)) s1 hn)
  have hE := rI_E hr
  have e : cnV (K 0) (d 2) (d 1) n (xg xs (i + 1)) = cnV (R 0) (c 1) (c 0) n (xg xs (i + 1)) := by
    unfold cnV
    rw [H.2.2.2.2.2.1, H.2.2.2.2.2.2.1, H.1.2.1, H.1.2.2.2.2, sE_sm hE (by omega) n (Nat.le_refl _), sE_sm hE (w := 5) (by omega) n (Nat.le_refl _), sE_sm hE (w := 7) (by omega) n (Nat.le_refl _), sE_sm hE (w := 8) (by omega) n (Nat.le_refl _), hE.2.1 0 (by omega), hE.2.1 1 (by omega), hE.2.1 2 (by omega), hE.2.1 3 (by omega), sG_g hr.2.1 (g := 1) (by omega) (by omega)]
  rw [e] at r1
  exact ls_7 (lwR_of h0) (lwR_of h0) hi hl hz r1 (s_126 t1 hn)
theorem cs_8 (h0 : N.2 0 = some (14, xs.map .int)) (H : RL K d v x c R A f z P y) (hi : i + 5 ≤ xs.length) (hl : xs.length ≤ 2560) (hz : xg xs i &&& 31 = 8) : NX N i K d v x c R A := by
  obtain ⟨n, u, hr⟩ := H.2.1
  obtain ⟨s0, t0, s1, t1, hn, hu⟩ := rI_00 hr
  refine ⟨K, d, v, x, c, R, A, f, z, P, y, H, ?_⟩
  by_cases h : 0 ≤ xg xs (i + 1) ∧ xg xs (i + 1) ≤ 4
  · have r1 := hw_k (M := N) (c := c) (R := R) (A := A) (s_73 (K := K) (d := d) (v := v) (x := x) h s1 hn)
    rw [sE_dy (rI_E hr) n (Nat.le_refl _)] at r1
    exact ls_8 (lwR_of h0) (lwR_of h0) hi hl hz r1 (s_127 h t1 hn)
  · exact ls_8 (lwR_of h0) (lwR_of h0) hi hl hz (hw_k (s_73_0 h)) (s_127_0 h)
theorem cs_9 (h0 : N.2 0 = some (14, xs.map .int)) (H : RL K d v x c R A f z P y) (hi : i + 5 ≤ xs.length) (hl : xs.length ≤ 2560) (hz : xg xs i &&& 31 = 9) : NX N i K d v x c R A := by
  obtain ⟨n, u, hr⟩ := H.2.1
  obtain ⟨s0, t0, s1, t1, hn, hu⟩ := rI_00 hr
  refine ⟨K, d, v, x, c, R, A, f, z, P, y, H, ?_⟩
  have hq : ∀ j, j < 3 → ∃ q, q ≤ 40 ∧ R 0 6 j = nI q := fun j hj => by
    obtain ⟨q, eq, Q⟩ := hr.1.2.2.1 j hj
    have := rw_le hn Q
    exact ⟨q, by omega, eq⟩
  have hqK : ∀ j, j < 3 → ∃ q, q ≤ 40 ∧ K 0 6 j = nI q := fun j hj => by rw [sG_g hr.2.1 (by omega) (by omega)]; exact hq j hj
  have eq : quOK (K 0) (xg xs (i + 1)) (xg xs (i + 2)) ↔ quOK (R 0) (xg xs (i + 1)) (xg xs (i + 2)) := by
    unfold quOK; rw [sG_g hr.2.1 (g := 6) (by omega) (by omega)]
  by_cases h : quOK (R 0) (xg xs (i + 1)) (xg xs (i + 2))
  · have h' := h
    obtain ⟨h1, h2, h3⟩ := h'
    obtain ⟨m, hm, em⟩ := nI_bt (n := 2) (by omega) h1.1 h1.2
    obtain ⟨q, hq1, hq2⟩ := hq m (by omega)
    rw [em, nN_nI (by omega), hq2] at h3
    obtain ⟨j, hj, ej⟩ := bt_n hq1 ⟨h2, h3⟩
    have r1 := hw_k (M := N) (c := c) (R := R) (A := A) (s_74 (K := K) (d := d) (v := v) (x := x) (show m < 3 by omega) (by rw [sG_g hr.2.1 (by omega) (by omega)]; exact hq2) hq1 hj)
    rw [sG_g hr.2.1 (g := 7 + m) (by omega) (by omega)] at r1
    exact ls_9 (lwR_of h0) (lwR_of h0) hi hl hz (by rw [em, ej]; exact r1) (by rw [em, ej]; exact s_128 (by omega) hq2 hq1 hj)
  · exact ls_9 (lwR_of h0) (lwR_of h0) hi hl hz (hw_k (s_74_0 (fun q => h (eq.mp q)) hqK)) (s_128_0 h)
end RL
