/-! both objects in the law's room, the other calls; the loop -/
section RM
variable {N : qHp} {K K' : Nat → Sg} {d d' v v' x x' c c' : Nat → Int32} {R R' : Nat → Sg} {A A' : Nat → Nat → Int32} {f z P n u i P' : Nat} {y y' : Nat → Nat} {xs : List Int32} {V V' s t T : Sg}
theorem rI_T (h : rI n u s t) (hv : ∀ g k, g < 11 + n → T g k = s g k) : rI n u T t := by
  obtain ⟨a1, a2, a3, a4, e, a5, a6⟩ := h
  refine ⟨a1, fun g k h1 h2 h3 => by rw [hv g k h1]; exact a2 g k h1 h2 h3, by rw [hv _ _ (by omega)]; exact a3, by rw [hv _ _ (by omega), hv _ _ (by omega), hv _ _ (by omega), hv _ _ (by omega)]; exact a4, e, by rw [hv _ _ (by omega)]; exact a5, evJ_mo a6 (fun b hb => hv _ _ (by omega)) (fun r _ => hv _ _ (by omega))⟩
theorem RL_1 (H : RL K d v x c R A f z P y) : RL (us K 1 V) d v x c (us R 1 V') A f z P y :=
  RL_mo H (us_ne (by omega)) (fun i _ _ => us_ne (by omega)) (us_ne (by omega)) (fun i _ => us_ne (by omega)) ⟨rfl, rfl, rfl⟩ ⟨rfl, rfl⟩ ⟨rfl, rfl⟩
theorem cs_10 (h0 : N.2 0 = some (14, xs.map .int)) (H : RL K d v x c R A f z P y) (hi : i + 5 ≤ xs.length) (hl : xs.length ≤ 2560) (hz : xg xs i &&& 31 = 10) : NX N i K d v x c R A := by
  obtain ⟨n, u, hr⟩ := H.2.1
  obtain ⟨s0, t0, s1, t1, hn, hu⟩ := rI_00 hr
  obtain ⟨M, m1, ⟨m2, m3, m4⟩, ⟨m5, m6, m7⟩, m8⟩ := so_at (rI_tv (s0 := K 1) hr)
  have r1 := hw_k (M := N) (c := c) (R := R) (A := A) (s_75 (K := K) (d := d) (v := v) (x := x) (N := M) s1 hn m2 m3 m1 m4)
  rw [show (if alB (pmN (trF K n) M) n = true then pmN (trF K n) M 0 0 else -6) = _ from m8] at r1
  exact ⟨_, _, _, _, _, _, _, f, z, P, y, RL_1 H, ls_10 (lwR_of h0) (lwR_of h0) hi hl hz r1 (s_130 hn m5 m6 m7)⟩
theorem cs_11 (h0 : N.2 0 = some (14, xs.map .int)) (H : RL K d v x c R A f z P y) (hi : i + 5 ≤ xs.length) (hl : xs.length ≤ 2560) (hz : xg xs i &&& 31 = 11) : NX N i K d v x c R A := by
  obtain ⟨n, u, hr⟩ := H.2.1
  obtain ⟨s0, t0, s1, t1, hn, hu⟩ := rI_00 hr
  obtain ⟨m1, m2, m3, S, hS, eS⟩ := me_ms (rI_tv (s0 := K 1) hr) 39960
  have r1 := hw_k (M := N) (c := c) (R := R) (A := A) (s_76 (K := K) (d := d) (v := v) (x := x) s1 hn m1)
  have e := m3 (by rw [eS, show (39960 : Int32) = nI 39960 from rfl, nI_le_iff (by omega) (by omega)]; exact hS)
  obtain ⟨w, r2⟩ := s_132 (M := kW N (us K 1 (meF n 39960 1440 (trF K n))) d v x) (c := c) (R := R) (A := A) (by rw [u2_id]; exact dy_ok hr.1)
  have e2 : msV (R 0) 2 (R 0 1 2) = smF (meF n 39960 1440 (trF K n)) 8 (-6) n := by
    unfold msV
    rw [u2_id, t0, t1, nN_nI (by omega), nN_nI (by omega)]
    exact e.symm
  rw [e2] at r2
  exact ⟨_, _, _, _, _, _, _, f, z, P, y, RL_1 H, ls_11 (lwR_of h0) (lwR_of h0) hi hl hz r1 r2⟩
theorem cs_12 (hN : stOK N) (h0 : N.2 0 = some (14, xs.map .int)) (H : RL K d v x c R A f z P y) (hi : i + 5 ≤ xs.length) (hl : xs.length ≤ 2560) (hz : xg xs i &&& 31 = 12) : NX N i K d v x c R A := by
  obtain ⟨n, u, hr⟩ := H.2.1
  obtain ⟨s0, t0, s1, t1, hn, hu⟩ := rI_00 hr
  by_cases h : leOK (xg xs (i + 1)) (xg xs (i + 2))
  · obtain ⟨j, ej, hj⟩ : ∃ j, xg xs (i + 1) = nI j ∧ (j = 2 ∨ j = 6 ∨ j = 7 ∨ j = 8) := by
      rcases h.1 with q | q
      · exact ⟨2, q, Or.inl rfl⟩
      · obtain ⟨j, hj, ej⟩ := nI_bt (n := 8) (by omega) (Int32.le_trans (by decide) q.1) q.2
        have q1 := q.1
        rw [ej, show (6 : Int32) = nI 6 from rfl, nI_le_iff (by omega) (by omega)] at q1
        exact ⟨j, ej, by omega⟩
    obtain ⟨w1, r1⟩ := s_77 (M := wm N c R A) (d := d) (v := v) (x := x) (sR := R 0) (st_wm hN) hj h.2 s1 hn (fun w T hw hT => by
      obtain ⟨m1, m2, m3, _⟩ := me_ms (rI_set (rI_T hr hT) hw) (xg xs (i + 2))
      refine ⟨m1, ?_⟩
      unfold msV
      rw [t0, t1, nN_nI (by omega), nN_nI (by omega)]
      exact m2)
    obtain ⟨w2, r2⟩ := s_133 (M := kW N (us K 1 w1) d v x) (c := c) (A := A) (R := R) hj h.2 (fun w hw => dy_ok (rI_set hr hw).1)
    exact ⟨_, _, _, _, _, _, _, f, z, P, y, RL_1 H, ls_12 (lwR_of h0) (lwR_of h0) hi hl hz (by rw [ej]; exact hw_k r1) (by rw [ej]; exact r2)⟩
  · exact ⟨K, d, v, x, c, R, A, f, z, P, y, H, ls_12 (lwR_of h0) (lwR_of h0) hi hl hz (hw_k (s_77_0 h)) (s_133_0 h)⟩
/-- the pad has changed -/
theorem RL_pad (H : RL K d v x c R A f z P y) (hd : d' 0 = d 0 ∧ d' 1 = d 1) (hc : c' 0 = c 0) (hA : A' 0 = A 0) (hP : P' ≤ 80 ∧ d' 2 = nI P' ∧ c' 1 = nI P' ∧ ∀ k, k < P' → x' k = nI (y' k) ∧ A' 1 k = nI (y' k) ∧ 33 ≤ y' k ∧ y' k ≤ 126) : RL K d' v x' c' R A' f z P' y' := by
  obtain ⟨⟨a1, a2, a3, a4, a5⟩, b, e, g, _⟩ := H
  exact ⟨⟨hd.1.trans a1, hd.2.trans a2, a3, a4, hc.trans a5⟩, b, e, fun k hk => by rw [hA]; exact g k hk, hP⟩
theorem cs_13 (h0 : N.2 0 = some (14, xs.map .int)) (H : RL K d v x c R A f z P y) (hi : i + 5 ≤ xs.length) (hl : xs.length ≤ 2560) (hz : xg xs i &&& 31 = 13) : NX N i K d v x c R A := by
  obtain ⟨p1, p2, p3, p4⟩ := H.2.2.2.2
  by_cases h : ∃ m, tdOK (byB (lwP xs i)) m
  · obtain ⟨m, hm⟩ := h
    obtain ⟨m8, m0, mc, _⟩ := td_n.mp hm
    by_cases h2 : P + m ≤ 80
    · have r1 := hw_k (M := N) (c := c) (R := R) (A := A) (s_78 (K := K) (v := v) (x := x) hm p2 h2)
      have r2 := s_136 (M := kW N K (up d 2 (nI (P + m))) v (ptX x P m m (byB (lwP xs i)))) (R := R) (A := A) hm p3 h2
      refine ⟨_, _, _, _, _, _, _, f, z, P + m, fun k => if k < P then y k else byN (lwP xs i) (m - 1 - (k - P)), RL_pad H (d' := up d 2 (nI (P + m))) (c' := up c 1 (nI (P + m))) (A' := ptA A P m m (byB (lwP xs i))) (x' := ptX x P m m (byB (lwP xs i))) ⟨up_n (by omega), up_n (by omega)⟩ (up_n (by omega)) ?_ ⟨h2, up_at, up_at, fun k hk => ?_⟩, ls_13 (lwR_of h0) (lwR_of h0) hi hl hz r1 r2⟩
      · funext k
        unfold ptA
        rw [if_neg (by omega)]
      · unfold ptX ptA
        by_cases c1 : k < P
        · rw [if_pos c1, if_neg (show ¬ (P ≤ k ∧ k < P + m) by omega), if_neg (show ¬ (1 = 1 ∧ P ≤ k ∧ k < P + m) by omega)]
          exact p4 k c1
        · rw [if_neg c1, if_pos (show P ≤ k ∧ k < P + m by omega), if_pos (show 1 = 1 ∧ P ≤ k ∧ k < P + m by omega), byB_n (by omega)]
          exact ⟨rfl, rfl, (mc _ (by omega)).1, (mc _ (by omega)).2⟩
    · exact ⟨K, d, v, x, c, R, A, f, z, P, y, H, ls_13 (lwR_of h0) (lwR_of h0) hi hl hz (hw_k (s_78_1 hm p2 p1 (by omega))) (s_136_1 hm p3 p1 (by omega))⟩
  · exact ⟨K, d, v, x, c, R, A, f, z, P, y, H, ls_13 (lwR_of h0) (lwR_of h0) hi hl hz (hw_k (s_78_0 (fun m q => h ⟨m, q⟩))) (s_136_0 (fun m q => h ⟨m, q⟩))⟩
theorem cs_14 (h0 : N.2 0 = some (14, xs.map .int)) (H : RL K d v x c R A f z P y) (hi : i + 5 ≤ xs.length) (hl : xs.length ≤ 2560) (hz : xg xs i &&& 31 = 14) : NX N i K d v x c R A := by
  obtain ⟨p1, p2, p3, p4⟩ := H.2.2.2.2
  have r1 := hw_k (M := N) (c := c) (R := R) (A := A) (s_79 (K := K) (d := d) (v := v) (x := x))
  rw [p2.trans p3.symm] at r1
  exact ⟨_, _, _, _, _, _, _, f, z, 0, y, RL_pad H (d' := up d 2 0) (c' := up c 1 0) (x' := x) (A' := A) ⟨up_n (by omega), up_n (by omega)⟩ (up_n (by omega)) rfl ⟨by omega, up_at, up_at, fun k hk => by omega⟩, ls_14 (lwR_of h0) (lwR_of h0) hi hl hz r1 s_137⟩
theorem rl_px (H : RL K d v x c R A f z P y) : pxOK d x y P ∧ pdOK c A y P := by
  obtain ⟨p1, p2, p3, p4⟩ := H.2.2.2.2
  exact ⟨⟨p1, p2, fun k hk => ⟨(p4 k hk).1, (p4 k hk).2.2⟩⟩, p1, p3, fun k hk => ⟨(p4 k hk).2.1, by have := (p4 k hk).2.2.2; omega⟩⟩
theorem cs_15 (h0 : N.2 0 = some (14, xs.map .int)) (H : RL K d v x c R A f z P y) (hi : i + 5 ≤ xs.length) (hl : xs.length ≤ 2560) (hz : xg xs i &&& 31 = 15) : NX N i K d v x c R A := by
  obtain ⟨hx, hp⟩ := rl_px H
  obtain ⟨d', r1, o1, o2, o3⟩ := s_80 (M := wm N c R A) (K := K) (v := v) hx
  obtain ⟨A', r2, a0, a1⟩ := s_144 (M := kW N K d' v x) (R := R) hp
  exact ⟨_, _, _, _, _, _, _, f, z, P, y, RL_mo H (K' := K) (R' := R) (d' := d') (c' := up (up c 2 (nI (txL y P 81 0 0).2.1)) 3 (nI (txL y P 81 0 0).2.2)) (A' := A') rfl (fun _ _ _ => rfl) rfl (fun _ _ => rfl) ⟨o1, o2, o3⟩ ⟨by rw [up_n (by omega), up_n (by omega)], by rw [up_n (by omega), up_n (by omega)]⟩ ⟨a0, a1⟩, ls_15 (lwR_of h0) (lwR_of h0) hi hl hz (hw_k r1) r2⟩
theorem tx_le : ∀ (f p o : Nat), p ≤ P → (txL y P f p o).2.1 ≤ P := by
  intro f
  induction f with
  | zero => intro p o h; exact h
  | succ f ih =>
    intro p o h
    have h2 := (or_le (y := y) h).2.1
    unfold txL
    by_cases c1 : (orP y P p).1 = false
    · rw [if_pos c1]; exact h2
    · rw [if_neg c1]
      by_cases c2 : (sgP y P 59 (orP y P p).2.2.2.2).1 = false
      · rw [if_pos c2]; exact h2
      · rw [if_neg c2]
        refine ih _ _ ?_
        rw [sg_t c2]
        have : (orP y P p).2.2.2.2 < P := by
          unfold sgP at c2
          by_cases c3 : inB y P (orP y P p).2.2.2.2 59 59 = false
          · rw [if_pos c3] at c2; exact absurd rfl c2
          · have c4 : inB y P (orP y P p).2.2.2.2 59 59 = true := by simpa using c3
            exact (of_decide_eq_true c4).1
        omega
theorem cs_16 (hN : stOK N) (h0 : N.2 0 = some (14, xs.map .int)) (H : RL K d v x c R A f z P y) (hi : i + 5 ≤ xs.length) (hl : xs.length ≤ 2560) (hz : xg xs i &&& 31 = 16) : NX N i K d v x c R A := by
  obtain ⟨n, u, hr⟩ := H.2.1
  have hs := rl_hs hN H hr
  obtain ⟨hx, hp⟩ := rl_px H
  have hP := hx.1
  cases htx : (txL y P 81 0 0).1
  · have h27 : (txL y P 81 0 0).2.1 ≤ 80 := Nat.le_trans (tx_le 81 0 0 (by omega)) hP
    obtain ⟨d', r1, o1, o2, o3⟩ := s_81_0 (M := wm N c R A) (K := K) (v := v) hx htx h27
    obtain ⟨c', A', r2, a0, a1, c0, c1⟩ := s_147_0 (M := kW N K d' v x) (R := R) hp htx
    exact ⟨_, _, _, _, _, _, _, f, z, P, y, RL_mo H (K' := K) (R' := R) (d' := d') (c' := c') (A' := A') rfl (fun _ _ _ => rfl) rfl (fun _ _ => rfl) ⟨o1, o2, o3⟩ ⟨c0, c1⟩ ⟨a0, a1⟩, ls_16 (lwR_of h0) (lwR_of h0) hi hl hz (hw_k r1) r2⟩
  · obtain ⟨d', r1, o1, o2, o3⟩ := s_81 (M := wm N c R A) (v := v) (fun s => ∃ t, dR s t) (fun s w a b e ⟨t, m, u', h⟩ hw => by
      obtain ⟨q0, _, q1, _, q2, _⟩ := rI_00 h
      refine ⟨⟨m, q1, q2, fun hm => ?_⟩, fun hm => ?_⟩
      · rw [md_eq h] at hm
        exact (cl_ds h hw hm).1
      · rw [md_eq h] at hm
        exact ⟨_, (cl_ds h hw hm).2.2⟩) hs ⟨R 0, n, u, hr⟩ hx htx
    obtain ⟨c', A', r2, a0, a1, c0, c1⟩ := s_147 (M := kW N (us (ntK K f z n) 0 (cyC y P (txL y P 81 0 0).2.2 0 (K 0)).2) d' v x) (fun t => ∃ s, dR s t) (fun t w a b e ⟨s, m, u', h⟩ hw hm => ⟨(cl_ds h hw hm).2.1, _, (cl_ds h hw hm).2.2⟩) ⟨K 0, n, u, hr⟩ hp H.1.2.2.2.2 H.1.2.2.2.1 htx
    have hps : psP y P 0 = 0 := rfl
    have htx' := htx
    rw [← hps] at htx'
    obtain ⟨_, t1, _, _⟩ := tx_spec 81 0 (by rw [hps]; omega) htx'
    rw [hps] at t1
    obtain ⟨y1, y2⟩ := cy_all (y := y) (P := P) (N := (txL y P 81 0 0).2.2) (fun j hj => by
      obtain ⟨q1, q2⟩ := t1 j (by omega) hj
      exact ((or_le q1).2.2 q2).2.1) (txL y P 81 0 0).2.2 0 (K 0) (R 0) ⟨n, u, hr⟩ (by omega)
    rw [y1] at r1
    obtain ⟨f', z', H'⟩ := RL_rec H hr y2 (d' := d') ⟨o1, o2⟩ (c' := c') c0 (A' := A') a0 (P' := 0) (x' := x) (y' := y) ⟨by omega, o3, c1, fun k hk => by omega⟩
    exact ⟨_, _, _, _, _, _, _, f', z', 0, y, H', ls_16 (lwR_of h0) (lwR_of h0) hi hl hz (hw_k r1) r2⟩
theorem cs_17 (h0 : N.2 0 = some (14, xs.map .int)) (H : RL K d v x c R A f z P y) (hi : i + 5 ≤ xs.length) (hl : xs.length ≤ 2560) (hz : xg xs i &&& 31 = 17) : NX N i K d v x c R A := by
  obtain ⟨⟨a1, a2, a3, a4, a5⟩, b, e, g, p⟩ := H
  by_cases c1 : z = 0
  · subst c1
    exact ⟨K, d, v, x, c, R, A, f, 0, P, y, ⟨⟨a1, a2, a3, a4, a5⟩, b, e, g, p⟩, ls_17 (lwR_of h0) (lwR_of h0) hi hl hz (hw_k (s_83_0 a2)) (s_95_0 a5)⟩
  · obtain ⟨w, rfl⟩ : ∃ w, z = w + 1 := ⟨z - 1, by omega⟩
    obtain ⟨m, u, hr⟩ := e w (by omega)
    obtain ⟨s0, t0, s1, t1, hn, hu⟩ := rI_00 hr
    have r1 := hw_k (M := N) (c := c) (R := R) (A := A) (s_83 (K := K) (d := d) (v := v) (x := x) a1 a2 a3 (by omega) s1 hn)
    have r2 := s_95 (M := kW N (us K 0 (tvF (K 0) (K (2 + (f + w) % 7)) m)) (up d 1 (nI w)) v x) (R := R) (A := A) a5 (by omega)
    refine ⟨_, _, _, _, _, _, _, f, w, P, y, ⟨⟨(up_n (by omega)).trans a1, up_at, a3, by omega, up_at⟩, by rw [us_s, us_s]; exact ⟨m, u, rI_tv hr⟩, fun j hj => by rw [us_ne (by omega), us_ne (by omega)]; exact e j (by omega), fun k hk => by rw [us_ne (by omega), us_ne (by omega)]; exact g k hk, p.1, (up_n (by omega)).trans p.2.1, (up_n (by omega)).trans p.2.2.1, p.2.2.2⟩, ls_17 (lwR_of h0) (lwR_of h0) hi hl hz r1 r2⟩
theorem cs_18 (h0 : N.2 0 = some (14, xs.map .int)) (H : RL K d v x c R A f z P y) (hi : i + 5 ≤ xs.length) (hl : xs.length ≤ 2560) (hz : xg xs i &&& 31 = 18) : NX N i K d v x c R A := by
  by_cases h : 0 ≤ xg xs (i + 1) ∧ xg xs (i + 1) ≤ 1
  · obtain ⟨k, hk, ek⟩ := nI_bt (n := 1) (by omega) h.1 h.2
    obtain ⟨⟨a1, a2, a3, a4, a5⟩, b, e, g, p⟩ := H
    obtain ⟨n, u, hr⟩ := b
    obtain ⟨s0, t0, s1, t1, hn, hu⟩ := rI_00 hr
    have r1 := hw_k (M := N) (c := c) (R := R) (A := A) (s_84 (K := K) (d := d) (v := v) (x := x) (show k < 2 by omega) s1 hn)
    rw [s1.trans t1.symm] at r1
    have r2 := s_96 (M := kW N (us K (9 + k) (tvF (K (9 + k)) (K 0) n)) d (up v k 1) x) (c := c) (R := R) (A := A) (show k < 2 by omega)
    have H' : RL (us K (9 + k) (tvF (K (9 + k)) (K 0) n)) d (up v k 1) x c (us R (8 + k) (R 0)) (ua A 0 k 1) f z P y := by
      refine ⟨⟨a1, a2, a3, a4, a5⟩, by rw [us_ne (by omega), us_ne (by omega)]; exact ⟨n, u, hr⟩, fun j hj => by rw [us_ne (by omega), us_ne (by omega)]; exact e j hj, fun k' hk' => ?_, p.1, p.2.1, p.2.2.1, fun j hj => ?_⟩
      · by_cases c1 : k' = k
        · subst c1
          refine Or.inr ⟨up_at, ?_, by rw [us_s, us_s]; exact ⟨n, u, rI_tv hr⟩⟩
          unfold ua
          rw [if_pos rfl]; exact up_at
        · rw [us_ne (by omega), us_ne (by omega), up_n c1]
          have : ua A 0 k 1 0 k' = A 0 k' := by
            unfold ua
            rw [if_pos rfl]; exact up_n c1
          rw [this]; exact g k' hk'
      · have : ua A 0 k 1 1 j = A 1 j := by
          unfold ua
          rw [if_neg (by omega)]
        rw [this]; exact p.2.2.2 j hj
    exact ⟨_, _, _, _, _, _, _, f, z, P, y, H', ls_18 (lwR_of h0) (lwR_of h0) hi hl hz (by rw [ek]; exact r1) (by rw [ek]; exact r2)⟩
  · exact ⟨K, d, v, x, c, R, A, f, z, P, y, H, ls_18 (lwR_of h0) (lwR_of h0) hi hl hz (hw_k (s_84_0 h)) (s_96_0 h)⟩
theorem cs_19 (hN : stOK N) (h0 : N.2 0 = some (14, xs.map .int)) (H : RL K d v x c R A f z P y) (hi : i + 5 ≤ xs.length) (hl : xs.length ≤ 2560) (hz : xg xs i &&& 31 = 19) : NX N i K d v x c R A := by
  obtain ⟨n, u, hr⟩ := H.2.1
  have hs := rl_hs hN H hr
  by_cases h : 0 ≤ xg xs (i + 1) ∧ xg xs (i + 1) ≤ 1
  · obtain ⟨k, hk, ek⟩ := nI_bt (n := 1) (by omega) h.1 h.2
    rcases H.2.2.2.1 k (by omega) with ⟨q1, q2⟩ | ⟨q1, q2, n2, u2', hr2⟩
    · exact ⟨K, d, v, x, c, R, A, f, z, P, y, H, ls_19 (lwR_of h0) (lwR_of h0) hi hl hz (by rw [ek]; exact hw_k (s_85_1 (by omega) q1)) (by rw [ek]; exact s_97_1 (by omega) q2)⟩
    · obtain ⟨s0, t0, s1, t1, hn, hu⟩ := rI_00 hr2
      have r1 := hw_k (M := N) (c := c) (R := R) (A := A) (s_85 (x := x) (k := k) hs (by omega) q1 s1 hn)
      have r2 := s_97 (M := kW N (us (ntK K f z n) 0 (tvF (K 0) (K (9 + k)) n2)) (kpD d f z) v x) (R := R) (k := k) (by omega) q2 H.1.2.2.2.2 H.1.2.2.2.1
      rw [t1] at r2
      obtain ⟨f', z', H'⟩ := RL_rec H hr ⟨n2, u2', rI_tv (s0 := K 0) hr2⟩ (d' := kpD d f z) ⟨rfl, rfl⟩ (c' := up c 0 (nI (rcK z))) up_at rfl (rl_P H)
      exact ⟨_, _, _, _, _, _, _, f', z', P, y, H', ls_19 (lwR_of h0) (lwR_of h0) hi hl hz (by rw [ek]; exact r1) (by rw [ek]; exact r2)⟩
  · exact ⟨K, d, v, x, c, R, A, f, z, P, y, H, ls_19 (lwR_of h0) (lwR_of h0) hi hl hz (hw_k (s_85_0 h)) (s_97_0 h)⟩
theorem cs_all (hN : stOK N) (h0 : N.2 0 = some (14, xs.map .int)) (H : RL K d v x c R A f z P y) (hi : i + 5 ≤ xs.length) (hl : xs.length ≤ 2560) : NX N i K d v x c R A := by
  by_cases h : ∃ j, j < 20 ∧ xg xs i &&& 31 = nI j
  · obtain ⟨j, hj, e⟩ := h
    match j, hj with
    | 0, _ => exact cs_0 hN h0 H hi hl e
    | 1, _ => exact cs_1 hN h0 H hi hl e
    | 2, _ => exact cs_2 hN h0 H hi hl e
    | 3, _ => exact cs_3 hN h0 H hi hl e
    | 4, _ => exact cs_4 h0 H hi hl e
    | 5, _ => exact cs_5 h0 H hi hl e
    | 6, _ => exact cs_6 h0 H hi hl e
    | 7, _ => exact cs_7 h0 H hi hl e
    | 8, _ => exact cs_8 h0 H hi hl e
    | 9, _ => exact cs_9 h0 H hi hl e
    | 10, _ => exact cs_10 h0 H hi hl e
    | 11, _ => exact cs_11 h0 H hi hl e
    | 12, _ => exact cs_12 hN h0 H hi hl e
    | 13, _ => exact cs_13 h0 H hi hl e
    | 14, _ => exact cs_14 h0 H hi hl e
    | 15, _ => exact cs_15 h0 H hi hl e
    | 16, _ => exact cs_16 hN h0 H hi hl e
    | 17, _ => exact cs_17 h0 H hi hl e
    | 18, _ => exact cs_18 h0 H hi hl e
    | 19, _ => exact cs_19 hN h0 H hi hl e
    | q + 20, hj => exact absurd hj (by omega)
  · exact cs_d h0 H hi hl (fun j hj e => h ⟨j, hj, e⟩)
theorem lw_loop (hN : stOK N) (h1 : N.1 = (635, 14379)) (h0 : N.2 0 = some (14, xs.map .int)) (hl : xs.length ≤ 2560) : ∀ (q i : Nat) (K : Nat → Sg) (d v x c : Nat → Int32) (R : Nat → Sg) (A : Nat → Nat → Int32) (f z P : Nat) (y : Nat → Nat), RL K d v x c R A f z P y → i ≤ 2560 → xs.length ≤ i + q → ∃ M' : qHp, qEx 150 (18, [some (.ref 0), some (.ref 4), some (.ref 627), some (.int (nI i))], [], wm (kW N K d v x) c R A) = some (some (.int 1), M') ∧ M'.1 = (635, 14379) := by
  intro q
  induction q with
  | zero =>
    intro i K d v x c R A f z P y H hi hq
    exact ⟨_, lw_stop (lwR_of h0) (by omega) hi hl, h1⟩
  | succ q ih =>
    intro i K d v x c R A f z P y H hi hq
    by_cases c1 : i + 5 ≤ xs.length
    · obtain ⟨K', d', v', x', c', R', A', f', z', P', y', H', e⟩ := cs_all hN h0 H c1 hl
      rw [e]
      exact ih (i + 5) K' d' v' x' c' R' A' f' z' P' y' H' (by omega) (by omega)
    · exact ⟨_, lw_stop (lwR_of h0) (by omega) hi hl, h1⟩
theorem RL_ini : RL (fun _ => iniS) (fun _ => 0) (fun _ => 0) (fun _ => 0) (fun _ => 0) (us (fun _ => nlS) 0 iniS) (fun _ _ => 0) 0 0 0 (fun _ => 0) :=
  ⟨⟨rfl, rfl, by omega, by omega, rfl⟩, by rw [us_s]; exact ⟨0, 0, rI_ini⟩, fun j hj => by omega, fun k _ => Or.inl ⟨rfl, rfl⟩, by omega, rfl, rfl, fun k hk => by omega⟩
/-- the whole run of the law -/
theorem lw_all {M : qHp} (h1 : M.1 = (4, 0)) (hs : stOK M) (h0 : M.2 0 = some (14, xs.map .int)) (hl : xs.length ≤ 2560) : ∃ M' : qHp, qEx 150 (0, [some (.ref 0), none, none, none], [], M) = some (some (.int 1), M') ∧ M'.1 = (635, 14379) := by
  obtain ⟨N, e, n1, n0, ns⟩ := lw_start h1 hs
  rw [e]
  exact lw_loop ns n1 (n0.trans h0) hl xs.length 0 _ _ _ _ _ _ _ 0 0 0 _ RL_ini (by omega) (by omega)
end RM
