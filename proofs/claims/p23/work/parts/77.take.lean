/-! a machine takes the next batch; the queue behind it is delayed -/
section TK
variable {s t A : Sg} {n u b m : Nat}
theorem ug_at {g g' k' : Nat} {f : Nat → Int32} : ug s g f g' k' = if g' = g then f k' else s g' k' := by
  unfold ug
  split <;> rfl
theorem ug_g {g g' : Nat} {f : Nat → Int32} (h : g' ≠ g) : ug s g f g' = s g' := if_neg h
theorem ug_s {g : Nat} {f : Nat → Int32} : ug s g f g = f := if_pos rfl
theorem sh_ug {g : Nat} : ∀ k, itF (shS g) k s = ug s g (fun i => if i < k then s g (i + 1) else s g i) := by
  intro k
  induction k with
  | zero =>
    funext g' k'
    rw [ug_at]
    split
    · rename_i h; rw [h, if_neg (by omega)]; rfl
    · rfl
  | succ k ih =>
    show shS g k (itF (shS g) k s) = _
    rw [ih]
    funext g' k'
    unfold shS
    rw [u2_at, ug_at, ug_at, ug_at, if_pos rfl, if_neg (show ¬ k + 1 < k by omega)]
    by_cases hg : g' = g
    · rw [if_pos hg, if_pos hg]
      by_cases hk : k' = k
      · rw [if_pos ⟨hg, hk⟩, if_pos (by omega), hk]
      · rw [if_neg (fun q => hk q.2)]
        by_cases h2 : k' < k
        · rw [if_pos h2, if_pos (by omega)]
        · rw [if_neg h2, if_neg (by omega)]
    · rw [if_neg hg, if_neg hg, if_neg (fun q => hg q.1)]
theorem rm_u2 {g gi gk k g' k' : Nat} {v : Int32} (h : g' ≠ g) (h2 : ¬ (g' = gi ∧ k' = gk)) : rmF (u2 s g' k' v) g gi gk k = u2 (rmF s g gi gk k) g' k' v := by
  unfold rmF
  rw [u2_g (Ne.symm h)]
  funext i j
  rw [ug_at, u2_at, u2_at, u2_at, ug_at, u2_at]
  by_cases c1 : i = g
  · rw [if_pos c1, if_pos c1, if_neg (show ¬ (i = g' ∧ j = k') by omega)]
  · rw [if_neg c1, if_neg c1]
    by_cases c2 : i = g' ∧ j = k'
    · rw [if_pos c2, if_neg (show ¬ (i = gi ∧ j = gk) by omega), if_pos c2]
    · rw [if_neg c2, if_neg c2]
theorem rm_sh {g gi gk q : Nat} (h : gi ≠ g) (e : s gi gk = nI (q + 1)) : itF (shS g) q (u2 s gi gk (s gi gk - 1)) = rmF s g gi gk (q + 1) := by
  rw [sh_ug, e, nI_pred, u2_g h.symm]
  unfold rmF
  refine congrArg (ug _ g) (funext fun i => ?_)
  by_cases c : i < q
  · rw [if_pos c, if_pos (by omega)]
  · rw [if_neg c, if_neg (by omega)]
/-- the reference's taking is the class's, but that the delay is told at once -/
theorem tk_eq {q : Nat} (hm : m < 3) (hb : b < 40) (e6 : s 6 m = nI (q + 1)) (e7 : s (7 + m) 0 = nI b) (e1 : s (3 + m) 1 = 0) :
    tkF s m b q = if rmF (ktF s m (nI b) (s (11 + b) 2) (s 1 0)) (7 + m) 6 m (q + 1) (3 + m) 1 ≤ 0 then rmF (ktF s m (nI b) (s (11 + b) 2) (s 1 0)) (7 + m) 6 m (q + 1) else dlF (rmF (ktF s m (nI b) (s (11 + b) 2) (s 1 0)) (7 + m) 6 m (q + 1)) b 2 := by
  unfold tkF ktF
  dsimp only
  rw [rm_sh (g := 7 + m) (by omega) e6]
  have w0 : ∀ g k, g ≠ 7 + m → g ≠ 6 → rmF s (7 + m) 6 m (q + 1) g k = s g k := fun g k h1 h2 => by
    unfold rmF; rw [ug_g h1, u2_g h2]
  have z0 : ((0 : Int32) ≤ 0) = True := eq_true (by decide)
  simp (disch := omega) only [u2_ne, u2_s, w0]
  by_cases c1 : s (3 + m) 2 = s (11 + b) 2
  · have p1 : (s (3 + m) 2 = s (11 + b) 2) = True := eq_true c1
    have p2 : (s (11 + b) 2 = s (3 + m) 2) = True := eq_true c1.symm
    simp (disch := omega) only [p1, p2, true_or, if_true, rm_u2, u2_ne, w0, e1, z0]
  · have p1 : (s (3 + m) 2 = s (11 + b) 2) = False := eq_false c1
    have p2 : (s (11 + b) 2 = s (3 + m) 2) = False := eq_false (fun z => c1 z.symm)
    by_cases c2 : s 1 0 ≤ 0
    · have p3 : (s 1 0 ≤ 0) = True := eq_true c2
      simp (disch := omega) only [p1, p2, p3, or_true, if_true, if_false, rm_u2, u2_ne, w0, e1, z0]
    · have p3 : (s 1 0 ≤ 0) = False := eq_false c2
      simp (disch := omega) only [p1, p2, p3, or_false, if_false, rm_u2, u2_ne, u2_s, w0, dl_k, dl_u2]
/-! the queue's delays -/
theorem dq_g {k g : Nat} (h : g < 11) : itF (dqS m) k s g = s g := funext fun _ => dq_o (Or.inl h)
theorem dq_k {k g j : Nat} (h : j ≠ 9) : itF (dqS m) k s g j = s g j := dq_o (Or.inr h)
theorem dq_nz {k g : Nat} (h : s g 9 ≠ 0) : itF (dqS m) k s g 9 ≠ 0 := by
  induction k with
  | zero => exact h
  | succ k ih => exact dl_nz (by decide) ih
theorem dq_all (hm : m < 3) : ∀ k i, i < k → itF (dqS m) k s (11 + nN (s (7 + m) i)) 9 ≠ 0 := by
  intro k
  induction k with
  | zero => intro i hi; omega
  | succ k ih =>
    intro i hi
    show dlF (itF (dqS m) k s) (nN (itF (dqS m) k s (7 + m) k)) 1 (11 + nN (s (7 + m) i)) 9 ≠ 0
    by_cases hk : i = k
    · rw [hk, dq_g (by omega), dl_9]
      split
      · decide
      · assumption
    · exact dl_nz (by decide) (ih i (by omega))
theorem dq_dl {c : Nat} (hm : m < 3) : ∀ k, itF (dqS m) k (dlF s c 1) = dlF (itF (dqS m) k s) c 1 := by
  intro k
  induction k with
  | zero => rfl
  | succ k ih =>
    show dlF (itF (dqS m) k (dlF s c 1)) (nN (itF (dqS m) k (dlF s c 1) (7 + m) k)) 1 = dlF (dlF (itF (dqS m) k s) (nN (itF (dqS m) k s (7 + m) k)) 1) c 1
    rw [ih, dl_g (by omega), dl_sw]
theorem dq_dl2 {c : Nat} (hm : m < 3) : ∀ k, (∀ i, i < k → nN (s (7 + m) i) ≠ c) → itF (dqS m) k (dlF s c 2) = dlF (itF (dqS m) k s) c 2 := by
  intro k
  induction k with
  | zero => intro _; rfl
  | succ k ih =>
    intro h
    show dlF (itF (dqS m) k (dlF s c 2)) (nN (itF (dqS m) k (dlF s c 2) (7 + m) k)) 1 = dlF (dlF (itF (dqS m) k s) (nN (itF (dqS m) k s (7 + m) k)) 1) c 2
    rw [ih (fun i hi => h i (by omega)), dl_g (by omega), dq_g (by omega)]
    exact dl_sw2 (h k (by omega))
theorem dq_no : ∀ k, (∀ i, i < k → s (11 + nN (s (7 + m) i)) 9 ≠ 0) → itF (dqS m) k s = s := by
  intro k
  induction k with
  | zero => intro _; rfl
  | succ k ih =>
    intro h
    show dlF (itF (dqS m) k s) (nN (itF (dqS m) k s (7 + m) k)) 1 = s
    rw [ih (fun i hi => h i (by omega))]
    exact dl_no (h k (by omega))
theorem dq_eq (hm : m < 3) : ∀ q s, (∃ p, ∀ i, i < q → (i < p → s (11 + nN (s (7 + m) i)) 9 ≠ 0 ∧ ¬ s (11 + nN (s (7 + m) i)) 3 = s 0 0) ∧ (p ≤ i → s (11 + nN (s (7 + m) i)) 3 = s 0 0)) → dqF m q s = itF (dqS m) q s := by
  intro q
  induction q with
  | zero => intro s _; rfl
  | succ q ih =>
    intro s ⟨p, h⟩
    show (if s (11 + nN (s (7 + m) q)) 3 = s 0 0 then dqF m q (dlF s (nN (s (7 + m) q)) 1) else s) = dlF (itF (dqS m) q s) (nN (itF (dqS m) q s (7 + m) q)) 1
    by_cases c : s (11 + nN (s (7 + m) q)) 3 = s 0 0
    · rw [if_pos c, dq_g (by omega), ← dq_dl hm]
      refine ih _ ⟨p, fun i hi => ?_⟩
      have := h i (by omega)
      rw [dl_g (g := 7 + m) (by omega), dl_g (g := 0) (by omega), dl_k (k := 3) (by omega)]
      exact ⟨fun z => ⟨dl_nz (by decide) (this.1 z).1, (this.1 z).2⟩, this.2⟩
    · rw [if_neg c]
      have hp : q < p := Decidable.byContradiction fun z => c ((h q (by omega)).2 (by omega))
      have e := dq_no (m := m) (s := s) (q + 1) (fun i hi => ((h i (by omega)).1 (by omega)).1)
      exact e.symm
theorem dq_eqI (hm : m < 3) (hu : u < 1440) (hn : n ≤ 40) (h0 : s 0 0 = nI u) {q : Nat} (h : quI n u n s m) (hq : s 6 m = nI q) (hq2 : q < 100000) : dqF m q s = itF (dqS m) q s := by
  obtain ⟨q', p, hp, e6, R⟩ := h
  have hl := rw_le hn R
  rw [e6, nI_eq_iff (by omega) (by omega)] at hq
  subst hq
  refine dq_eq hm q' s ⟨p, fun i hi => ?_⟩
  obtain ⟨c, hc, e, r1, r2⟩ := R.1 i hi
  rw [e, nN_nI (by omega), h0]
  refine ⟨fun z => ?_, fun z => (r2 z).2⟩
  obtain ⟨⟨x, hx, ex⟩, h9⟩ := r1 z
  refine ⟨h9, ?_⟩
  rw [ex, nI_eq_iff (by omega) (by omega)]
  omega
end TK
