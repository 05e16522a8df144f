/-! bits of a long; the sets of batches by their delay; sums of routes -/
def lb (x : Int64) (i : Nat) : Bool := x.toBitVec.getLsbD i
section LB
variable {s : Sg} {n b i : Nat} {x y X : Int64} {d : Int32}
theorem lb_ext (h : ∀ i, i < 64 → (lb x i = true ↔ lb y i = true)) : x = y := Int64.toBitVec_inj.mp (BitVec.eq_of_getLsbD_eq (fun i hi => by
  have := h i hi
  unfold lb at this
  exact Bool.eq_iff_iff.mpr this))
theorem lb_or : lb (x ||| y) i = (lb x i || lb y i) := by unfold lb; rw [Int64.toBitVec_or, BitVec.getLsbD_or]
theorem lb_and : lb (x &&& y) i = (lb x i && lb y i) := by unfold lb; rw [Int64.toBitVec_and, BitVec.getLsbD_and]
theorem lb_0 : lb 0 i = false := BitVec.getLsbD_zero
theorem lb_1 : ∀ i, i < 64 → lb 1 i = decide (i = 0) := by decide +kernel
theorem lb_s : ∀ b, b < 41 → ∀ i, i < 64 → lb (1 <<< ((nI b).toInt64 &&& 63)) i = decide (i = b) := by decide +kernel
theorem lb_m : ∀ n, n < 41 → ∀ i, i < 64 → lb ((1 <<< ((nI n).toInt64 &&& 63)) - 1) i = decide (i < n) := by decide +kernel
theorem lb_a : ∀ b, b < 41 → (((nI b).toInt64 &&& 63).toBitVec.smod 64).toNat = b := by decide +kernel
theorem lb_pick (hb : b < 41) (h : lb X b = true) : (X >>> ((nI b).toInt64 &&& 63)) &&& 1 = 1 := by
  refine lb_ext fun i hi => ?_
  rw [lb_and, lb_1 i hi]
  by_cases c : i = 0
  · subst c
    have e : lb (X >>> ((nI b).toInt64 &&& 63)) 0 = true := by
      unfold lb
      rw [Int64.toBitVec_shiftRight]
      show (X.toBitVec.sshiftRight (((nI b).toInt64 &&& 63).toBitVec.smod 64).toNat).getLsbD 0 = true
      rw [lb_a b hb, BitVec.getLsbD_sshiftRight]
      have h64 : b < 64 := by omega
      unfold lb at h
      simp [h64, h]
    rw [e]; simp
  · simp [c]
theorem lb_dy (hi : i < 64) : ∀ n, n ≤ 40 → (lb (dyF s d n) i = true ↔ i < n ∧ s (11 + i) 9 = d) := by
  intro n
  induction n with
  | zero =>
    intro _
    show lb 0 i = true ↔ _
    rw [lb_0]
    exact ⟨fun q => (by cases q), fun q => by omega⟩
  | succ n ih =>
    intro hn
    show lb (dyF s d n ||| (if s (11 + n) 9 = d then 1 <<< ((nI n).toInt64 &&& 63) else 0)) i = true ↔ _
    rw [lb_or, Bool.or_eq_true, ih (by omega)]
    by_cases c : s (11 + n) 9 = d
    · rw [if_pos c, lb_s n (by omega) i hi, decide_eq_true_eq]
      constructor
      · rintro (⟨q1, q2⟩ | q)
        · exact ⟨by omega, q2⟩
        · subst q; exact ⟨by omega, c⟩
      · rintro ⟨q1, q2⟩
        by_cases c2 : i = n
        · exact Or.inr c2
        · exact Or.inl ⟨by omega, q2⟩
    · rw [if_neg c, lb_0]
      constructor
      · rintro (⟨q1, q2⟩ | q)
        · exact ⟨by omega, q2⟩
        · cases q
      · rintro ⟨q1, q2⟩
        by_cases c2 : i = n
        · subst c2; exact absurd q2 c
        · exact Or.inl ⟨by omega, q2⟩
/-- all delays before the d-th -/
def orD (s : Sg) (n : Nat) : Nat → Int64
  | 0 => 0
  | d + 1 => orD s n d ||| dyF s (nI d) n
theorem lb_or5 (hi : i < 64) (hn : n ≤ 40) : ∀ d, (lb (orD s n d) i = true ↔ i < n ∧ ∃ e, e < d ∧ s (11 + i) 9 = nI e) := by
  intro d
  induction d with
  | zero =>
    show lb 0 i = true ↔ _
    rw [lb_0]
    exact ⟨fun q => (by cases q), fun ⟨_, e, q, _⟩ => by omega⟩
  | succ d ih =>
    show lb (orD s n d ||| dyF s (nI d) n) i = true ↔ _
    rw [lb_or, Bool.or_eq_true, ih, lb_dy hi n hn]
    constructor
    · rintro (⟨q1, e, q2, q3⟩ | ⟨q1, q2⟩)
      · exact ⟨q1, e, by omega, q3⟩
      · exact ⟨q1, d, by omega, q2⟩
    · rintro ⟨q1, e, q2, q3⟩
      by_cases c : e = d
      · subst c; exact Or.inr ⟨q1, q3⟩
      · exact Or.inl ⟨q1, e, by omega, q3⟩
/-- sets of different delays have nothing in common -/
theorem or_dj (hn : n ≤ 40) {d : Nat} (hd : d < 5) : orD s n d &&& dyF s (nI d) n = 0 := by
  refine lb_ext fun i hi => ?_
  rw [lb_and, Bool.and_eq_true, lb_or5 hi hn, lb_dy hi n hn, lb_0]
  refine ⟨fun ⟨⟨_, e, q2, q3⟩, _, q4⟩ => ?_, fun q => by cases q⟩
  rw [q3, nI_eq_iff (by omega) (by omega)] at q4
  omega
/-- together they are all batches -/
theorem or_all (hn : n ≤ 40) (h : ∀ b, b < n → ∃ d, d ≤ 4 ∧ s (11 + b) 9 = nI d) : orD s n 5 = (1 <<< ((nI n).toInt64 &&& 63)) - 1 := by
  refine lb_ext fun i hi => ?_
  rw [lb_or5 hi hn, lb_m n (by omega) i hi, decide_eq_true_eq]
  constructor
  · exact fun q => q.1
  · intro q
    obtain ⟨d, hd, e⟩ := h i q
    exact ⟨q, d, by omega, e⟩
theorem dy_bit (hn : n ≤ 40) (hb : b < n) : (dyF s (s (11 + b) 9) n >>> ((nI b).toInt64 &&& 63)) &&& 1 = 1 :=
  lb_pick (by omega) ((lb_dy (by omega) n hn).mpr ⟨hb, rfl⟩)
/-- sums over the routes before the r-th -/
def rtS (s : Sg) (w n : Nat) : Nat → Int32
  | 0 => 0
  | r + 1 => rtS s w n r + smF s w (nI r) n
theorem rt_0 {w : Nat} : ∀ r, rtS s w 0 r = 0 := by
  intro r
  induction r with
  | zero => rfl
  | succ r ih => show rtS s w 0 r + 0 = 0; rw [ih]; rfl
theorem rt_s {w p : Nat} (hp : s (11 + n) 2 = nI p) (hp8 : p < 8) : ∀ r, r ≤ 8 → rtS s w (n + 1) r = rtS s w n r + (if p < r then s (11 + n) w else 0) := by
  intro r
  induction r with
  | zero => intro _; rfl
  | succ r ih =>
    intro hr
    show rtS s w (n + 1) r + (smF s w (nI r) n + (if nI r = -6 ∨ s (11 + n) 2 = nI r then s (11 + n) w else 0)) = rtS s w n r + smF s w (nI r) n + _
    rw [ih (by omega), hp]
    have e : (nI p = nI r) = (p = r) := nI_eq_iff (by omega) (by omega)
    by_cases c : p = r
    · rw [if_neg (show ¬ p < r by omega), if_pos (Or.inr (e.mpr c)), if_pos (show p < r + 1 by omega), Int32.add_zero, Int32.add_assoc]
    · rw [if_neg (show ¬ (nI r = -6 ∨ nI p = nI r) from fun q => q.elim (m6_n (by omega)) (fun q => c (e.mp q))), Int32.add_zero]
      by_cases c2 : p < r
      · rw [if_pos c2, if_pos (show p < r + 1 by omega), Int32.add_assoc, Int32.add_assoc, Int32.add_comm (s (11 + n) w)]
      · rw [if_neg c2, if_neg (show ¬ p < r + 1 by omega), Int32.add_zero, Int32.add_zero]
theorem rt_all {w : Nat} : ∀ n, (∀ b, b < n → ∃ p, p < 8 ∧ s (11 + b) 2 = nI p) → rtS s w n 8 = smF s w (-6) n := by
  intro n
  induction n with
  | zero => intro _; exact rt_0 8
  | succ n ih =>
    intro h
    obtain ⟨p, hp, e⟩ := h n (by omega)
    rw [rt_s e hp 8 (Nat.le_refl _), ih (fun b hb => h b (by omega)), if_pos hp]
    show _ = smF s w (-6) n + (if (-6 : Int32) = -6 ∨ _ then s (11 + n) w else 0)
    rw [if_pos (Or.inl rfl)]
/-- what the machines have sorted, batch by batch -/
def soS (s : Sg) : Nat → Int32
  | 0 => 0
  | b + 1 => soS s b + (s (11 + b) 1 - s (11 + b) 4)
theorem so_n : ∀ n, (∀ b, b < n → ∃ p w, p ≤ 999 ∧ w ≤ p ∧ s (11 + b) 1 = nI p ∧ s (11 + b) 4 = nI w) → soS s n = nI (sN fD s n) := by
  intro n
  induction n with
  | zero => intro _; rfl
  | succ n ih =>
    intro h
    obtain ⟨p, w, hp, hw, e1, e4⟩ := h n (by omega)
    show soS s n + (s (11 + n) 1 - s (11 + n) 4) = nI (sN fD s n + fD (s (11 + n)))
    unfold fD
    rw [ih (fun b hb => h b (by omega)), e1, e4, pk_sub hw, nN_nI (by omega), nN_nI (by omega), nI_add]
    rfl
theorem hs_n : ∀ n, (∀ b, b < n → ∃ h, h ≤ 999 ∧ s (11 + b) 5 = nI h) → smF s 5 (-6) n = nI (sN fH s n) := by
  intro n
  induction n with
  | zero => intro _; rfl
  | succ n ih =>
    intro h
    obtain ⟨p, hp, e⟩ := h n (by omega)
    show smF s 5 (-6) n + (if (-6 : Int32) = -6 ∨ _ then s (11 + n) 5 else 0) = nI (sN fH s n + fH (s (11 + n)))
    unfold fH
    rw [if_pos (Or.inl rfl), ih (fun b hb => h b (by omega)), e, nN_nI (by omega), nI_add]
    rfl
/-- a running sum over all batches -/
theorem sm_s {w b : Nat} : smF s w (-6) b + s (11 + b) w = smF s w (-6) (b + 1) := by
  show _ = smF s w (-6) b + (if (-6 : Int32) = -6 ∨ _ then s (11 + b) w else 0)
  rw [if_pos (Or.inl rfl)]
end LB
