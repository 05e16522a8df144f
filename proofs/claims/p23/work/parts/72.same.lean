/-! the room of the law; days that are the same -/
section LC
variable {N : qHp} {K : Nat → Sg} {d v x : Nat → Int32} {c : Nat → Int32} {R : Nat → Sg} {A : Nat → Nat → Int32} {xs : List Int32}
/-- a class's day and a reference's day, with n batches: what counts of them -/
def sE (n : Nat) (s t : Sg) : Prop :=
  (n ≤ 40 ∧ s 0 1 = nI n) ∧ (∀ k, k < 5 → s 0 k = t 0 k) ∧ (∀ k, k < 9 → s 1 k = t 1 k) ∧ (∀ k, k < 8 → s 2 k = t 2 k) ∧
  (∀ m k, m < 3 → k < 5 → s (3 + m) k = t (3 + m) k) ∧ (∀ m, m < 3 → s 6 m = t 6 m) ∧
  (∀ m i, m < 3 → i < nN (t 6 m) → s (7 + m) i = t (7 + m) i) ∧ (∀ i, i < nN (t 0 4) → s 10 i = t 10 i) ∧
  ∀ b k, b < n → k < 11 → s (11 + b) k = t (11 + b) k
theorem sE_n {n : Nat} {s t : Sg} (h : sE n s t) : s 0 1 = nI n ∧ t 0 1 = nI n ∧ n ≤ 40 := ⟨h.1.2, (h.2.1 1 (by omega)).symm.trans h.1.2, h.1.1⟩
theorem sE_ini : sE 0 iniS iniS := ⟨⟨by omega, rfl⟩, fun _ _ => rfl, fun _ _ => rfl, fun _ _ => rfl, fun _ _ _ _ => rfl, fun _ _ => rfl, fun _ _ _ _ => rfl, fun _ _ => rfl, fun _ _ h => by omega⟩
/-- what is taken over counts the same -/
theorem sE_tv {n : Nat} {s s0 t : Sg} (h : sE n s t) : sE n (tvF s0 s n) t := by
  have e : ∀ g k, g < 11 + n → tvF s0 s n g k = s g k := fun g k hg => by unfold tvF; rw [if_neg (by omega)]
  obtain ⟨⟨h0, h1⟩, h2, h3, h4, h5, h6, h7, h8, h9⟩ := h
  refine ⟨⟨h0, ?_⟩, fun k hk => ?_, fun k hk => ?_, fun k hk => ?_, fun m k hm hk => ?_, fun m hm => ?_, fun m i hm hi => ?_, fun i hi => ?_, fun b k hb hk => ?_⟩
  · rw [e 0 1 (by omega)]; exact h1
  · rw [e 0 k (by omega)]; exact h2 k hk
  · rw [e 1 k (by omega)]; exact h3 k hk
  · rw [e 2 k (by omega)]; exact h4 k hk
  · rw [e (3 + m) k (by omega)]; exact h5 m k hm hk
  · rw [e 6 m (by omega)]; exact h6 m hm
  · rw [e (7 + m) i (by omega)]; exact h7 m i hm hi
  · rw [e 10 i (by omega)]; exact h8 i hi
  · rw [e (11 + b) k (by omega)]; exact h9 b k hb hk
/-- sums are the same -/
theorem sE_sm {n w : Nat} {rt : Int32} {s t : Sg} (h : sE n s t) (hw : w < 11) : ∀ k, k ≤ n → smF s w rt k = smF t w rt k := by
  intro k
  induction k with
  | zero => intro _; rfl
  | succ k ih =>
    intro hk
    show smF s w rt k + (if rt = -6 ∨ s (11 + k) 2 = rt then s (11 + k) w else 0) = smF t w rt k + (if rt = -6 ∨ t (11 + k) 2 = rt then t (11 + k) w else 0)
    rw [ih (by omega), h.2.2.2.2.2.2.2.2 k 2 (by omega) (by omega), h.2.2.2.2.2.2.2.2 k w (by omega) hw]
theorem sE_dy {n : Nat} {dl : Int32} {s t : Sg} (h : sE n s t) : ∀ k, k ≤ n → dyF s dl k = dyF t dl k := by
  intro k
  induction k with
  | zero => intro _; rfl
  | succ k ih =>
    intro hk
    show dyF s dl k ||| (if s (11 + k) 9 = dl then 1 <<< ((nI k).toInt64 &&& 63) else 0) = dyF t dl k ||| (if t (11 + k) 9 = dl then 1 <<< ((nI k).toInt64 &&& 63) else 0)
    rw [ih (by omega), h.2.2.2.2.2.2.2.2 k 9 (by omega) (by omega)]
theorem sE_rt {n r w : Nat} {s t : Sg} (h : sE n s t) (hr : r < 8) : rtV s r w n = rtV t r w n := by
  unfold rtV
  rw [h.2.2.2.1 r hr, sE_sm h (by omega) n (Nat.le_refl _), sE_sm h (by omega) n (Nat.le_refl _), sE_sm h (by omega) n (Nat.le_refl _), sE_sm h (by omega) n (Nat.le_refl _)]
theorem sE_mc {n m w : Nat} {s t : Sg} (h : sE n s t) (hm : m < 3) (hw : w < 6) : mcV s m w = mcV t m w := by
  unfold mcV
  by_cases c1 : w = 1
  · rw [if_pos c1, if_pos c1]; exact h.2.2.2.2.2.1 m hm
  · rw [if_neg c1, if_neg c1]; exact h.2.2.2.2.1 m (w - 1) hm (by omega)
theorem sE_ma {n : Nat} {s t : Sg} {m p r z : Int32} (h : sE n s t) : maM s m p r z = maM t m p r z := by
  unfold maM
  rw [h.2.1 0 (by omega), h.2.1 1 (by omega)]
theorem sE_mp {n : Nat} {s t : Sg} {z : Int32} (h : sE n s t) : maP s z = maP t z := by
  unfold maP
  rw [h.2.1 0 (by omega)]
end LC
