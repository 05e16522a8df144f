/-! days stay the same under the same changes -/
section LD
variable {s t : Sg} {n : Nat}
theorem sE_s06 {w : Int32} (h : sE n s t) : sE n (u2 s 0 6 w) t := by
  obtain ⟨⟨h0, h1⟩, h2, h3, h4, h5, h6, h7, h8, h9⟩ := h
  refine ⟨⟨h0, ?_⟩, fun k hk => ?_, fun k hk => ?_, fun k hk => ?_, fun m k hm hk => ?_, fun m hm => ?_, fun m i hm hi => ?_, fun i hi => ?_, fun b k hb hk => ?_⟩
  · rw [u2_at, if_neg (by omega)]; exact h1
  · rw [u2_at, if_neg (by omega)]; exact h2 k hk
  · rw [u2_at, if_neg (by omega)]; exact h3 k hk
  · rw [u2_at, if_neg (by omega)]; exact h4 k hk
  · rw [u2_at, if_neg (by omega)]; exact h5 m k hm hk
  · rw [u2_at, if_neg (by omega)]; exact h6 m hm
  · rw [u2_at, if_neg (by omega)]; exact h7 m i hm hi
  · rw [u2_at, if_neg (by omega)]; exact h8 i hi
  · rw [u2_at, if_neg (by omega)]; exact h9 b k hb hk
theorem sE_s05 {w : Int32} (h : sE n s t) : sE n (u2 s 0 5 w) t := by
  obtain ⟨⟨h0, h1⟩, h2, h3, h4, h5, h6, h7, h8, h9⟩ := h
  refine ⟨⟨h0, ?_⟩, fun k hk => ?_, fun k hk => ?_, fun k hk => ?_, fun m k hm hk => ?_, fun m hm => ?_, fun m i hm hi => ?_, fun i hi => ?_, fun b k hb hk => ?_⟩
  · rw [u2_at, if_neg (by omega)]; exact h1
  · rw [u2_at, if_neg (by omega)]; exact h2 k hk
  · rw [u2_at, if_neg (by omega)]; exact h3 k hk
  · rw [u2_at, if_neg (by omega)]; exact h4 k hk
  · rw [u2_at, if_neg (by omega)]; exact h5 m k hm hk
  · rw [u2_at, if_neg (by omega)]; exact h6 m hm
  · rw [u2_at, if_neg (by omega)]; exact h7 m i hm hi
  · rw [u2_at, if_neg (by omega)]; exact h8 i hi
  · rw [u2_at, if_neg (by omega)]; exact h9 b k hb hk
/-- the same write on both sides, where it is neither a number of batches, nor a length of a queue or of the line -/
theorem sE_u2 {g k0 : Nat} {w : Int32} (h : sE n s t) (hg : g ≠ 6) (h0 : g = 0 → k0 ≠ 1 ∧ k0 ≠ 4) : sE n (u2 s g k0 w) (u2 t g k0 w) := by
  obtain ⟨⟨a0, a1⟩, h2, h3, h4, h5, h6, h7, h8, h9⟩ := h
  have e6 : ∀ m, u2 t g k0 w 6 m = t 6 m := fun m => by rw [u2_at, if_neg (by omega)]
  have e4 : u2 t g k0 w 0 4 = t 0 4 := by rw [u2_at, if_neg (fun q => (h0 q.1.symm).2 q.2.symm)]
  have c : ∀ g' k', s g' k' = t g' k' → u2 s g k0 w g' k' = u2 t g k0 w g' k' := fun g' k' q => by
    rw [u2_at, u2_at, q]
  refine ⟨⟨a0, ?_⟩, fun k hk => c _ _ (h2 k hk), fun k hk => c _ _ (h3 k hk), fun k hk => c _ _ (h4 k hk), fun m k hm hk => c _ _ (h5 m k hm hk), fun m hm => c _ _ (h6 m hm), fun m i hm hi => ?_, fun i hi => ?_, fun b k hb hk => c _ _ (h9 b k hb hk)⟩
  · rw [u2_at, if_neg (fun q => (h0 q.1.symm).1 q.2.symm)]; exact a1
  · rw [e6] at hi; exact c _ _ (h7 m i hm hi)
  · rw [e4] at hi; exact c _ _ (h8 i hi)
/-- a batch more -/
theorem sE_bg {m p r z : Int32} (h : sE n s t) (hn : n < 40) : sE (n + 1) (u2 (u2 (bgF s n m p r z) 0 6 (s 0 0)) 0 1 (nI (n + 1))) (u2 (bgF t n m p r z) 0 1 (nI (n + 1))) := by
  obtain ⟨⟨a0, a1⟩, h2, h3, h4, h5, h6, h7, h8, h9⟩ := h
  have es : ∀ g k, g ≠ 0 → g ≠ 11 + n → u2 (u2 (bgF s n m p r z) 0 6 (s 0 0)) 0 1 (nI (n + 1)) g k = s g k := fun g k q1 q2 => by
    rw [u2_at, if_neg (by omega), u2_at, if_neg (by omega)]; unfold bgF; rw [if_neg (by omega)]
  have et : ∀ g k, g ≠ 0 → g ≠ 11 + n → u2 (bgF t n m p r z) 0 1 (nI (n + 1)) g k = t g k := fun g k q1 q2 => by
    rw [u2_at, if_neg (by omega)]; unfold bgF; rw [if_neg (by omega)]
  have et4 : u2 (bgF t n m p r z) 0 1 (nI (n + 1)) 0 4 = t 0 4 := by rw [u2_at, if_neg (by omega)]; unfold bgF; rw [if_neg (by omega)]
  refine ⟨⟨by omega, u2_s⟩, fun k hk => ?_, fun k hk => ?_, fun k hk => ?_, fun m k hm hk => ?_, fun m hm => ?_, fun m i hm hi => ?_, fun i hi => ?_, fun b k hb hk => ?_⟩
  · by_cases k1 : k = 1
    · subst k1; rw [u2_s, u2_s]
    · rw [u2_at, if_neg (by omega), u2_at, if_neg (by omega), u2_at, if_neg (by omega)]
      unfold bgF
      rw [if_neg (by omega), if_neg (by omega)]; exact h2 k hk
  · rw [es _ _ (by omega) (by omega), et _ _ (by omega) (by omega)]; exact h3 k hk
  · rw [es _ _ (by omega) (by omega), et _ _ (by omega) (by omega)]; exact h4 k hk
  · rw [es _ _ (by omega) (by omega), et _ _ (by omega) (by omega)]; exact h5 m k hm hk
  · rw [es _ _ (by omega) (by omega), et _ _ (by omega) (by omega)]; exact h6 m hm
  · rw [et _ _ (by omega) (by omega)] at hi
    rw [es _ _ (by omega) (by omega), et _ _ (by omega) (by omega)]; exact h7 m i hm hi
  · rw [et4] at hi
    rw [es _ _ (by omega) (by omega), et _ _ (by omega) (by omega)]; exact h8 i hi
  · by_cases hbn : b = n
    · subst hbn
      rw [u2_at, if_neg (by omega), u2_at, if_neg (by omega), u2_at, if_neg (by omega)]
      unfold bgF
      rw [if_pos (show 11 + b = 11 + b ∧ k < 11 from ⟨rfl, hk⟩), if_pos (show 11 + b = 11 + b ∧ k < 11 from ⟨rfl, hk⟩)]
    · rw [es _ _ (by omega) (by omega), et _ _ (by omega) (by omega)]; exact h9 b k (by omega) hk
end LD
