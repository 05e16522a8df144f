/-! the class: a centre when it is made -/
def nlR (o a n k w : Nat) : List Value := (List.range n).map fun b => if b < k then Value.ref (o + a + w * b) else .null
theorem nlR_0 {o a n w : Nat} : List.replicate n Value.null = nlR o a n 0 w := by
  unfold nlR
  apply List.ext_getElem?
  intro j
  by_cases hj : j < n
  · simp [hj]
  · simp [hj]
theorem nlR_s {o a n k w : Nat} (hk : k < n) : (nlR o a n k w).set k (.ref (o + a + w * k)) = nlR o a n (k + 1) w := by
  unfold nlR
  apply List.ext_getElem?
  intro j
  rw [List.getElem?_set]
  by_cases hj : k = j
  · subst hj
    simp [hk]
  · rw [if_neg hj]
    by_cases hn : j < n
    · simp only [List.getElem?_map, List.getElem?_range hn, Option.map_some]
      by_cases c : j < k
      · rw [if_pos c, if_pos (by omega)]
      · rw [if_neg c, if_neg (by omega)]
    · simp [hn]
def bdQ (B N : qHp) (o S : Nat) (f g : Nat → Int32) (nb nm : Nat) : Prop :=
  N.1 = (o + 7 + nb + 3 * nm, S) ∧
  N.2 o = some (1, [.ref (o + 1), .ref (o + 2), .ref (o + 3), .ref (o + 4), .ref (o + 5), .int 0, .int 0, .int 0, .int 0, .int 0, .int 0]) ∧
  N.2 (o + 1) = some (8, ia 9 f) ∧ N.2 (o + 2) = some (8, ia 8 g) ∧
  N.2 (o + 3) = some (11, nlR o 7 40 nb 1) ∧ N.2 (o + 4) = some (12, nlR o 47 3 nm 3) ∧
  N.2 (o + 5) = some (5, [.ref (o + 6), .int 0]) ∧ N.2 (o + 6) = some (8, ia 40 fun _ => 0) ∧
  (∀ b, b < nb → N.2 (o + 7 + b) = some (0, ia 11 fun _ => 0)) ∧
  (∀ m, m < nm → N.2 (o + 47 + 3 * m) = some (3, [.ref (o + 48 + 3 * m), .int (-6), .int 0, .int (-6), .int 0, .int 0]) ∧ N.2 (o + 48 + 3 * m) = some (5, [.ref (o + 48 + 3 * m + 1), .int 0]) ∧ N.2 (o + 48 + 3 * m + 1) = some (8, ia 40 fun _ => 0)) ∧
  ∀ q, q < o → N.2 q = B.2 q
section KB
variable {B N : qHp} {o S nb nm : Nat} {f g : Nat → Int32}
theorem bd_f {f' : Nat → Int32} (h : bdQ B N o S f g nb nm) : bdQ B (hU N (o + 1) (8, ia 9 f')) o S f' g nb nm := by
  obtain ⟨h1, h2, h3, h4, h5, h6, h7, h8, h9, h10, h11⟩ := h
  refine ⟨h1, ?_, ?_, ?_, ?_, ?_, ?_, ?_, fun b hb => ?_, fun m hm => ⟨?_, ?_, ?_⟩, fun q hq => ?_⟩
  · rw [hU_at, if_neg (by omega)]; exact h2
  · rw [hU_at, if_pos rfl]
  · rw [hU_at, if_neg (by omega)]; exact h4
  · rw [hU_at, if_neg (by omega)]; exact h5
  · rw [hU_at, if_neg (by omega)]; exact h6
  · rw [hU_at, if_neg (by omega)]; exact h7
  · rw [hU_at, if_neg (by omega)]; exact h8
  · rw [hU_at, if_neg (by omega)]; exact h9 b hb
  · rw [hU_at, if_neg (by omega)]; exact (h10 m hm).1
  · rw [hU_at, if_neg (by omega)]; exact (h10 m hm).2.1
  · rw [hU_at, if_neg (by omega)]; exact (h10 m hm).2.2
  · rw [hU_at, if_neg (by omega)]; exact h11 q hq
theorem bd_g {g' : Nat → Int32} (h : bdQ B N o S f g nb nm) : bdQ B (hU N (o + 2) (8, ia 8 g')) o S f g' nb nm := by
  obtain ⟨h1, h2, h3, h4, h5, h6, h7, h8, h9, h10, h11⟩ := h
  refine ⟨h1, ?_, ?_, ?_, ?_, ?_, ?_, ?_, fun b hb => ?_, fun m hm => ⟨?_, ?_, ?_⟩, fun q hq => ?_⟩
  · rw [hU_at, if_neg (by omega)]; exact h2
  · rw [hU_at, if_neg (by omega)]; exact h3
  · rw [hU_at, if_pos rfl]
  · rw [hU_at, if_neg (by omega)]; exact h5
  · rw [hU_at, if_neg (by omega)]; exact h6
  · rw [hU_at, if_neg (by omega)]; exact h7
  · rw [hU_at, if_neg (by omega)]; exact h8
  · rw [hU_at, if_neg (by omega)]; exact h9 b hb
  · rw [hU_at, if_neg (by omega)]; exact (h10 m hm).1
  · rw [hU_at, if_neg (by omega)]; exact (h10 m hm).2.1
  · rw [hU_at, if_neg (by omega)]; exact (h10 m hm).2.2
  · rw [hU_at, if_neg (by omega)]; exact h11 q hq
theorem bd_b (h : bdQ B N o S f g nb 0) (hb : nb < 40) : ∃ N', hSA (hN N (0, qDf 0)) (o + 3) (nI nb) N.1.1 = some N' ∧ bdQ B N' o (S + 11) f g (nb + 1) 0 := by
  obtain ⟨h1, h2, h3, h4, h5, h6, h7, h8, h9, h10, h11⟩ := h
  obtain ⟨u1, u2, u3⟩ := @hN_new N (0, qDf 0) _ _ h1
  have h1' : N.1.1 = o + 7 + nb := by rw [h1]; show o + 7 + nb + 3 * 0 = _; omega
  have hd : qDf 0 = ia 11 fun _ => 0 := rfl
  refine ⟨hU (hN N (0, qDf 0)) (o + 3) (11, nlR o 7 40 (nb + 1) 1), ?_, ?_, ?_, ?_, ?_, ?_, ?_, ?_, ?_, fun b hb2 => ?_, fun m hm => by omega, fun q hq => ?_⟩
  · unfold hSA
    rw [u3 (o + 3) (by omega), h5, h1']
    rw [show o + 7 + nb + 3 * 0 = o + 7 + nb by omega] at u2
    rw [u2]
    simp only [Option.bind_some]
    rw [nI_clamp (by omega), if_pos ⟨rfl, nI_pos (by omega), by simp [nlR, hb]⟩]
    rw [← nlR_s hb, Nat.one_mul]
  · rw [hU_1, u1]; simp only [hd, ia_len]; rw [show o + 7 + nb + 3 * 0 + 1 = o + 7 + (nb + 1) + 3 * 0 by omega]
  · rw [hU_at, if_neg (by omega), u3 _ (by omega)]; exact h2
  · rw [hU_at, if_neg (by omega), u3 _ (by omega)]; exact h3
  · rw [hU_at, if_neg (by omega), u3 _ (by omega)]; exact h4
  · rw [hU_at, if_pos rfl]
  · rw [hU_at, if_neg (by omega), u3 _ (by omega)]; exact h6
  · rw [hU_at, if_neg (by omega), u3 _ (by omega)]; exact h7
  · rw [hU_at, if_neg (by omega), u3 _ (by omega)]; exact h8
  · rw [hU_at, if_neg (by omega)]
    rcases Nat.lt_or_ge b nb with z | z
    · rw [u3 _ (by omega)]; exact h9 b z
    · have : o + 7 + b = o + 7 + nb + 3 * 0 := by omega
      rw [this, u2, hd]
  · rw [hU_at, if_neg (by omega), u3 _ (by omega)]; exact h11 q hq
theorem bd_m (h : bdQ B N o S f g 40 nm) (hm : nm < 3) : ∃ N1 N', qRun 42 [.ref N.1.1] (hN N (3, qDf 3)) = some (none, N1) ∧ hSA N1 (o + 4) (nI nm) N.1.1 = some N' ∧ bdQ B N' o (S + 48) f g 40 (nm + 1) := by
  obtain ⟨h1, h2, h3, h4, h5, h6, h7, h8, h9, h10, h11⟩ := h
  obtain ⟨u1, u2, u3⟩ := @hN_new N (3, qDf 3) _ _ h1
  have h1' : N.1.1 = o + 47 + 3 * nm := by rw [h1]
  rw [show o + 7 + 40 + 3 * nm = o + 47 + 3 * nm by omega] at u1 u2 u3
  have ul : (qDf 3).length = 6 := rfl
  simp only [ul] at u1
  obtain ⟨N1, e1, a1, b1, c1, c2, d1⟩ := @s_42 (hN N (3, qDf 3)) (o + 47 + 3 * nm) (o + 47 + 3 * nm + 1) (S + 6) u1 u2 (by omega)
  have k : ∀ q, q < o + 47 + 3 * nm → N1.2 q = N.2 q := fun q hq => by rw [d1 q (by omega) (by omega) (by omega), u3 q (by omega)]
  refine ⟨N1, hU N1 (o + 4) (12, nlR o 47 3 (nm + 1) 3), by rw [h1']; exact e1, ?_, ?_, ?_, ?_, ?_, ?_, ?_, ?_, ?_, fun b hb2 => ?_, fun m hm2 => ?_, fun q hq => ?_⟩
  · unfold hSA
    rw [k (o + 4) (by omega), h6, h1', b1]
    simp only [Option.bind_some]
    rw [nI_clamp (by omega), if_pos ⟨rfl, nI_pos (by omega), by simp [nlR, hm]⟩]
    rw [← nlR_s hm]
  · rw [hU_1, a1, show o + 47 + 3 * nm + 1 + 2 = o + 7 + 40 + 3 * (nm + 1) by omega]
  · rw [hU_at, if_neg (by omega), k _ (by omega)]; exact h2
  · rw [hU_at, if_neg (by omega), k _ (by omega)]; exact h3
  · rw [hU_at, if_neg (by omega), k _ (by omega)]; exact h4
  · rw [hU_at, if_neg (by omega), k _ (by omega)]; exact h5
  · rw [hU_at, if_pos rfl]
  · rw [hU_at, if_neg (by omega), k _ (by omega)]; exact h7
  · rw [hU_at, if_neg (by omega), k _ (by omega)]; exact h8
  · rw [hU_at, if_neg (by omega), k _ (by omega)]; exact h9 b hb2
  · rcases Nat.lt_or_ge m nm with z | z
    · rw [hU_at, if_neg (by omega), hU_at, if_neg (by omega), hU_at, if_neg (by omega), k _ (by omega), k _ (by omega), k _ (by omega)]
      exact h10 m z
    · have : m = nm := by omega
      subst this
      rw [hU_at, if_neg (by omega), hU_at, if_neg (by omega), hU_at, if_neg (by omega), b1]
      rw [show o + 48 + 3 * m = o + 47 + 3 * m + 1 by omega]
      exact ⟨rfl, c1, c2⟩
  · rw [hU_at, if_neg (by omega), k _ (by omega)]; exact h11 q hq
end KB
