/-! two days that agree where it counts: all but the costs (0,3), the class's own numbers (0,5), (0,6), and batches from n on -/
def sG (n : Nat) (s t : Sg) : Prop := ∀ g k, g < 11 + n → (g = 0 → k ≠ 3 ∧ k < 5) → (11 ≤ g → k < 11) → s g k = t g k
theorem u2_ne {s : Sg} {g k g' k' : Nat} {v : Int32} (h : ¬ (g' = g ∧ k' = k)) : u2 s g k v g' k' = s g' k' := if_neg h
theorem u2_id {s : Sg} {g k : Nat} : u2 s g k (s g k) = s := by
  funext g' k'
  rw [u2_at]
  split
  · rename_i h; rw [h.1, h.2]
  · rfl
theorem u2_u2 {s : Sg} {g k : Nat} {v w : Int32} : u2 (u2 s g k v) g k w = u2 s g k w := by
  funext g' k'
  rw [u2_at, u2_at, u2_at]
  split <;> rfl
theorem u2_sw {s : Sg} {g k g' k' : Nat} {v w : Int32} (h : ¬ (g = g' ∧ k = k')) : u2 (u2 s g k v) g' k' w = u2 (u2 s g' k' w) g k v := by
  funext i j
  rw [u2_at, u2_at, u2_at, u2_at]
  by_cases h1 : i = g' ∧ j = k'
  · rw [if_pos h1, if_neg (fun q => h ⟨q.1.symm.trans h1.1, q.2.symm.trans h1.2⟩), if_pos h1]
  · rw [if_neg h1, if_neg h1]
/-- dlF as one write -/
theorem dl_u {s : Sg} {b : Nat} {d : Int32} : dlF s b d = u2 s (11 + b) 9 (if s (11 + b) 9 = 0 then d else s (11 + b) 9) := by
  unfold dlF
  split
  · rfl
  · exact u2_id.symm
theorem dl_9 {s : Sg} {b : Nat} {d : Int32} : dlF s b d (11 + b) 9 = if s (11 + b) 9 = 0 then d else s (11 + b) 9 := by rw [dl_u, u2_s]
theorem dl_g {s : Sg} {b : Nat} {d : Int32} {g : Nat} (h : g ≠ 11 + b) : dlF s b d g = s g := by rw [dl_u, u2_g h]
theorem dl_k {s : Sg} {b : Nat} {d : Int32} {g k : Nat} (h : k ≠ 9) : dlF s b d g k = s g k := by rw [dl_u, u2_ne (fun q => h q.2)]
theorem dl_no {s : Sg} {b : Nat} {d : Int32} (h : s (11 + b) 9 ≠ 0) : dlF s b d = s := if_neg h
theorem dl_u2 {s : Sg} {b g k : Nat} {d v : Int32} (h : ¬ (g = 11 + b ∧ k = 9)) : dlF (u2 s g k v) b d = u2 (dlF s b d) g k v := by
  rw [dl_u, dl_u, u2_ne (fun q => h ⟨q.1.symm, q.2.symm⟩), u2_sw h]
theorem dl_nz {s : Sg} {b g : Nat} {d : Int32} (hd : d ≠ 0) (h : s g 9 ≠ 0) : dlF s b d g 9 ≠ 0 := by
  by_cases hg : g = 11 + b
  · subst hg; rw [dl_9, if_neg h]; exact h
  · rw [dl_g hg]; exact h
theorem dl_sw2 {s : Sg} {b c : Nat} {d e : Int32} (h : c ≠ b) : dlF (dlF s b d) c e = dlF (dlF s c e) b d := by
  rw [dl_u, dl_u (s := s) (b := b), dl_u (s := dlF s c e), dl_u (s := s) (b := c)]
  rw [u2_ne (by omega), u2_ne (by omega), u2_sw (by omega)]
theorem dl_sw {s : Sg} {b c : Nat} {d : Int32} : dlF (dlF s b d) c d = dlF (dlF s c d) b d := by
  by_cases h : c = b
  · rw [h]
  · exact dl_sw2 h
section SG
variable {s t w : Sg} {n : Nat}
theorem sG_rf : sG n s s := fun _ _ _ _ _ => rfl
theorem sG_tr (h : sG n s t) (h2 : sG n t w) : sG n s w := fun g k a b c => (h g k a b c).trans (h2 g k a b c)
theorem sG_sy (h : sG n s t) : sG n t s := fun g k a b c => (h g k a b c).symm
theorem sG_b (h : sG n s t) {b k : Nat} (hb : b < n) (hk : k < 11 := by omega) : s (11 + b) k = t (11 + b) k := h _ _ (by omega) (fun q => by omega) (fun _ => hk)
theorem sG_g (h : sG n s t) {g k : Nat} (hg : 0 < g) (h11 : g < 11) : s g k = t g k := h _ _ (by omega) (fun q => by omega) (fun q => by omega)
theorem sG_0 (h : sG n s t) {k : Nat} (hk : k ≠ 3 ∧ k < 5) : s 0 k = t 0 k := h _ _ (by omega) (fun _ => hk) (fun q => by omega)
theorem sG_u (h : sG n s t) {g k : Nat} {v v' : Int32} (e : v = v') : sG n (u2 s g k v) (u2 t g k v') := by
  subst e
  intro g' k' a b c
  rw [u2_at, u2_at, h g' k' a b c]
theorem sG_j (h : sG n s t) {g k : Nat} {v : Int32} (e : g = 0 ∧ (k = 3 ∨ 5 ≤ k)) : sG n (u2 s g k v) t := by
  intro g' k' a b c
  rw [u2_ne]
  · exact h g' k' a b c
  · intro q
    have := b (by omega)
    omega
theorem sG_if {c c' : Prop} [Decidable c] [Decidable c'] {a b a' b' : Sg} (hc : c ↔ c') (h1 : c → sG n a a') (h2 : ¬ c → sG n b b') : sG n (if c then a else b) (if c' then a' else b') := by
  by_cases h : c
  · rw [if_pos h, if_pos (hc.mp h)]; exact h1 h
  · rw [if_neg h, if_neg (fun q => h (hc.mpr q))]; exact h2 h
theorem sG_dl {b : Nat} {d : Int32} (h : sG n s t) (hb : b < n) : sG n (dlF s b d) (dlF t b d) := by
  unfold dlF
  exact sG_if (by rw [sG_b h hb (k := 9)]) (fun _ => sG_u h rfl) (fun _ => h)
theorem sG_ms {b : Nat} (h : sG n s t) (hb : b < n) : sG n (msF s b) (msF t b) := by
  unfold msF
  rw [sG_b h hb (k := 1), sG_b h hb (k := 7), sG_b h hb (k := 8)]
  exact sG_if Iff.rfl (fun _ => h) (fun _ => sG_u h rfl)
theorem sG_cmT {b : Nat} {x x' : Int32} (h : sG n s t) (hb : b < n) (e : x = x') : sG n (let s3 := if s 0 0 < x then s else dlF s b 4; if s3 0 0 ≤ x then s3 else msF s3 b) (let s3 := if t 0 0 < x' then t else dlF t b 4; if s3 0 0 ≤ x' then s3 else msF s3 b) := by
  subst e
  have h3 : sG n (if s 0 0 < x then s else dlF s b 4) (if t 0 0 < x then t else dlF t b 4) := sG_if (by rw [sG_0 h (by omega)]) (fun _ => h) (fun _ => sG_dl h hb)
  exact sG_if (by rw [sG_0 h3 (by omega)]) (fun _ => h3) (fun _ => sG_ms h3 hb)
theorem sG_cmF {b m r q : Nat} (h : sG n s t) (hb : b < n) : sG n (cmF s b m r q) (cmF t b m r q) := by
  have h1 : sG n (u2 s (7 + m) q (nI b)) (u2 t (7 + m) q (nI b)) := sG_u h rfl
  have h2 : sG n (u2 (u2 s (7 + m) q (nI b)) 6 m (u2 s (7 + m) q (nI b) 6 m + 1)) (u2 (u2 t (7 + m) q (nI b)) 6 m (u2 t (7 + m) q (nI b) 6 m + 1)) := sG_u h1 (by rw [sG_g h1 (by omega) (by omega)])
  exact sG_cmT h2 hb (sG_g h (by omega) (by omega))
theorem sG_cm {b : Nat} (h : sG n s t) (hb : b < n) : sG n (cmS b s) (cmS b t) := by
  unfold cmS
  rw [sG_b h hb (k := 3), sG_b h hb (k := 0), sG_b h hb (k := 2), sG_0 h (k := 0) (by omega), sG_g h (g := 6) (by omega) (by omega)]
  exact sG_if Iff.rfl (fun _ => sG_cmF h hb) (fun _ => h)
theorem sG_lv {b : Nat} (h : sG n s t) (hb : b < n) : sG n (lvS b s) (lvS b t) := by
  unfold lvS
  rw [sG_b h hb (k := 2), sG_b h hb (k := 3), sG_0 h (k := 0) (by omega), sG_g h (g := 2) (by omega) (by omega)]
  refine sG_if Iff.rfl (fun _ => sG_if Iff.rfl (fun _ => h) (fun _ => ?_)) (fun _ => h)
  unfold lvF
  exact sG_ms (sG_u (sG_u h (by rw [sG_b h hb (k := 7), sG_b h hb (k := 6)])) rfl) hb
theorem sG_it {F : Nat → Sg → Sg} {k : Nat} (hF : ∀ b s t, b < k → sG n s t → sG n (F b s) (F b t)) (h : sG n s t) : sG n (itF F k s) (itF F k t) := by
  induction k with
  | zero => exact h
  | succ k ih => exact hF k _ _ (by omega) (ih (fun b s t q => hF b s t (by omega)))
theorem sG_sh {g k : Nat} (h : sG n s t) (hg : 0 < g) (h11 : g < 11) : sG n (itF (shS g) k s) (itF (shS g) k t) := by
  refine sG_it (fun i s t _ q => ?_) h
  unfold shS
  exact sG_u q (sG_g q hg h11)
theorem sG_ed {b : Nat} (h : sG n s t) (hb : b < n) : sG n (edF s b) (edF t b) := by
  unfold edF
  exact sG_if (by rw [sG_b h hb (k := 4)]) (fun _ => sG_if (by rw [sG_b h hb (k := 5)]) (fun _ => sG_u h (sG_0 h (by omega))) (fun _ => h)) (fun _ => h)
theorem sG_tkT {m b : Nat} (h : sG n s t) (hb : b < n) (hm : m < 3) : sG n
    (let s4 := if s (3 + m) 2 = s (11 + b) 2 then s else if s 1 0 ≤ 0 then s else
      let t1 := u2 s (3 + m) 1 (s 1 0)
      let t2 := u2 t1 (3 + m) 4 (t1 (3 + m) 4 + 1)
      dlF t2 b 2
     u2 s4 (3 + m) 2 (s4 (11 + b) 2))
    (let s4 := if t (3 + m) 2 = t (11 + b) 2 then t else if t 1 0 ≤ 0 then t else
      let t1 := u2 t (3 + m) 1 (t 1 0)
      let t2 := u2 t1 (3 + m) 4 (t1 (3 + m) 4 + 1)
      dlF t2 b 2
     u2 s4 (3 + m) 2 (s4 (11 + b) 2)) := by
  have h1 : sG n (u2 s (3 + m) 1 (s 1 0)) (u2 t (3 + m) 1 (t 1 0)) := sG_u h (sG_g h (by omega) (by omega))
  have h2 := sG_u h1 (g := 3 + m) (k := 4) (show u2 s (3 + m) 1 (s 1 0) (3 + m) 4 + 1 = u2 t (3 + m) 1 (t 1 0) (3 + m) 4 + 1 by rw [sG_g h1 (by omega) (by omega)])
  have h4 : sG n (if s (3 + m) 2 = s (11 + b) 2 then s else if s 1 0 ≤ 0 then s else dlF (u2 (u2 s (3 + m) 1 (s 1 0)) (3 + m) 4 (u2 s (3 + m) 1 (s 1 0) (3 + m) 4 + 1)) b 2) (if t (3 + m) 2 = t (11 + b) 2 then t else if t 1 0 ≤ 0 then t else dlF (u2 (u2 t (3 + m) 1 (t 1 0)) (3 + m) 4 (u2 t (3 + m) 1 (t 1 0) (3 + m) 4 + 1)) b 2) :=
    sG_if (by rw [sG_b h hb (k := 2), sG_g h (g := 3 + m) (by omega) (by omega)]) (fun _ => h) (fun _ => sG_if (by rw [sG_g h (g := 1) (by omega) (by omega)]) (fun _ => h) (fun _ => sG_dl h2 hb))
  exact sG_u h4 (sG_b h4 hb)
theorem sG_tk {m b q : Nat} (h : sG n s t) (hb : b < n) (hm : m < 3) : sG n (tkF s m b q) (tkF t m b q) := by
  have h1 : sG n (u2 s 6 m (s 6 m - 1)) (u2 t 6 m (t 6 m - 1)) := sG_u h (by rw [sG_g h (by omega) (by omega)])
  have h2 := sG_sh (g := 7 + m) (k := q) h1 (by omega) (by omega)
  have h3 := sG_u h2 (g := 3 + m) (k := 0) (rfl : nI b = nI b)
  exact sG_tkT h3 hb hm
theorem sG_rj {b q : Nat} {many many' : Int32} (h : sG n s t) (hb : b < n) (e : many = many') : sG n (rjF s b q many) (rjF t b q many') := by
  subst e
  unfold rjF
  refine sG_if Iff.rfl (fun _ => h) (fun _ => ?_)
  have h1 : sG n (if s (11 + b) 5 = 0 then u2 (u2 s 10 q (nI b)) 0 4 (u2 s 10 q (nI b) 0 4 + 1) else s) (if t (11 + b) 5 = 0 then u2 (u2 t 10 q (nI b)) 0 4 (u2 t 10 q (nI b) 0 4 + 1) else t) := by
    refine sG_if (by rw [sG_b h hb (k := 5)]) (fun _ => ?_) (fun _ => h)
    have h0 := sG_u h (g := 10) (k := q) (rfl : nI b = nI b)
    exact sG_u h0 (by rw [sG_0 h0 (by omega)])
  have h2 := sG_u h1 (g := 11 + b) (k := 5) (congrArg (· + many) (sG_b h1 hb (k := 5)))
  have h3 := sG_u h2 (g := 0) (k := 2) (congrArg (· + many) (sG_0 h2 (k := 2) (by omega)))
  exact sG_dl h3 hb
theorem sG_so {m b q : Nat} (h : sG n s t) (hb : b < n) (hm : m < 3) : sG n (soF s m b q) (soF t m b q) := by
  unfold soF
  dsimp only
  rw [sG_b h hb (k := 4), sG_g h (g := 1) (k := 6 + m) (by omega) (by omega), sG_g h (g := 3) (by omega) (by omega), sG_g h (g := 4) (by omega) (by omega), sG_g h (g := 5) (by omega) (by omega), sG_g h (g := 1) (k := 1) (by omega) (by omega), sG_g h (g := 3 + m) (by omega) (by omega)]
  generalize (if t (11 + b) 4 ≤ t 1 (6 + m) then t (11 + b) 4 else t 1 (6 + m)) = many
  generalize (if many ≤ (t 3 3 + t 4 3 + t 5 3 + many) * t 1 1 / 1000 - (t 3 3 + t 4 3 + t 5 3) * t 1 1 / 1000 then many else (t 3 3 + t 4 3 + t 5 3 + many) * t 1 1 / 1000 - (t 3 3 + t 4 3 + t 5 3) * t 1 1 / 1000) = bad
  have h1 := sG_u h (g := 3 + m) (k := 3) (rfl : t (3 + m) 3 + many = t (3 + m) 3 + many)
  have h2 := sG_u h1 (g := 11 + b) (k := 4) (congrArg (· - many) (sG_b h1 hb (k := 4)))
  have h3 := sG_u h2 (g := 11 + b) (k := 6) (congrArg (· + many - bad) (sG_b h2 hb (k := 6)))
  have h4 := sG_rj (q := q) h3 hb (rfl : bad = bad)
  exact sG_if (by rw [sG_b h4 hb (k := 4)]) (fun _ => sG_ed (sG_u h4 rfl) hb) (fun _ => h4)
theorem sG_dq {m k : Nat} (h : sG n s t) (hm : m < 3) (hk : ∀ i, i < k → nN (t (7 + m) i) < n) : sG n (itF (dqS m) k s) (itF (dqS m) k t) := by
  induction k with
  | zero => exact h
  | succ k ih =>
    have ih := ih (fun i q => hk i (by omega))
    show sG n (dlF (itF (dqS m) k s) (nN (itF (dqS m) k s (7 + m) k)) 1) (dlF (itF (dqS m) k t) (nN (itF (dqS m) k t (7 + m) k)) 1)
    rw [sG_g ih (g := 7 + m) (by omega) (by omega)]
    refine sG_dl ih ?_
    rw [dq_o (Or.inl (by omega))]
    exact hk k (by omega)
end SG
