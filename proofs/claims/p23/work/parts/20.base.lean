/-! arrays of ints, the state of a day, the reference's array of it -/
def ia (n : Nat) (f : Nat → Int32) : List Value := (List.range n).map fun k => Value.int (f k)
def up (f : Nat → Int32) (k : Nat) (v : Int32) : Nat → Int32 := fun j => if j = k then v else f j
theorem ia_len (n : Nat) (f : Nat → Int32) : (ia n f).length = n := by simp [ia]
theorem ia_at {n k : Nat} {f : Nat → Int32} (h : k < n) : (ia n f)[k]? = some (.int (f k)) := by simp [ia, h]
theorem ia_set {n k : Nat} {f : Nat → Int32} {v : Int32} : (ia n f).set k (.int v) = ia n (up f k v) := by
  apply List.ext_getElem?
  intro j
  by_cases hj : j < n
  · by_cases hk : k = j
    · subst hk
      rw [List.getElem?_set_self (by rw [ia_len]; exact hj), ia_at hj]
      simp [up]
    · rw [List.getElem?_set_ne hk, ia_at hj, ia_at hj]
      simp [up, Ne.symm hk]
  · rw [List.getElem?_eq_none (by simp [ia_len]; omega), List.getElem?_eq_none (by rw [ia_len]; omega)]
theorem ia_ext {n : Nat} {f g : Nat → Int32} (h : ∀ k, k < n → f k = g k) : ia n f = ia n g := by
  unfold ia
  exact List.map_congr_left fun k hk => by rw [h k (List.mem_range.mp hk)]
theorem ia_rep {n : Nat} {v : Int32} : List.replicate n (Value.int v) = ia n (fun _ => v) := by
  unfold ia
  apply List.ext_getElem?
  intro j
  by_cases hj : j < n
  · simp [hj]
  · simp [hj]
theorem ia_ints (n : Nat) (f : Nat → Int32) : qInts (ia n f) = true := by simp [qInts, ia]
theorem ia_cpy {n n' : Nat} {f g : Nat → Int32} {s d c : Nat} (h1 : s + c ≤ n) : qCpy (ia n f) (ia n' g) s d c = ia n' (fun k => if d ≤ k ∧ k < d + c then f (s + (k - d)) else g k) := by
  unfold qCpy
  rw [ia_len]
  unfold ia
  refine List.map_congr_left fun k hk => ?_
  have hk := List.mem_range.mp hk
  by_cases hc : d ≤ k ∧ k < d + c
  · have : s + (k - d) < n := by omega
    rw [if_pos hc]
    dsimp only
    rw [if_pos hc]
    simp [this]
  · rw [if_neg hc]
    dsimp only
    rw [if_neg hc]
    simp [hk]
/-! the heap -/
theorem hU_at {M : qHp} {a b : Nat} {c : qCel} : (hU M a c).2 b = if b = a then some c else M.2 b := rfl
theorem hU_1 {M : qHp} {a : Nat} {c : qCel} : (hU M a c).1 = M.1 := rfl
theorem hU_hU {M : qHp} {a : Nat} {c d : qCel} : hU (hU M a c) a d = hU M a d := by
  refine Prod.ext rfl (funext fun q => ?_)
  simp only [hU]
  split <;> rfl
theorem hU_id {M : qHp} {a : Nat} {c : qCel} (h : M.2 a = some c) : hU M a c = M := by
  refine Prod.ext rfl (funext fun q => ?_)
  simp only [hU]
  split
  · rename_i e; subst e; exact h.symm
  · rfl
theorem hU_sw {M : qHp} {a b : Nat} {c d : qCel} (h : a ≠ b) : hU (hU M a c) b d = hU (hU M b d) a c := by
  refine Prod.ext rfl (funext fun q => ?_)
  simp only [hU]
  by_cases h1 : q = b
  · have : q ≠ a := fun e => h (e.symm.trans h1)
    simp [h1, Ne.symm h]
  · simp [h1]
theorem hG_of {M : qHp} {a c k : Nat} {vs : List Value} (h : M.2 a = some (c, vs)) : hG M a c k = vs[k]? := by
  unfold hG; rw [h]; simp
theorem hP_of {M : qHp} {a c k : Nat} {ty : FieldType} {v : Value} {vs : List Value} (h : M.2 a = some (c, vs)) (hk : k < vs.length) (hf : qFit ty v = true) : hP M a c k ty v = some (hU M a (c, vs.set k v)) := by
  unfold hP; rw [h]; simp [hk, hf]
theorem hT_of {M : qHp} {a c : Nat} {vs : List Value} (h : M.2 a = some (c, vs)) : hT M a c = true := by
  unfold hT; rw [h]; simp
theorem hLI_of {M : qHp} {a t : Nat} {vs : List Value} {i : Int32} {v : Value} (h : M.2 a = some (t, vs)) (ht : t = 8 ∨ t = 14) (hi : ¬ i < 0) (hv : vs[i.toNatClampNeg]? = some v) : hLI M a i = some v := by
  unfold hLI; rw [h]; simp only [Option.bind_some]; rw [if_pos ⟨ht, hi⟩]; exact hv
theorem hS_of {M : qHp} {a t : Nat} {vs : List Value} {i : Int32} {v : Value} (h : M.2 a = some (t, vs)) (hi : ¬ i < 0) (hv : i.toNatClampNeg < vs.length) : hS M t a i v = some (hU M a (t, vs.set i.toNatClampNeg v)) := by
  unfold hS; rw [h]; simp only [Option.bind_some]; rw [if_pos ⟨trivial, hi, hv⟩]
theorem hLI_nI {M : qHp} {a n k : Nat} {f : Nat → Int32} (h : M.2 a = some (8, ia n f)) (hk : k < n) (hn : n < 100000) : hLI M a (nI k) = some (.int (f k)) := by
  have hc : (nI k).toNatClampNeg = k := nI_clamp (by omega)
  exact hLI_of h (Or.inl rfl) (nI_pos (by omega)) (by rw [hc]; exact ia_at hk)
theorem hS_nI {M : qHp} {a n k : Nat} {f : Nat → Int32} {v : Int32} (h : M.2 a = some (8, ia n f)) (hk : k < n) (hn : n < 100000) : hS M 8 a (nI k) (.int v) = some (hU M a (8, ia n (up f k v))) := by
  have hc : (nI k).toNatClampNeg = k := nI_clamp (by omega)
  rw [hS_of h (nI_pos (by omega)) (by rw [hc, ia_len]; exact hk), hc, ia_set]
theorem pNl_i {x : Int32} : qNl (some (some (.int x))) = true := id rfl
theorem pNl_r {x : Nat} : qNl (some (some (.ref x))) = true := id rfl
theorem pNl_u : qNl (some none) = true := id rfl
theorem pNl_n : qNl (some (some .null)) = true := id rfl
theorem i1000 : ((1000 : Int32) = 0) = False := eq_false (by decide)
theorem i1e0 : ((1 : Int32) = 0) = False := eq_false (by decide)
/-! truth as an int -/
def bI (c : Prop) [Decidable c] : Int32 := if c then 1 else 0
theorem bI_0 {c : Prop} [Decidable c] : (bI c = 0) = ¬ c := by
  unfold bI; by_cases h : c <;> simp [h]
theorem bI_1 {c : Prop} [Decidable c] : (bI c = 1) = c := by
  unfold bI; by_cases h : c <;> simp [h]
theorem nn_or {c : Prop} : (¬ c ∨ c) = True := eq_true ((Classical.em c).symm)
theorem or_nn {c : Prop} : (c ∨ ¬ c) = True := eq_true (Classical.em c)
theorem bI_01 {c : Prop} [Decidable c] : bI c = 0 ∨ bI c = 1 := by
  unfold bI; by_cases h : c <;> simp [h]
/-! the state of a day: groups 0 (now, batches, rejects, costs, row of the hands, all sorted by machines, next event), 1 settings, 2 cutoffs, 3 to 5 machines (has, set up yet, last route, ran, set ups), 6 queued, 7 to 9 queues, 10 the row of the hands, from 11 on batches -/
abbrev Sg : Type := Nat → Nat → Int32
def u2 (s : Sg) (g i : Nat) (v : Int32) : Sg := fun g' i' => if g' = g ∧ i' = i then v else s g' i'
theorem u2_at {s : Sg} {g i g' i' : Nat} {v : Int32} : u2 s g i v g' i' = if g' = g ∧ i' = i then v else s g' i' := rfl
theorem u2_s {s : Sg} {g i : Nat} {v : Int32} : u2 s g i v g i = v := if_pos ⟨rfl, rfl⟩
def gp (k : Nat) : Nat := if k < 2 then 0 else if k < 11 then 1 else if k < 19 then 2 else if k < 34 then 3 + (k - 19) / 5 else if k < 36 then 0 else if k < 39 then 6 else if k < 159 then 7 + (k - 39) / 40 else if k < 160 then 0 else if k < 200 then 10 else 11 + (k - 200) / 11
def ix (k : Nat) : Nat := if k < 2 then k else if k < 11 then k - 2 else if k < 19 then k - 11 else if k < 34 then (k - 19) % 5 else if k < 36 then k - 32 else if k < 39 then k - 36 else if k < 159 then (k - 39) % 40 else if k < 160 then 4 else if k < 200 then k - 160 else (k - 200) % 11
def pl (g i : Nat) : Nat := if g = 0 then (if i < 2 then i else if i < 4 then 32 + i else 159) else if g = 1 then 2 + i else if g = 2 then 11 + i else if g < 6 then 19 + 5 * (g - 3) + i else if g = 6 then 36 + i else if g < 10 then 39 + 40 * (g - 7) + i else if g = 10 then 160 + i else 200 + 11 * (g - 11) + i
def enc (s : Sg) (k : Nat) : Int32 := s (gp k) (ix k)
theorem pl_ok (k : Nat) : pl (gp k) (ix k) = k := by
  by_cases h1 : k < 2
  · rw [show gp k = 0 from if_pos h1, show ix k = k from if_pos h1, pl, if_pos rfl, if_pos h1]
  by_cases h2 : k < 11
  · rw [gp, ix, if_neg h1, if_neg h1, if_pos h2, if_pos h2, pl, if_neg (by omega), if_pos rfl]; omega
  by_cases h3 : k < 19
  · rw [gp, ix, if_neg h1, if_neg h1, if_neg h2, if_neg h2, if_pos h3, if_pos h3, pl, if_neg (by omega), if_neg (by omega), if_pos rfl]; omega
  by_cases h4 : k < 34
  · rw [gp, ix, if_neg h1, if_neg h1, if_neg h2, if_neg h2, if_neg h3, if_neg h3, if_pos h4, if_pos h4, pl, if_neg (by omega), if_neg (by omega), if_neg (by omega), if_pos (by omega)]; omega
  by_cases h5 : k < 36
  · rw [gp, ix, if_neg h1, if_neg h1, if_neg h2, if_neg h2, if_neg h3, if_neg h3, if_neg h4, if_neg h4, if_pos h5, if_pos h5, pl, if_pos rfl, if_neg (by omega), if_pos (by omega)]; omega
  by_cases h6 : k < 39
  · rw [gp, ix, if_neg h1, if_neg h1, if_neg h2, if_neg h2, if_neg h3, if_neg h3, if_neg h4, if_neg h4, if_neg h5, if_neg h5, if_pos h6, if_pos h6, pl, if_neg (by omega), if_neg (by omega), if_neg (by omega), if_neg (by omega), if_pos rfl]; omega
  by_cases h7 : k < 159
  · rw [gp, ix, if_neg h1, if_neg h1, if_neg h2, if_neg h2, if_neg h3, if_neg h3, if_neg h4, if_neg h4, if_neg h5, if_neg h5, if_neg h6, if_neg h6, if_pos h7, if_pos h7, pl, if_neg (by omega), if_neg (by omega), if_neg (by omega), if_neg (by omega), if_neg (by omega), if_pos (by omega)]; omega
  by_cases h8 : k < 160
  · rw [gp, ix, if_neg h1, if_neg h1, if_neg h2, if_neg h2, if_neg h3, if_neg h3, if_neg h4, if_neg h4, if_neg h5, if_neg h5, if_neg h6, if_neg h6, if_neg h7, if_neg h7, if_pos h8, if_pos h8, pl, if_pos rfl, if_neg (by omega), if_neg (by omega)]; omega
  by_cases h9 : k < 200
  · rw [gp, ix, if_neg h1, if_neg h1, if_neg h2, if_neg h2, if_neg h3, if_neg h3, if_neg h4, if_neg h4, if_neg h5, if_neg h5, if_neg h6, if_neg h6, if_neg h7, if_neg h7, if_neg h8, if_neg h8, if_pos h9, if_pos h9, pl, if_neg (by omega), if_neg (by omega), if_neg (by omega), if_neg (by omega), if_neg (by omega), if_neg (by omega), if_pos rfl]; omega
  · rw [gp, ix, if_neg h1, if_neg h1, if_neg h2, if_neg h2, if_neg h3, if_neg h3, if_neg h4, if_neg h4, if_neg h5, if_neg h5, if_neg h6, if_neg h6, if_neg h7, if_neg h7, if_neg h8, if_neg h8, if_neg h9, if_neg h9, pl, if_neg (by omega), if_neg (by omega), if_neg (by omega), if_neg (by omega), if_neg (by omega), if_neg (by omega), if_neg (by omega)]; omega
theorem up_enc (s : Sg) (k : Nat) (v : Int32) : up (enc s) k v = enc (u2 s (gp k) (ix k) v) := by
  funext j
  unfold up enc u2
  by_cases h : j = k
  · subst h; rw [if_pos rfl, if_pos ⟨rfl, rfl⟩]
  · rw [if_neg h, if_neg]
    rintro ⟨h1, h2⟩
    apply h
    rw [← pl_ok j, h1, h2, pl_ok]
theorem loc_set {i : Nat} (h : i < 9) : gp (2 + i) = 1 ∧ ix (2 + i) = i := by
  constructor
  · rw [gp, if_neg (by omega), if_pos (by omega)]
  · rw [ix, if_neg (by omega), if_pos (by omega)]; omega
theorem loc_cut {i : Nat} (h : i < 8) : gp (11 + i) = 2 ∧ ix (11 + i) = i := by
  constructor
  · rw [gp, if_neg (by omega), if_neg (by omega), if_pos (by omega)]
  · rw [ix, if_neg (by omega), if_neg (by omega), if_pos (by omega)]; omega
theorem loc_mach {m i : Nat} (hm : m < 3) (h : i < 5) : gp (19 + 5 * m + i) = 3 + m ∧ ix (19 + 5 * m + i) = i := by
  constructor
  · rw [gp, if_neg (by omega), if_neg (by omega), if_neg (by omega), if_pos (by omega)]; omega
  · rw [ix, if_neg (by omega), if_neg (by omega), if_neg (by omega), if_pos (by omega)]; omega
theorem loc_qd {m : Nat} (hm : m < 3) : gp (36 + m) = 6 ∧ ix (36 + m) = m := by
  constructor
  · rw [gp, if_neg (by omega), if_neg (by omega), if_neg (by omega), if_neg (by omega), if_neg (by omega), if_pos (by omega)]
  · rw [ix, if_neg (by omega), if_neg (by omega), if_neg (by omega), if_neg (by omega), if_neg (by omega), if_pos (by omega)]; omega
theorem loc_q {m i : Nat} (hm : m < 3) (h : i < 40) : gp (39 + 40 * m + i) = 7 + m ∧ ix (39 + 40 * m + i) = i := by
  constructor
  · rw [gp, if_neg (by omega), if_neg (by omega), if_neg (by omega), if_neg (by omega), if_neg (by omega), if_neg (by omega), if_pos (by omega)]; omega
  · rw [ix, if_neg (by omega), if_neg (by omega), if_neg (by omega), if_neg (by omega), if_neg (by omega), if_neg (by omega), if_pos (by omega)]; omega
theorem loc_line {i : Nat} (h : i < 40) : gp (160 + i) = 10 ∧ ix (160 + i) = i := by
  constructor
  · rw [gp, if_neg (by omega), if_neg (by omega), if_neg (by omega), if_neg (by omega), if_neg (by omega), if_neg (by omega), if_neg (by omega), if_neg (by omega), if_pos (by omega)]
  · rw [ix, if_neg (by omega), if_neg (by omega), if_neg (by omega), if_neg (by omega), if_neg (by omega), if_neg (by omega), if_neg (by omega), if_neg (by omega), if_pos (by omega)]; omega
theorem loc_b {b w : Nat} (h : w < 11) : gp (200 + 11 * b + w) = 11 + b ∧ ix (200 + 11 * b + w) = w := by
  constructor
  · rw [gp, if_neg (by omega), if_neg (by omega), if_neg (by omega), if_neg (by omega), if_neg (by omega), if_neg (by omega), if_neg (by omega), if_neg (by omega), if_neg (by omega)]; omega
  · rw [ix, if_neg (by omega), if_neg (by omega), if_neg (by omega), if_neg (by omega), if_neg (by omega), if_neg (by omega), if_neg (by omega), if_neg (by omega), if_neg (by omega)]; omega
/-- the reference's array at a holds the day s -/
def mW (M : qHp) (a : Nat) (s : Sg) : qHp := hU M a (8, ia 640 (enc s))
theorem mW_at {M : qHp} {a : Nat} {s : Sg} : (mW M a s).2 a = some (8, ia 640 (enc s)) := if_pos rfl
theorem mW_mW {M : qHp} {a : Nat} {s t : Sg} : mW (mW M a s) a t = mW M a t := hU_hU
theorem mW_1 {M : qHp} {a : Nat} {s : Sg} : (mW M a s).1 = M.1 := rfl
theorem mW_ne {M : qHp} {a q : Nat} {s : Sg} (h : q ≠ a) : (mW M a s).2 q = M.2 q := if_neg h
theorem ml {M : qHp} {a k g i : Nat} {s : Sg} (hk : k < 640) (hl : gp k = g ∧ ix k = i) {x : Int32} (hx : x = nI k) : hLI (mW M a s) a x = some (.int (s g i)) := by
  rw [hx, hLI_nI mW_at hk (by omega)]
  unfold enc
  rw [hl.1, hl.2]
theorem ms {M : qHp} {a k g i : Nat} {s : Sg} {v : Int32} (hk : k < 640) (hl : gp k = g ∧ ix k = i) {x : Int32} (hx : x = nI k) : hS (mW M a s) 8 a x (.int v) = some (mW M a (u2 s g i v)) := by
  rw [hx, hS_nI mW_at hk (by omega)]
  unfold mW
  rw [hU_hU, up_enc, hl.1, hl.2]
