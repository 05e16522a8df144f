/-! reading orders, and the reference's reader of them -/
def srP (y : Nat → Nat) (P p : Nat) : Nat := if p < P then y p else 0
abbrev qO5 := Bool × Nat × Nat × Nat × Nat
def o3P (y : Nat → Nat) (P p : Nat) : qO5 :=
  let n1 := nuP y P (p + 1)
  if n1.1 = false then (false, 0, 0, 0, n1.2.2) else
  let g1 := sgP y P 62 n1.2.2
  if g1.1 = false then (false, 0, 0, 0, g1.2) else
  let d := dgP y P g1.2
  if d.1 = false then (false, 0, 0, 0, d.2.2) else
  let g2 := sgP y P 64 d.2.2
  if g2.1 = false then (false, 0, 0, 0, g2.2) else
  let n2 := nuP y P g2.2
  if n2.1 = false then (false, 0, 0, 0, n2.2.2) else
  (true, n1.2.1, d.2.1, n2.2.1, n2.2.2)
def o2P (y : Nat → Nat) (P p : Nat) : qO5 :=
  let d := dgP y P (p + 1)
  if d.1 = false then (false, 0, 0, 0, d.2.2) else
  let g1 := sgP y P 61 d.2.2
  if g1.1 = false then (false, 0, 0, 0, g1.2) else
  let n2 := nuP y P g1.2
  if n2.1 = false then (false, 0, 0, 0, n2.2.2) else
  (true, d.2.1, n2.2.1, 0, n2.2.2)
def o1P (y : Nat → Nat) (P p : Nat) : qO5 :=
  let n1 := nuP y P (p + 1)
  if n1.1 = false then (false, 0, 0, 0, n1.2.2) else
  (true, n1.2.1, 0, 0, n1.2.2)
/-- what an order is: 3 mail, 2 a cutoff, 1 another, 0 none -/
def knP (u : Nat) : Nat := if u = 108 ∨ u = 102 ∨ u = 112 then 3 else if u = 99 then 2 else if u = 115 ∨ u = 116 then 1 else 0
def orP (y : Nat → Nat) (P p : Nat) : qO5 := if knP (srP y P p) = 3 then o3P y P p else if knP (srP y P p) = 2 then o2P y P p else if knP (srP y P p) = 1 then o1P y P p else (false, 0, 0, 0, p)
theorem nu_le {y : Nat → Nat} {P p : Nat} (h : p ≤ P) : p ≤ (nuP y P p).2.2 ∧ (nuP y P p).2.2 ≤ P ∧ ((nuP y P p).1 = true → p < (nuP y P p).2.2) := by
  unfold nuP
  cases e : inB y P p 48 57 with
  | false => exact ⟨Nat.le_refl _, h, fun q => absurd q (by simp)⟩
  | true =>
    have g0 := (inB_t (y := y)).mp e
    simp only [Bool.true_eq_false, if_false]
    split
    · exact ⟨by simp, by simp; omega, by simp⟩
    · cases e1 : inB y P (p + 1) 48 57 with
      | false => simp; omega
      | true =>
        have g1 := (inB_t (y := y)).mp e1
        simp only [Bool.true_eq_false, if_false]
        cases e2 : inB y P (p + 2) 48 57 with
        | false => simp; omega
        | true =>
          have g2 := (inB_t (y := y)).mp e2
          simp only [Bool.true_eq_false, if_false]
          cases e3 : inB y P (p + 3) 48 57 with
          | false => simp; omega
          | true =>
            have g3 := (inB_t (y := y)).mp e3
            simp; omega
theorem dg_le {y : Nat → Nat} {P p : Nat} (h : p ≤ P) : p ≤ (dgP y P p).2.2 ∧ (dgP y P p).2.2 ≤ P ∧ ((dgP y P p).1 = true → p < (dgP y P p).2.2) := by
  unfold dgP
  cases e : inB y P p 48 55 with
  | false => exact ⟨Nat.le_refl _, h, fun q => absurd q (by simp)⟩
  | true =>
    have g0 := (inB_t (y := y)).mp e
    simp; omega
theorem sg_le {y : Nat → Nat} {P ch p : Nat} (h : p ≤ P) : p ≤ (sgP y P ch p).2 ∧ (sgP y P ch p).2 ≤ P ∧ ((sgP y P ch p).1 = true → p < (sgP y P ch p).2) := by
  unfold sgP
  cases e : inB y P p ch ch with
  | false => exact ⟨Nat.le_refl _, h, fun q => absurd q (by simp)⟩
  | true =>
    have g0 := (inB_t (y := y)).mp e
    simp; omega
section QH
variable {M : qHp} {c : Nat → Int32} {R : Nat → Sg} {A : Nat → Nat → Int32} {y : Nat → Nat} {P : Nat}
/-- what of the reader's rows holds after an order, the o-th -/
def orR (A A' : Nat → Nat → Int32) (o u : Nat) (r : qO5) : Prop := A' 0 = A 0 ∧ A' 1 = A 1 ∧ (∀ k, k < 4 * o → A' 2 k = A 2 k) ∧ (r.1 = true → A' 2 (4 * o) = nI u ∧ A' 2 (4 * o + 1) = nI r.2.1 ∧ (knP u ≠ 1 → A' 2 (4 * o + 2) = nI r.2.2.1) ∧ (knP u = 3 → A' 2 (4 * o + 3) = nI r.2.2.2.1))
theorem ua_o {i k : Nat} {v : Int32} (h : i ≠ 2) : ua A 2 k v i = A i := if_neg h
theorem ua_s {k j : Nat} {v : Int32} : ua A 2 k v 2 j = if j = k then v else A 2 j := by
  unfold ua up; rw [if_pos rfl]
theorem sw_142 {u : Nat} {l0 l1 : Option Value} {N : qHp} (hu : u < 256) : qEx 142 (38, [l0, l1], [.int (nI u)], N) = if knP u = 3 then qEx 142 (124, [l0, l1], [], N) else if knP u = 2 then qEx 142 (182, [l0, l1], [], N) else if knP u = 1 then qEx 142 (223, [l0, l1], [], N) else qEx 142 (239, [l0, l1], [], N) := by
  rw [x_142_38]
  unfold knP
  by_cases h1 : u = 108
  · subst h1; simp (config := {decide := true}) only [if_true, if_false]
  by_cases h2 : u = 102
  · subst h2; simp (config := {decide := true}) only [if_true, if_false]
  by_cases h3 : u = 112
  · subst h3; simp (config := {decide := true}) only [if_true, if_false]
  by_cases h4 : u = 99
  · subst h4; simp (config := {decide := true}) only [if_true, if_false]
  by_cases h5 : u = 115
  · subst h5; simp (config := {decide := true}) only [if_true, if_false]
  by_cases h6 : u = 116
  · subst h6; simp (config := {decide := true}) only [if_true, if_false]
  have k1 : (nI u = 108) = False := eq_false (by rw [show (108 : Int32) = nI 108 from rfl, nI_eq_iff (by omega) (by omega)]; exact h1)
  have k2 : (nI u = 102) = False := eq_false (by rw [show (102 : Int32) = nI 102 from rfl, nI_eq_iff (by omega) (by omega)]; exact h2)
  have k3 : (nI u = 112) = False := eq_false (by rw [show (112 : Int32) = nI 112 from rfl, nI_eq_iff (by omega) (by omega)]; exact h3)
  have k4 : (nI u = 99) = False := eq_false (by rw [show (99 : Int32) = nI 99 from rfl, nI_eq_iff (by omega) (by omega)]; exact h4)
  have k5 : (nI u = 115) = False := eq_false (by rw [show (115 : Int32) = nI 115 from rfl, nI_eq_iff (by omega) (by omega)]; exact h5)
  have k6 : (nI u = 116) = False := eq_false (by rw [show (116 : Int32) = nI 116 from rfl, nI_eq_iff (by omega) (by omega)]; exact h6)
  simp only [k1, k2, k3, k4, k5, k6, h1, h2, h3, h4, h5, h6, if_false, ite_self, or_self]
  simp
theorem s_142 {p o : Nat} (hy : pdOK c A y P) (hp : c 2 = nI p) (h80 : p ≤ P) (ho : c 3 = nI o) (h3 : 3 * o ≤ p) : ∃ A', qRun 142 [.ref 627] (wm M c R A) = some (some (.int (bB (orP y P p).1)), wm M (up c 2 (nI (orP y P p).2.2.2.2)) R A') ∧ orR A A' o (srP y P p) (orP y P p) := by
  have hP := hy.1
  have e4 : (4 * nI o : Int32) = nI (4 * o) := by rw [show (4 * nI o : Int32) = nI 4 * nI o from rfl, pk_mul]
  have hu : srP y P p < 256 := by
    unfold srP; split
    · rename_i h; exact (hy.2.2 p h).2
    · omega
  generalize hA1 : ua A 2 (4 * o) (nI (srP y P p)) = A1
  have hy1 : pdOK c A1 y P := pd_up hy rfl (by rw [← hA1]; exact ua_o (by omega))
  have hs : ∀ l1, qEx 142 (0, [some (.ref 627), l1], [], wm M c R A) = qEx 142 (38, [some (.ref 627), some (.int (nI (srP y P p)))], [.int (nI (srP y P p))], wm M c R A1) := by
    intro l1
    unfold srP at hA1 ⊢
    by_cases c1 : P ≤ p
    · have e1 : (nI P ≤ nI p) = True := eq_true (by rw [nI_le_iff (by omega) (by omega)]; exact c1)
      rw [if_neg (by omega)] at hA1 ⊢
      simp only [x_142_0, x_142_1, x_142_4, x_142_5, x_142_8, x_142_11, x_142_12, x_142_15, x_142_16, x_142_19, x_142_20, x_142_23, x_142_24, x_142_25, x_142_26, x_142_29, x_142_30, x_142_31, x_142_34, x_142_35, x_142_36, x_142_37, x_142_124, x_142_125, x_142_126, x_142_129, x_142_130, x_142_131, x_142_134, x_142_135, x_142_136, x_142_139, x_142_142, x_142_143, x_142_145, x_142_148, x_142_151, x_142_152, x_142_153, x_142_156, x_142_159, x_142_160, x_142_162, x_142_165, x_142_168, x_142_169, x_142_170, x_142_173, x_142_176, x_142_177, x_142_180, x_142_181, x_142_182, x_142_183, x_142_184, x_142_187, x_142_188, x_142_189, x_142_192, x_142_193, x_142_194, x_142_197, x_142_200, x_142_201, x_142_203, x_142_206, x_142_209, x_142_210, x_142_211, x_142_214, x_142_217, x_142_218, x_142_221, x_142_222, x_142_223, x_142_224, x_142_225, x_142_228, x_142_229, x_142_230, x_142_233, x_142_234, x_142_235, x_142_238, x_142_239, x_142_240, Option.bind_some, Option.bind_none, Option.toList_some, Option.toList_none, List.cons_append, List.nil_append, pNl_i, pNl_r, pNl_u, pNl_n, bI_0, bI_1, nn_or, or_nn, not_false_eq_true, not_true_eq_false, i1000, i1e0, true_or, or_true, Decidable.not_not, if_true, if_false, Bool.false_eq_true, Int32.zero_add, true_and, and_true, wm_T, wg_0, wg_1, wg_2, wg_3, wg_4, wg_5, wg_6, wg_7, wg_8, wg_9, wg_10, wp_3, wp_7, wp_8, wp_10, hy.2.1, hp, ho, e1, e4, wb_ord (show 4 * o < 112 by omega)]
      rw [← hA1]; rfl
    · have e1 : (nI P ≤ nI p) = False := eq_false (by rw [nI_le_iff (by omega) (by omega)]; exact c1)
      rw [if_pos (by omega)] at hA1 ⊢
      simp only [x_142_0, x_142_1, x_142_4, x_142_5, x_142_8, x_142_11, x_142_12, x_142_15, x_142_16, x_142_19, x_142_20, x_142_23, x_142_24, x_142_25, x_142_26, x_142_29, x_142_30, x_142_31, x_142_34, x_142_35, x_142_36, x_142_37, x_142_124, x_142_125, x_142_126, x_142_129, x_142_130, x_142_131, x_142_134, x_142_135, x_142_136, x_142_139, x_142_142, x_142_143, x_142_145, x_142_148, x_142_151, x_142_152, x_142_153, x_142_156, x_142_159, x_142_160, x_142_162, x_142_165, x_142_168, x_142_169, x_142_170, x_142_173, x_142_176, x_142_177, x_142_180, x_142_181, x_142_182, x_142_183, x_142_184, x_142_187, x_142_188, x_142_189, x_142_192, x_142_193, x_142_194, x_142_197, x_142_200, x_142_201, x_142_203, x_142_206, x_142_209, x_142_210, x_142_211, x_142_214, x_142_217, x_142_218, x_142_221, x_142_222, x_142_223, x_142_224, x_142_225, x_142_228, x_142_229, x_142_230, x_142_233, x_142_234, x_142_235, x_142_238, x_142_239, x_142_240, Option.bind_some, Option.bind_none, Option.toList_some, Option.toList_none, List.cons_append, List.nil_append, pNl_i, pNl_r, pNl_u, pNl_n, bI_0, bI_1, nn_or, or_nn, not_false_eq_true, not_true_eq_false, i1000, i1e0, true_or, or_true, Decidable.not_not, if_true, if_false, Bool.false_eq_true, Int32.zero_add, true_and, and_true, wm_T, wg_0, wg_1, wg_2, wg_3, wg_4, wg_5, wg_6, wg_7, wg_8, wg_9, wg_10, wp_3, wp_7, wp_8, wp_10, hy.2.1, hp, ho, e1, e4, wa_pad (show p < 80 by omega), (hy.2.2 p (by omega)).1, wb_ord (show 4 * o < 112 by omega), hA1]
  suffices h : ∃ A', qEx 142 (38, [some (.ref 627), some (.int (nI (srP y P p)))], [.int (nI (srP y P p))], wm M c R A1) = some (some (.int (bB (orP y P p).1)), wm M (up c 2 (nI (orP y P p).2.2.2.2)) R A') ∧ orR A A' o (srP y P p) (orP y P p) by
    obtain ⟨A', h1, h2⟩ := h
    refine ⟨A', ?_, h2⟩
    refine qRun_of ?_ rfl
    rw [en_142, hs, h1]
  have hlt : knP (srP y P p) ≠ 0 → p < P := by
    intro h
    rcases Nat.lt_or_ge p P with q | q
    · exact q
    · unfold srP at h; rw [if_neg (by omega)] at h; exact absurd rfl h
  have c1u : ∀ q, (up c 2 (nI q)) 3 = nI o := fun q => (up_n (by omega)).trans ho
  have e2 : (true = false) = False := by simp
  have hAk : ∀ k, k < 4 * o → A1 2 k = A 2 k := fun k hk => by rw [← hA1, ua_s, if_neg (by omega)]
  have hA0 : A1 0 = A 0 := by rw [← hA1]; exact ua_o (by omega)
  have hA01 : A1 1 = A 1 := by rw [← hA1]; exact ua_o (by omega)
  have hAo : A1 2 (4 * o) = nI (srP y P p) := by rw [← hA1, ua_s, if_pos rfl]
  have bad : ∀ (A' : Nat → Nat → Int32) (r : qO5), A' 0 = A1 0 → A' 1 = A1 1 → (∀ k, k < 4 * o → A' 2 k = A1 2 k) → r.1 = false → orR A A' o (srP y P p) r := fun A' r a b d e => ⟨a.trans hA0, b.trans hA01, fun k hk => (d k hk).trans (hAk k hk), fun q => absurd q (by rw [e]; simp)⟩
  rw [sw_142 hu]
  unfold orP
  generalize hu' : srP y P p = u at *
  have numF : ∀ (A2 : Nat → Nat → Int32) (q k : Nat) (kv : Int32), kv = nI k → pdOK c A2 y P → q ≤ P → 4 * o + k < 112 → (nuP y P q).1 = false → qRun 140 [.ref 627, .int kv] (wm M (up c 2 (nI q)) R A2) = some (some (.int 0), wm M (up c 2 (nI (nuP y P q).2.2)) R A2) := by
    intro A2 q k kv hkv h1 h2 h5 hf
    have h := @s_140 M (up c 2 (nI q)) R A2 y P q o k (pd_up h1 (up_n (by omega)) rfl) up_at (by omega) (c1u q) h5
    rw [up_u, hf] at h
    rw [hkv]
    exact h
  have numT : ∀ (A2 : Nat → Nat → Int32) (q k : Nat) (kv : Int32), kv = nI k → pdOK c A2 y P → q ≤ P → 4 * o + k < 112 → (nuP y P q).1 = true → qRun 140 [.ref 627, .int kv] (wm M (up c 2 (nI q)) R A2) = some (some (.int 1), wm M (up c 2 (nI (nuP y P q).2.2)) R (ua A2 2 (4 * o + k) (nI (nuP y P q).2.1))) := by
    intro A2 q k kv hkv h1 h2 h5 hf
    have h := @s_140 M (up c 2 (nI q)) R A2 y P q o k (pd_up h1 (up_n (by omega)) rfl) up_at (by omega) (c1u q) h5
    rw [up_u, hf] at h
    rw [hkv]
    exact h
  have digF : ∀ (A2 : Nat → Nat → Int32) (q k : Nat) (kv : Int32), kv = nI k → pdOK c A2 y P → q ≤ P → 4 * o + k < 112 → (dgP y P q).1 = false → qRun 141 [.ref 627, .int kv] (wm M (up c 2 (nI q)) R A2) = some (some (.int 0), wm M (up c 2 (nI (dgP y P q).2.2)) R A2) := by
    intro A2 q k kv hkv h1 h2 h5 hf
    have h := @s_141 M (up c 2 (nI q)) R A2 y P q o k (pd_up h1 (up_n (by omega)) rfl) up_at (by omega) (c1u q) h5
    rw [up_u, hf] at h
    rw [hkv]
    exact h
  have digT : ∀ (A2 : Nat → Nat → Int32) (q k : Nat) (kv : Int32), kv = nI k → pdOK c A2 y P → q ≤ P → 4 * o + k < 112 → (dgP y P q).1 = true → qRun 141 [.ref 627, .int kv] (wm M (up c 2 (nI q)) R A2) = some (some (.int 1), wm M (up c 2 (nI (dgP y P q).2.2)) R (ua A2 2 (4 * o + k) (nI (dgP y P q).2.1))) := by
    intro A2 q k kv hkv h1 h2 h5 hf
    have h := @s_141 M (up c 2 (nI q)) R A2 y P q o k (pd_up h1 (up_n (by omega)) rfl) up_at (by omega) (c1u q) h5
    rw [up_u, hf] at h
    rw [hkv]
    exact h
  have sigF : ∀ (A2 : Nat → Nat → Int32) (q k : Nat) (kv : Int32), kv = nI k → pdOK c A2 y P → q ≤ P → k < 256 → (sgP y P k q).1 = false → qRun 139 [.ref 627, .int kv] (wm M (up c 2 (nI q)) R A2) = some (some (.int 0), wm M (up c 2 (nI (sgP y P k q).2)) R A2) := by
    intro A2 q k kv hkv h1 h2 h5 hf
    have h := @s_139 M (up c 2 (nI q)) R A2 y P q k (pd_up h1 (up_n (by omega)) rfl) up_at (by omega) h5
    rw [up_u, hf] at h
    rw [hkv]
    exact h
  have sigT : ∀ (A2 : Nat → Nat → Int32) (q k : Nat) (kv : Int32), kv = nI k → pdOK c A2 y P → q ≤ P → k < 256 → (sgP y P k q).1 = true → qRun 139 [.ref 627, .int kv] (wm M (up c 2 (nI q)) R A2) = some (some (.int 1), wm M (up c 2 (nI (sgP y P k q).2)) R A2) := by
    intro A2 q k kv hkv h1 h2 h5 hf
    have h := @s_139 M (up c 2 (nI q)) R A2 y P q k (pd_up h1 (up_n (by omega)) rfl) up_at (by omega) h5
    rw [up_u, hf] at h
    rw [hkv]
    exact h
  have hyu : ∀ (A2 : Nat → Nat → Int32) (k : Nat) (v : Int32), pdOK c A2 y P → pdOK c (ua A2 2 k v) y P := fun A2 k v h => pd_up h rfl (ua_o (by omega))
  have hc3 : ∀ A2, (wm M c R A2) = wm M (up c 2 (nI p)) R A2 := fun A2 => by rw [up_same hp]
  by_cases k3 : knP u = 3
  · have hlt' := hlt (by omega)
    rw [if_pos k3, if_pos k3]
    unfold o3P
    dsimp only
    have b1 := @nu_le y P (p + 1) (by omega)
    by_cases f1 : (nuP y P (p + 1)).1 = false
    · have t1 := numF A1 (p + 1) 1 1 rfl hy1 (by omega) (by omega) f1
      simp only [f1, if_true, e2, if_false]
      refine ⟨A1, ?_, bad A1 _ rfl rfl ?_ rfl⟩
      · simp only [x_142_0, x_142_1, x_142_4, x_142_5, x_142_8, x_142_11, x_142_12, x_142_15, x_142_16, x_142_19, x_142_20, x_142_23, x_142_24, x_142_25, x_142_26, x_142_29, x_142_30, x_142_31, x_142_34, x_142_35, x_142_36, x_142_37, x_142_124, x_142_125, x_142_126, x_142_129, x_142_130, x_142_131, x_142_134, x_142_135, x_142_136, x_142_139, x_142_142, x_142_143, x_142_145, x_142_148, x_142_151, x_142_152, x_142_153, x_142_156, x_142_159, x_142_160, x_142_162, x_142_165, x_142_168, x_142_169, x_142_170, x_142_173, x_142_176, x_142_177, x_142_180, x_142_181, x_142_182, x_142_183, x_142_184, x_142_187, x_142_188, x_142_189, x_142_192, x_142_193, x_142_194, x_142_197, x_142_200, x_142_201, x_142_203, x_142_206, x_142_209, x_142_210, x_142_211, x_142_214, x_142_217, x_142_218, x_142_221, x_142_222, x_142_223, x_142_224, x_142_225, x_142_228, x_142_229, x_142_230, x_142_233, x_142_234, x_142_235, x_142_238, x_142_239, x_142_240, Option.bind_some, Option.bind_none, Option.toList_some, Option.toList_none, List.cons_append, List.nil_append, pNl_i, pNl_r, pNl_u, pNl_n, bI_0, bI_1, nn_or, or_nn, not_false_eq_true, not_true_eq_false, i1000, i1e0, true_or, or_true, Decidable.not_not, if_true, if_false, Bool.false_eq_true, Int32.zero_add, true_and, and_true, wm_T, wg_0, wg_1, wg_2, wg_3, wg_4, wg_5, wg_6, wg_7, wg_8, wg_9, wg_10, wp_3, wp_7, wp_8, wp_10, hp, nI_1, t1, bB_f]
      · intro k hk
        rfl
    replace f1 : (nuP y P (p + 1)).1 = true := by simpa using f1
    have t1 := numT A1 (p + 1) 1 1 rfl hy1 (by omega) (by omega) f1
    have p1 := b1.2.2 f1
    have b2 := @sg_le y P 62 (nuP y P (p + 1)).2.2 (by omega)
    by_cases f2 : (sgP y P 62 (nuP y P (p + 1)).2.2).1 = false
    · have t2 := sigF (ua A1 2 (4 * o + 1) (nI (nuP y P (p + 1)).2.1)) (nuP y P (p + 1)).2.2 62 62 rfl (hyu _ _ _ hy1) (by omega) (by omega) f2
      simp only [f1, f2, if_true, e2, if_false]
      refine ⟨(ua A1 2 (4 * o + 1) (nI (nuP y P (p + 1)).2.1)), ?_, bad (ua A1 2 (4 * o + 1) (nI (nuP y P (p + 1)).2.1)) _ (by simp only [ua_o (show 0 ≠ 2 by omega)]) (by simp only [ua_o (show 1 ≠ 2 by omega)]) ?_ rfl⟩
      · simp only [x_142_0, x_142_1, x_142_4, x_142_5, x_142_8, x_142_11, x_142_12, x_142_15, x_142_16, x_142_19, x_142_20, x_142_23, x_142_24, x_142_25, x_142_26, x_142_29, x_142_30, x_142_31, x_142_34, x_142_35, x_142_36, x_142_37, x_142_124, x_142_125, x_142_126, x_142_129, x_142_130, x_142_131, x_142_134, x_142_135, x_142_136, x_142_139, x_142_142, x_142_143, x_142_145, x_142_148, x_142_151, x_142_152, x_142_153, x_142_156, x_142_159, x_142_160, x_142_162, x_142_165, x_142_168, x_142_169, x_142_170, x_142_173, x_142_176, x_142_177, x_142_180, x_142_181, x_142_182, x_142_183, x_142_184, x_142_187, x_142_188, x_142_189, x_142_192, x_142_193, x_142_194, x_142_197, x_142_200, x_142_201, x_142_203, x_142_206, x_142_209, x_142_210, x_142_211, x_142_214, x_142_217, x_142_218, x_142_221, x_142_222, x_142_223, x_142_224, x_142_225, x_142_228, x_142_229, x_142_230, x_142_233, x_142_234, x_142_235, x_142_238, x_142_239, x_142_240, Option.bind_some, Option.bind_none, Option.toList_some, Option.toList_none, List.cons_append, List.nil_append, pNl_i, pNl_r, pNl_u, pNl_n, bI_0, bI_1, nn_or, or_nn, not_false_eq_true, not_true_eq_false, i1000, i1e0, true_or, or_true, Decidable.not_not, if_true, if_false, Bool.false_eq_true, Int32.zero_add, true_and, and_true, wm_T, wg_0, wg_1, wg_2, wg_3, wg_4, wg_5, wg_6, wg_7, wg_8, wg_9, wg_10, wp_3, wp_7, wp_8, wp_10, hp, nI_1, t1, t2, bB_f]
      · intro k hk
        simp only [ua_s]
        rw [if_neg (by omega)]
    replace f2 : (sgP y P 62 (nuP y P (p + 1)).2.2).1 = true := by simpa using f2
    have t2 := sigT (ua A1 2 (4 * o + 1) (nI (nuP y P (p + 1)).2.1)) (nuP y P (p + 1)).2.2 62 62 rfl (hyu _ _ _ hy1) (by omega) (by omega) f2
    have p2 := b2.2.2 f2
    have b3 := @dg_le y P (sgP y P 62 (nuP y P (p + 1)).2.2).2 (by omega)
    by_cases f3 : (dgP y P (sgP y P 62 (nuP y P (p + 1)).2.2).2).1 = false
    · have t3 := digF (ua A1 2 (4 * o + 1) (nI (nuP y P (p + 1)).2.1)) (sgP y P 62 (nuP y P (p + 1)).2.2).2 2 2 rfl (hyu _ _ _ hy1) (by omega) (by omega) f3
      simp only [f1, f2, f3, if_true, e2, if_false]
      refine ⟨(ua A1 2 (4 * o + 1) (nI (nuP y P (p + 1)).2.1)), ?_, bad (ua A1 2 (4 * o + 1) (nI (nuP y P (p + 1)).2.1)) _ (by simp only [ua_o (show 0 ≠ 2 by omega)]) (by simp only [ua_o (show 1 ≠ 2 by omega)]) ?_ rfl⟩
      · simp only [x_142_0, x_142_1, x_142_4, x_142_5, x_142_8, x_142_11, x_142_12, x_142_15, x_142_16, x_142_19, x_142_20, x_142_23, x_142_24, x_142_25, x_142_26, x_142_29, x_142_30, x_142_31, x_142_34, x_142_35, x_142_36, x_142_37, x_142_124, x_142_125, x_142_126, x_142_129, x_142_130, x_142_131, x_142_134, x_142_135, x_142_136, x_142_139, x_142_142, x_142_143, x_142_145, x_142_148, x_142_151, x_142_152, x_142_153, x_142_156, x_142_159, x_142_160, x_142_162, x_142_165, x_142_168, x_142_169, x_142_170, x_142_173, x_142_176, x_142_177, x_142_180, x_142_181, x_142_182, x_142_183, x_142_184, x_142_187, x_142_188, x_142_189, x_142_192, x_142_193, x_142_194, x_142_197, x_142_200, x_142_201, x_142_203, x_142_206, x_142_209, x_142_210, x_142_211, x_142_214, x_142_217, x_142_218, x_142_221, x_142_222, x_142_223, x_142_224, x_142_225, x_142_228, x_142_229, x_142_230, x_142_233, x_142_234, x_142_235, x_142_238, x_142_239, x_142_240, Option.bind_some, Option.bind_none, Option.toList_some, Option.toList_none, List.cons_append, List.nil_append, pNl_i, pNl_r, pNl_u, pNl_n, bI_0, bI_1, nn_or, or_nn, not_false_eq_true, not_true_eq_false, i1000, i1e0, true_or, or_true, Decidable.not_not, if_true, if_false, Bool.false_eq_true, Int32.zero_add, true_and, and_true, wm_T, wg_0, wg_1, wg_2, wg_3, wg_4, wg_5, wg_6, wg_7, wg_8, wg_9, wg_10, wp_3, wp_7, wp_8, wp_10, hp, nI_1, t1, t2, t3, bB_f]
      · intro k hk
        simp only [ua_s]
        rw [if_neg (by omega)]
    replace f3 : (dgP y P (sgP y P 62 (nuP y P (p + 1)).2.2).2).1 = true := by simpa using f3
    have t3 := digT (ua A1 2 (4 * o + 1) (nI (nuP y P (p + 1)).2.1)) (sgP y P 62 (nuP y P (p + 1)).2.2).2 2 2 rfl (hyu _ _ _ hy1) (by omega) (by omega) f3
    have p3 := b3.2.2 f3
    have b4 := @sg_le y P 64 (dgP y P (sgP y P 62 (nuP y P (p + 1)).2.2).2).2.2 (by omega)
    by_cases f4 : (sgP y P 64 (dgP y P (sgP y P 62 (nuP y P (p + 1)).2.2).2).2.2).1 = false
    · have t4 := sigF (ua (ua A1 2 (4 * o + 1) (nI (nuP y P (p + 1)).2.1)) 2 (4 * o + 2) (nI (dgP y P (sgP y P 62 (nuP y P (p + 1)).2.2).2).2.1)) (dgP y P (sgP y P 62 (nuP y P (p + 1)).2.2).2).2.2 64 64 rfl (hyu _ _ _ (hyu _ _ _ hy1)) (by omega) (by omega) f4
      simp only [f1, f2, f3, f4, if_true, e2, if_false]
      refine ⟨(ua (ua A1 2 (4 * o + 1) (nI (nuP y P (p + 1)).2.1)) 2 (4 * o + 2) (nI (dgP y P (sgP y P 62 (nuP y P (p + 1)).2.2).2).2.1)), ?_, bad (ua (ua A1 2 (4 * o + 1) (nI (nuP y P (p + 1)).2.1)) 2 (4 * o + 2) (nI (dgP y P (sgP y P 62 (nuP y P (p + 1)).2.2).2).2.1)) _ (by simp only [ua_o (show 0 ≠ 2 by omega)]) (by simp only [ua_o (show 1 ≠ 2 by omega)]) ?_ rfl⟩
      · simp only [x_142_0, x_142_1, x_142_4, x_142_5, x_142_8, x_142_11, x_142_12, x_142_15, x_142_16, x_142_19, x_142_20, x_142_23, x_142_24, x_142_25, x_142_26, x_142_29, x_142_30, x_142_31, x_142_34, x_142_35, x_142_36, x_142_37, x_142_124, x_142_125, x_142_126, x_142_129, x_142_130, x_142_131, x_142_134, x_142_135, x_142_136, x_142_139, x_142_142, x_142_143, x_142_145, x_142_148, x_142_151, x_142_152, x_142_153, x_142_156, x_142_159, x_142_160, x_142_162, x_142_165, x_142_168, x_142_169, x_142_170, x_142_173, x_142_176, x_142_177, x_142_180, x_142_181, x_142_182, x_142_183, x_142_184, x_142_187, x_142_188, x_142_189, x_142_192, x_142_193, x_142_194, x_142_197, x_142_200, x_142_201, x_142_203, x_142_206, x_142_209, x_142_210, x_142_211, x_142_214, x_142_217, x_142_218, x_142_221, x_142_222, x_142_223, x_142_224, x_142_225, x_142_228, x_142_229, x_142_230, x_142_233, x_142_234, x_142_235, x_142_238, x_142_239, x_142_240, Option.bind_some, Option.bind_none, Option.toList_some, Option.toList_none, List.cons_append, List.nil_append, pNl_i, pNl_r, pNl_u, pNl_n, bI_0, bI_1, nn_or, or_nn, not_false_eq_true, not_true_eq_false, i1000, i1e0, true_or, or_true, Decidable.not_not, if_true, if_false, Bool.false_eq_true, Int32.zero_add, true_and, and_true, wm_T, wg_0, wg_1, wg_2, wg_3, wg_4, wg_5, wg_6, wg_7, wg_8, wg_9, wg_10, wp_3, wp_7, wp_8, wp_10, hp, nI_1, t1, t2, t3, t4, bB_f]
      · intro k hk
        simp only [ua_s]
        rw [if_neg (by omega), if_neg (by omega)]
    replace f4 : (sgP y P 64 (dgP y P (sgP y P 62 (nuP y P (p + 1)).2.2).2).2.2).1 = true := by simpa using f4
    have t4 := sigT (ua (ua A1 2 (4 * o + 1) (nI (nuP y P (p + 1)).2.1)) 2 (4 * o + 2) (nI (dgP y P (sgP y P 62 (nuP y P (p + 1)).2.2).2).2.1)) (dgP y P (sgP y P 62 (nuP y P (p + 1)).2.2).2).2.2 64 64 rfl (hyu _ _ _ (hyu _ _ _ hy1)) (by omega) (by omega) f4
    have p4 := b4.2.2 f4
    have b5 := @nu_le y P (sgP y P 64 (dgP y P (sgP y P 62 (nuP y P (p + 1)).2.2).2).2.2).2 (by omega)
    by_cases f5 : (nuP y P (sgP y P 64 (dgP y P (sgP y P 62 (nuP y P (p + 1)).2.2).2).2.2).2).1 = false
    · have t5 := numF (ua (ua A1 2 (4 * o + 1) (nI (nuP y P (p + 1)).2.1)) 2 (4 * o + 2) (nI (dgP y P (sgP y P 62 (nuP y P (p + 1)).2.2).2).2.1)) (sgP y P 64 (dgP y P (sgP y P 62 (nuP y P (p + 1)).2.2).2).2.2).2 3 3 rfl (hyu _ _ _ (hyu _ _ _ hy1)) (by omega) (by omega) f5
      simp only [f1, f2, f3, f4, f5, if_true, e2, if_false]
      refine ⟨(ua (ua A1 2 (4 * o + 1) (nI (nuP y P (p + 1)).2.1)) 2 (4 * o + 2) (nI (dgP y P (sgP y P 62 (nuP y P (p + 1)).2.2).2).2.1)), ?_, bad (ua (ua A1 2 (4 * o + 1) (nI (nuP y P (p + 1)).2.1)) 2 (4 * o + 2) (nI (dgP y P (sgP y P 62 (nuP y P (p + 1)).2.2).2).2.1)) _ (by simp only [ua_o (show 0 ≠ 2 by omega)]) (by simp only [ua_o (show 1 ≠ 2 by omega)]) ?_ rfl⟩
      · simp only [x_142_0, x_142_1, x_142_4, x_142_5, x_142_8, x_142_11, x_142_12, x_142_15, x_142_16, x_142_19, x_142_20, x_142_23, x_142_24, x_142_25, x_142_26, x_142_29, x_142_30, x_142_31, x_142_34, x_142_35, x_142_36, x_142_37, x_142_124, x_142_125, x_142_126, x_142_129, x_142_130, x_142_131, x_142_134, x_142_135, x_142_136, x_142_139, x_142_142, x_142_143, x_142_145, x_142_148, x_142_151, x_142_152, x_142_153, x_142_156, x_142_159, x_142_160, x_142_162, x_142_165, x_142_168, x_142_169, x_142_170, x_142_173, x_142_176, x_142_177, x_142_180, x_142_181, x_142_182, x_142_183, x_142_184, x_142_187, x_142_188, x_142_189, x_142_192, x_142_193, x_142_194, x_142_197, x_142_200, x_142_201, x_142_203, x_142_206, x_142_209, x_142_210, x_142_211, x_142_214, x_142_217, x_142_218, x_142_221, x_142_222, x_142_223, x_142_224, x_142_225, x_142_228, x_142_229, x_142_230, x_142_233, x_142_234, x_142_235, x_142_238, x_142_239, x_142_240, Option.bind_some, Option.bind_none, Option.toList_some, Option.toList_none, List.cons_append, List.nil_append, pNl_i, pNl_r, pNl_u, pNl_n, bI_0, bI_1, nn_or, or_nn, not_false_eq_true, not_true_eq_false, i1000, i1e0, true_or, or_true, Decidable.not_not, if_true, if_false, Bool.false_eq_true, Int32.zero_add, true_and, and_true, wm_T, wg_0, wg_1, wg_2, wg_3, wg_4, wg_5, wg_6, wg_7, wg_8, wg_9, wg_10, wp_3, wp_7, wp_8, wp_10, hp, nI_1, t1, t2, t3, t4, t5, bB_f]
      · intro k hk
        simp only [ua_s]
        rw [if_neg (by omega), if_neg (by omega)]
    replace f5 : (nuP y P (sgP y P 64 (dgP y P (sgP y P 62 (nuP y P (p + 1)).2.2).2).2.2).2).1 = true := by simpa using f5
    have t5 := numT (ua (ua A1 2 (4 * o + 1) (nI (nuP y P (p + 1)).2.1)) 2 (4 * o + 2) (nI (dgP y P (sgP y P 62 (nuP y P (p + 1)).2.2).2).2.1)) (sgP y P 64 (dgP y P (sgP y P 62 (nuP y P (p + 1)).2.2).2).2.2).2 3 3 rfl (hyu _ _ _ (hyu _ _ _ hy1)) (by omega) (by omega) f5
    have p5 := b5.2.2 f5
    simp only [f1, f2, f3, f4, f5, e2, if_false]
    refine ⟨(ua (ua (ua A1 2 (4 * o + 1) (nI (nuP y P (p + 1)).2.1)) 2 (4 * o + 2) (nI (dgP y P (sgP y P 62 (nuP y P (p + 1)).2.2).2).2.1)) 2 (4 * o + 3) (nI (nuP y P (sgP y P 64 (dgP y P (sgP y P 62 (nuP y P (p + 1)).2.2).2).2.2).2).2.1)), ?_, ?_⟩
    · simp only [x_142_0, x_142_1, x_142_4, x_142_5, x_142_8, x_142_11, x_142_12, x_142_15, x_142_16, x_142_19, x_142_20, x_142_23, x_142_24, x_142_25, x_142_26, x_142_29, x_142_30, x_142_31, x_142_34, x_142_35, x_142_36, x_142_37, x_142_124, x_142_125, x_142_126, x_142_129, x_142_130, x_142_131, x_142_134, x_142_135, x_142_136, x_142_139, x_142_142, x_142_143, x_142_145, x_142_148, x_142_151, x_142_152, x_142_153, x_142_156, x_142_159, x_142_160, x_142_162, x_142_165, x_142_168, x_142_169, x_142_170, x_142_173, x_142_176, x_142_177, x_142_180, x_142_181, x_142_182, x_142_183, x_142_184, x_142_187, x_142_188, x_142_189, x_142_192, x_142_193, x_142_194, x_142_197, x_142_200, x_142_201, x_142_203, x_142_206, x_142_209, x_142_210, x_142_211, x_142_214, x_142_217, x_142_218, x_142_221, x_142_222, x_142_223, x_142_224, x_142_225, x_142_228, x_142_229, x_142_230, x_142_233, x_142_234, x_142_235, x_142_238, x_142_239, x_142_240, Option.bind_some, Option.bind_none, Option.toList_some, Option.toList_none, List.cons_append, List.nil_append, pNl_i, pNl_r, pNl_u, pNl_n, bI_0, bI_1, nn_or, or_nn, not_false_eq_true, not_true_eq_false, i1000, i1e0, true_or, or_true, Decidable.not_not, if_true, if_false, Bool.false_eq_true, Int32.zero_add, true_and, and_true, wm_T, wg_0, wg_1, wg_2, wg_3, wg_4, wg_5, wg_6, wg_7, wg_8, wg_9, wg_10, wp_3, wp_7, wp_8, wp_10, hp, nI_1, t1, t2, t3, t4, t5, bB_t]
    · refine ⟨by simp only [ua_o (show 0 ≠ 2 by omega)]; exact hA0, by simp only [ua_o (show 1 ≠ 2 by omega)]; exact hA01, fun k hk => ?_, fun _ => ⟨?_, ?_, fun q => ?_, fun q => ?_⟩⟩
      · simp only [ua_s]
        rw [if_neg (by omega), if_neg (by omega), if_neg (by omega)]; exact hAk k hk
      · simp only [ua_s]
        rw [if_neg (by omega), if_neg (by omega), if_neg (by omega)]; exact hAo
      · simp only [ua_s]
        rw [if_neg (by omega), if_neg (by omega), if_pos trivial]
      · simp only [ua_s]
        rw [if_neg (by omega), if_pos trivial]
      · simp only [ua_s]
        rw [if_pos trivial]
  rw [if_neg k3, if_neg k3]
  by_cases k2 : knP u = 2
  · have hlt' := hlt (by omega)
    rw [if_pos k2, if_pos k2]
    unfold o2P
    dsimp only
    have b1 := @dg_le y P (p + 1) (by omega)
    by_cases f1 : (dgP y P (p + 1)).1 = false
    · have t1 := digF A1 (p + 1) 1 1 rfl hy1 (by omega) (by omega) f1
      simp only [f1, if_true, e2, if_false]
      refine ⟨A1, ?_, bad A1 _ rfl rfl ?_ rfl⟩
      · simp only [x_142_0, x_142_1, x_142_4, x_142_5, x_142_8, x_142_11, x_142_12, x_142_15, x_142_16, x_142_19, x_142_20, x_142_23, x_142_24, x_142_25, x_142_26, x_142_29, x_142_30, x_142_31, x_142_34, x_142_35, x_142_36, x_142_37, x_142_124, x_142_125, x_142_126, x_142_129, x_142_130, x_142_131, x_142_134, x_142_135, x_142_136, x_142_139, x_142_142, x_142_143, x_142_145, x_142_148, x_142_151, x_142_152, x_142_153, x_142_156, x_142_159, x_142_160, x_142_162, x_142_165, x_142_168, x_142_169, x_142_170, x_142_173, x_142_176, x_142_177, x_142_180, x_142_181, x_142_182, x_142_183, x_142_184, x_142_187, x_142_188, x_142_189, x_142_192, x_142_193, x_142_194, x_142_197, x_142_200, x_142_201, x_142_203, x_142_206, x_142_209, x_142_210, x_142_211, x_142_214, x_142_217, x_142_218, x_142_221, x_142_222, x_142_223, x_142_224, x_142_225, x_142_228, x_142_229, x_142_230, x_142_233, x_142_234, x_142_235, x_142_238, x_142_239, x_142_240, Option.bind_some, Option.bind_none, Option.toList_some, Option.toList_none, List.cons_append, List.nil_append, pNl_i, pNl_r, pNl_u, pNl_n, bI_0, bI_1, nn_or, or_nn, not_false_eq_true, not_true_eq_false, i1000, i1e0, true_or, or_true, Decidable.not_not, if_true, if_false, Bool.false_eq_true, Int32.zero_add, true_and, and_true, wm_T, wg_0, wg_1, wg_2, wg_3, wg_4, wg_5, wg_6, wg_7, wg_8, wg_9, wg_10, wp_3, wp_7, wp_8, wp_10, hp, nI_1, t1, bB_f]
      · intro k hk
        rfl
    replace f1 : (dgP y P (p + 1)).1 = true := by simpa using f1
    have t1 := digT A1 (p + 1) 1 1 rfl hy1 (by omega) (by omega) f1
    have p1 := b1.2.2 f1
    have b2 := @sg_le y P 61 (dgP y P (p + 1)).2.2 (by omega)
    by_cases f2 : (sgP y P 61 (dgP y P (p + 1)).2.2).1 = false
    · have t2 := sigF (ua A1 2 (4 * o + 1) (nI (dgP y P (p + 1)).2.1)) (dgP y P (p + 1)).2.2 61 61 rfl (hyu _ _ _ hy1) (by omega) (by omega) f2
      simp only [f1, f2, if_true, e2, if_false]
      refine ⟨(ua A1 2 (4 * o + 1) (nI (dgP y P (p + 1)).2.1)), ?_, bad (ua A1 2 (4 * o + 1) (nI (dgP y P (p + 1)).2.1)) _ (by simp only [ua_o (show 0 ≠ 2 by omega)]) (by simp only [ua_o (show 1 ≠ 2 by omega)]) ?_ rfl⟩
      · simp only [x_142_0, x_142_1, x_142_4, x_142_5, x_142_8, x_142_11, x_142_12, x_142_15, x_142_16, x_142_19, x_142_20, x_142_23, x_142_24, x_142_25, x_142_26, x_142_29, x_142_30, x_142_31, x_142_34, x_142_35, x_142_36, x_142_37, x_142_124, x_142_125, x_142_126, x_142_129, x_142_130, x_142_131, x_142_134, x_142_135, x_142_136, x_142_139, x_142_142, x_142_143, x_142_145, x_142_148, x_142_151, x_142_152, x_142_153, x_142_156, x_142_159, x_142_160, x_142_162, x_142_165, x_142_168, x_142_169, x_142_170, x_142_173, x_142_176, x_142_177, x_142_180, x_142_181, x_142_182, x_142_183, x_142_184, x_142_187, x_142_188, x_142_189, x_142_192, x_142_193, x_142_194, x_142_197, x_142_200, x_142_201, x_142_203, x_142_206, x_142_209, x_142_210, x_142_211, x_142_214, x_142_217, x_142_218, x_142_221, x_142_222, x_142_223, x_142_224, x_142_225, x_142_228, x_142_229, x_142_230, x_142_233, x_142_234, x_142_235, x_142_238, x_142_239, x_142_240, Option.bind_some, Option.bind_none, Option.toList_some, Option.toList_none, List.cons_append, List.nil_append, pNl_i, pNl_r, pNl_u, pNl_n, bI_0, bI_1, nn_or, or_nn, not_false_eq_true, not_true_eq_false, i1000, i1e0, true_or, or_true, Decidable.not_not, if_true, if_false, Bool.false_eq_true, Int32.zero_add, true_and, and_true, wm_T, wg_0, wg_1, wg_2, wg_3, wg_4, wg_5, wg_6, wg_7, wg_8, wg_9, wg_10, wp_3, wp_7, wp_8, wp_10, hp, nI_1, t1, t2, bB_f]
      · intro k hk
        simp only [ua_s]
        rw [if_neg (by omega)]
    replace f2 : (sgP y P 61 (dgP y P (p + 1)).2.2).1 = true := by simpa using f2
    have t2 := sigT (ua A1 2 (4 * o + 1) (nI (dgP y P (p + 1)).2.1)) (dgP y P (p + 1)).2.2 61 61 rfl (hyu _ _ _ hy1) (by omega) (by omega) f2
    have p2 := b2.2.2 f2
    have b3 := @nu_le y P (sgP y P 61 (dgP y P (p + 1)).2.2).2 (by omega)
    by_cases f3 : (nuP y P (sgP y P 61 (dgP y P (p + 1)).2.2).2).1 = false
    · have t3 := numF (ua A1 2 (4 * o + 1) (nI (dgP y P (p + 1)).2.1)) (sgP y P 61 (dgP y P (p + 1)).2.2).2 2 2 rfl (hyu _ _ _ hy1) (by omega) (by omega) f3
      simp only [f1, f2, f3, if_true, e2, if_false]
      refine ⟨(ua A1 2 (4 * o + 1) (nI (dgP y P (p + 1)).2.1)), ?_, bad (ua A1 2 (4 * o + 1) (nI (dgP y P (p + 1)).2.1)) _ (by simp only [ua_o (show 0 ≠ 2 by omega)]) (by simp only [ua_o (show 1 ≠ 2 by omega)]) ?_ rfl⟩
      · simp only [x_142_0, x_142_1, x_142_4, x_142_5, x_142_8, x_142_11, x_142_12, x_142_15, x_142_16, x_142_19, x_142_20, x_142_23, x_142_24, x_142_25, x_142_26, x_142_29, x_142_30, x_142_31, x_142_34, x_142_35, x_142_36, x_142_37, x_142_124, x_142_125, x_142_126, x_142_129, x_142_130, x_142_131, x_142_134, x_142_135, x_142_136, x_142_139, x_142_142, x_142_143, x_142_145, x_142_148, x_142_151, x_142_152, x_142_153, x_142_156, x_142_159, x_142_160, x_142_162, x_142_165, x_142_168, x_142_169, x_142_170, x_142_173, x_142_176, x_142_177, x_142_180, x_142_181, x_142_182, x_142_183, x_142_184, x_142_187, x_142_188, x_142_189, x_142_192, x_142_193, x_142_194, x_142_197, x_142_200, x_142_201, x_142_203, x_142_206, x_142_209, x_142_210, x_142_211, x_142_214, x_142_217, x_142_218, x_142_221, x_142_222, x_142_223, x_142_224, x_142_225, x_142_228, x_142_229, x_142_230, x_142_233, x_142_234, x_142_235, x_142_238, x_142_239, x_142_240, Option.bind_some, Option.bind_none, Option.toList_some, Option.toList_none, List.cons_append, List.nil_append, pNl_i, pNl_r, pNl_u, pNl_n, bI_0, bI_1, nn_or, or_nn, not_false_eq_true, not_true_eq_false, i1000, i1e0, true_or, or_true, Decidable.not_not, if_true, if_false, Bool.false_eq_true, Int32.zero_add, true_and, and_true, wm_T, wg_0, wg_1, wg_2, wg_3, wg_4, wg_5, wg_6, wg_7, wg_8, wg_9, wg_10, wp_3, wp_7, wp_8, wp_10, hp, nI_1, t1, t2, t3, bB_f]
      · intro k hk
        simp only [ua_s]
        rw [if_neg (by omega)]
    replace f3 : (nuP y P (sgP y P 61 (dgP y P (p + 1)).2.2).2).1 = true := by simpa using f3
    have t3 := numT (ua A1 2 (4 * o + 1) (nI (dgP y P (p + 1)).2.1)) (sgP y P 61 (dgP y P (p + 1)).2.2).2 2 2 rfl (hyu _ _ _ hy1) (by omega) (by omega) f3
    have p3 := b3.2.2 f3
    simp only [f1, f2, f3, e2, if_false]
    refine ⟨(ua (ua A1 2 (4 * o + 1) (nI (dgP y P (p + 1)).2.1)) 2 (4 * o + 2) (nI (nuP y P (sgP y P 61 (dgP y P (p + 1)).2.2).2).2.1)), ?_, ?_⟩
    · simp only [x_142_0, x_142_1, x_142_4, x_142_5, x_142_8, x_142_11, x_142_12, x_142_15, x_142_16, x_142_19, x_142_20, x_142_23, x_142_24, x_142_25, x_142_26, x_142_29, x_142_30, x_142_31, x_142_34, x_142_35, x_142_36, x_142_37, x_142_124, x_142_125, x_142_126, x_142_129, x_142_130, x_142_131, x_142_134, x_142_135, x_142_136, x_142_139, x_142_142, x_142_143, x_142_145, x_142_148, x_142_151, x_142_152, x_142_153, x_142_156, x_142_159, x_142_160, x_142_162, x_142_165, x_142_168, x_142_169, x_142_170, x_142_173, x_142_176, x_142_177, x_142_180, x_142_181, x_142_182, x_142_183, x_142_184, x_142_187, x_142_188, x_142_189, x_142_192, x_142_193, x_142_194, x_142_197, x_142_200, x_142_201, x_142_203, x_142_206, x_142_209, x_142_210, x_142_211, x_142_214, x_142_217, x_142_218, x_142_221, x_142_222, x_142_223, x_142_224, x_142_225, x_142_228, x_142_229, x_142_230, x_142_233, x_142_234, x_142_235, x_142_238, x_142_239, x_142_240, Option.bind_some, Option.bind_none, Option.toList_some, Option.toList_none, List.cons_append, List.nil_append, pNl_i, pNl_r, pNl_u, pNl_n, bI_0, bI_1, nn_or, or_nn, not_false_eq_true, not_true_eq_false, i1000, i1e0, true_or, or_true, Decidable.not_not, if_true, if_false, Bool.false_eq_true, Int32.zero_add, true_and, and_true, wm_T, wg_0, wg_1, wg_2, wg_3, wg_4, wg_5, wg_6, wg_7, wg_8, wg_9, wg_10, wp_3, wp_7, wp_8, wp_10, hp, nI_1, t1, t2, t3, bB_t]
    · refine ⟨by simp only [ua_o (show 0 ≠ 2 by omega)]; exact hA0, by simp only [ua_o (show 1 ≠ 2 by omega)]; exact hA01, fun k hk => ?_, fun _ => ⟨?_, ?_, fun q => ?_, fun q => ?_⟩⟩
      · simp only [ua_s]
        rw [if_neg (by omega), if_neg (by omega)]; exact hAk k hk
      · simp only [ua_s]
        rw [if_neg (by omega), if_neg (by omega)]; exact hAo
      · simp only [ua_s]
        rw [if_neg (by omega), if_pos trivial]
      · simp only [ua_s]
        rw [if_pos trivial]
      · exact absurd q (by omega)
  rw [if_neg k2, if_neg k2]
  by_cases k1 : knP u = 1
  · have hlt' := hlt (by omega)
    rw [if_pos k1, if_pos k1]
    unfold o1P
    dsimp only
    have b1 := @nu_le y P (p + 1) (by omega)
    by_cases f1 : (nuP y P (p + 1)).1 = false
    · have t1 := numF A1 (p + 1) 1 1 rfl hy1 (by omega) (by omega) f1
      simp only [f1, if_true, e2, if_false]
      refine ⟨A1, ?_, bad A1 _ rfl rfl ?_ rfl⟩
      · simp only [x_142_0, x_142_1, x_142_4, x_142_5, x_142_8, x_142_11, x_142_12, x_142_15, x_142_16, x_142_19, x_142_20, x_142_23, x_142_24, x_142_25, x_142_26, x_142_29, x_142_30, x_142_31, x_142_34, x_142_35, x_142_36, x_142_37, x_142_124, x_142_125, x_142_126, x_142_129, x_142_130, x_142_131, x_142_134, x_142_135, x_142_136, x_142_139, x_142_142, x_142_143, x_142_145, x_142_148, x_142_151, x_142_152, x_142_153, x_142_156, x_142_159, x_142_160, x_142_162, x_142_165, x_142_168, x_142_169, x_142_170, x_142_173, x_142_176, x_142_177, x_142_180, x_142_181, x_142_182, x_142_183, x_142_184, x_142_187, x_142_188, x_142_189, x_142_192, x_142_193, x_142_194, x_142_197, x_142_200, x_142_201, x_142_203, x_142_206, x_142_209, x_142_210, x_142_211, x_142_214, x_142_217, x_142_218, x_142_221, x_142_222, x_142_223, x_142_224, x_142_225, x_142_228, x_142_229, x_142_230, x_142_233, x_142_234, x_142_235, x_142_238, x_142_239, x_142_240, Option.bind_some, Option.bind_none, Option.toList_some, Option.toList_none, List.cons_append, List.nil_append, pNl_i, pNl_r, pNl_u, pNl_n, bI_0, bI_1, nn_or, or_nn, not_false_eq_true, not_true_eq_false, i1000, i1e0, true_or, or_true, Decidable.not_not, if_true, if_false, Bool.false_eq_true, Int32.zero_add, true_and, and_true, wm_T, wg_0, wg_1, wg_2, wg_3, wg_4, wg_5, wg_6, wg_7, wg_8, wg_9, wg_10, wp_3, wp_7, wp_8, wp_10, hp, nI_1, t1, bB_f]
      · intro k hk
        rfl
    replace f1 : (nuP y P (p + 1)).1 = true := by simpa using f1
    have t1 := numT A1 (p + 1) 1 1 rfl hy1 (by omega) (by omega) f1
    have p1 := b1.2.2 f1
    simp only [f1, e2, if_false]
    refine ⟨(ua A1 2 (4 * o + 1) (nI (nuP y P (p + 1)).2.1)), ?_, ?_⟩
    · simp only [x_142_0, x_142_1, x_142_4, x_142_5, x_142_8, x_142_11, x_142_12, x_142_15, x_142_16, x_142_19, x_142_20, x_142_23, x_142_24, x_142_25, x_142_26, x_142_29, x_142_30, x_142_31, x_142_34, x_142_35, x_142_36, x_142_37, x_142_124, x_142_125, x_142_126, x_142_129, x_142_130, x_142_131, x_142_134, x_142_135, x_142_136, x_142_139, x_142_142, x_142_143, x_142_145, x_142_148, x_142_151, x_142_152, x_142_153, x_142_156, x_142_159, x_142_160, x_142_162, x_142_165, x_142_168, x_142_169, x_142_170, x_142_173, x_142_176, x_142_177, x_142_180, x_142_181, x_142_182, x_142_183, x_142_184, x_142_187, x_142_188, x_142_189, x_142_192, x_142_193, x_142_194, x_142_197, x_142_200, x_142_201, x_142_203, x_142_206, x_142_209, x_142_210, x_142_211, x_142_214, x_142_217, x_142_218, x_142_221, x_142_222, x_142_223, x_142_224, x_142_225, x_142_228, x_142_229, x_142_230, x_142_233, x_142_234, x_142_235, x_142_238, x_142_239, x_142_240, Option.bind_some, Option.bind_none, Option.toList_some, Option.toList_none, List.cons_append, List.nil_append, pNl_i, pNl_r, pNl_u, pNl_n, bI_0, bI_1, nn_or, or_nn, not_false_eq_true, not_true_eq_false, i1000, i1e0, true_or, or_true, Decidable.not_not, if_true, if_false, Bool.false_eq_true, Int32.zero_add, true_and, and_true, wm_T, wg_0, wg_1, wg_2, wg_3, wg_4, wg_5, wg_6, wg_7, wg_8, wg_9, wg_10, wp_3, wp_7, wp_8, wp_10, hp, nI_1, t1, bB_t]
    · refine ⟨by simp only [ua_o (show 0 ≠ 2 by omega)]; exact hA0, by simp only [ua_o (show 1 ≠ 2 by omega)]; exact hA01, fun k hk => ?_, fun _ => ⟨?_, ?_, fun q => ?_, fun q => ?_⟩⟩
      · simp only [ua_s]
        rw [if_neg (by omega)]; exact hAk k hk
      · simp only [ua_s]
        rw [if_neg (by omega)]; exact hAo
      · simp only [ua_s]
        rw [if_pos trivial]
      · exact absurd q (by omega)
      · exact absurd q (by omega)
  rw [if_neg k1, if_neg k1]
  refine ⟨A1, ?_, bad A1 _ rfl rfl (fun _ _ => rfl) rfl⟩
  simp only [x_142_0, x_142_1, x_142_4, x_142_5, x_142_8, x_142_11, x_142_12, x_142_15, x_142_16, x_142_19, x_142_20, x_142_23, x_142_24, x_142_25, x_142_26, x_142_29, x_142_30, x_142_31, x_142_34, x_142_35, x_142_36, x_142_37, x_142_124, x_142_125, x_142_126, x_142_129, x_142_130, x_142_131, x_142_134, x_142_135, x_142_136, x_142_139, x_142_142, x_142_143, x_142_145, x_142_148, x_142_151, x_142_152, x_142_153, x_142_156, x_142_159, x_142_160, x_142_162, x_142_165, x_142_168, x_142_169, x_142_170, x_142_173, x_142_176, x_142_177, x_142_180, x_142_181, x_142_182, x_142_183, x_142_184, x_142_187, x_142_188, x_142_189, x_142_192, x_142_193, x_142_194, x_142_197, x_142_200, x_142_201, x_142_203, x_142_206, x_142_209, x_142_210, x_142_211, x_142_214, x_142_217, x_142_218, x_142_221, x_142_222, x_142_223, x_142_224, x_142_225, x_142_228, x_142_229, x_142_230, x_142_233, x_142_234, x_142_235, x_142_238, x_142_239, x_142_240, Option.bind_some, Option.bind_none, Option.toList_some, Option.toList_none, List.cons_append, List.nil_append, pNl_i, pNl_r, pNl_u, pNl_n, bI_0, bI_1, nn_or, or_nn, not_false_eq_true, not_true_eq_false, i1000, i1e0, true_or, or_true, Decidable.not_not, if_true, if_false, Bool.false_eq_true, Int32.zero_add, true_and, and_true, wm_T, wg_0, wg_1, wg_2, wg_3, wg_4, wg_5, wg_6, wg_7, wg_8, wg_9, wg_10, wp_3, wp_7, wp_8, wp_10, bB_f, up_same hp]
end QH
