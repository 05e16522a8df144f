/-! one equation for each kind of instruction -/
theorem qFetch_of {z pc : Nat} {q : Instr × Nat} (h : decode (qB z) pc = .ok q) : qFetch z pc = some q := by
  unfold qFetch
  rw [h]
def hT (M : qHp) (a c : Nat) : Bool := match M.2 a with
  | some q => decide (q.1 = c)
  | none => false
theorem qNl_i {x : Int32} : qNl (some (some (.int x))) = true := rfl
theorem qNl_r {x : Nat} : qNl (some (some (.ref x))) = true := rfl
theorem qNl_u : qNl (some none) = true := rfl
theorem qNl_n : qNl (some (some .null)) = true := rfl
section QK
variable {z pc : Nat} {L : qLo} {st : List Value} {M : qHp}
theorem qStep_at {q : Instr × Nat} (h : qFetch z pc = some q) : qStep z (pc, L, st, M) = qFlt q.1 (qStepI z q.1 q.2 pc L st M) := by
  show (qFetch z pc).bind _ = _
  rw [h]
  rfl
theorem kk_next {i : Instr} {k : Nat} {f : qCf} (h : qFetch z pc = some (i, k)) (hs : qStepI z i k pc L st M = some (.inl f)) (hle : M.1.1 ≤ f.2.2.2.1.1 ∧ M.1.2 ≤ f.2.2.2.1.2) : qEx z (pc, L, st, M) = qEx z f :=
  qEx_next (by rw [qStep_at h, hs]; rfl) hle
theorem kk_same {i : Instr} {k pc' : Nat} {L' : qLo} {st' : List Value} (h : qFetch z pc = some (i, k)) (hs : qStepI z i k pc L st M = some (.inl (pc', L', st', M))) : qEx z (pc, L, st, M) = qEx z (pc', L', st', M) :=
  kk_next h hs ⟨Nat.le_refl _, Nat.le_refl _⟩
theorem kk_none {i : Instr} {k : Nat} (h : qFetch z pc = some (i, k)) (hs : qStepI z i k pc L st M = none) : qEx z (pc, L, st, M) = none := by
  have hst : qStep z (pc, L, st, M) = none := by rw [qStep_at h, hs]; rfl
  cases he : qEx z (pc, L, st, M) with
  | none => rfl
  | some r =>
    obtain ⟨n, hn⟩ := qEx_iff.mp he
    cases n with
    | zero => simp [qExec] at hn
    | succ n => rw [qExec, hst] at hn; cases hn
theorem kk_bind {α : Type} {i : Instr} {k : Nat} {o : Option α} {g : α → qCf} (h : qFetch z pc = some (i, k)) (hs : qStepI z i k pc L st M = o.bind fun v => some (.inl (g v))) (hle : ∀ v, o = some v → M.1.1 ≤ (g v).2.2.2.1.1 ∧ M.1.2 ≤ (g v).2.2.2.1.2) : qEx z (pc, L, st, M) = o.bind fun v => qEx z (g v) := by
  cases o with
  | none => exact kk_none h hs
  | some v => exact kk_next h hs (hle v rfl)
theorem kk_if {c : Prop} {dc : Decidable c} {i : Instr} {k : Nat} {f g : qCf} (h : qFetch z pc = some (i, k)) (hs : qStepI z i k pc L st M = if c then some (.inl f) else some (.inl g)) (h1 : f.2.2.2 = M) (h2 : g.2.2.2 = M) : qEx z (pc, L, st, M) = if c then qEx z f else qEx z g := by
  by_cases hc : c
  · rw [if_pos hc] at hs ⊢
    exact kk_next h hs (by rw [h1]; exact ⟨Nat.le_refl _, Nat.le_refl _⟩)
  · rw [if_neg hc] at hs ⊢
    exact kk_next h hs (by rw [h2]; exact ⟨Nat.le_refl _, Nat.le_refl _⟩)
theorem kk_ret {i : Instr} {k : Nat} {v : Option Value} (h : qFetch z pc = some (i, k)) (hi : qEnd i = true) (hs : qStepI z i k pc L st M = some (.inr (.inr v))) : qEx z (pc, L, st, M) = some (v, M) :=
  qEx_ret (by rw [qStep_at h, hs]; simp [qFlt, hi])
theorem kk_retC {c : Prop} {dc : Decidable c} {i : Instr} {k : Nat} {v : Option Value} (h : qFetch z pc = some (i, k)) (hi : qEnd i = true) (hs : qStepI z i k pc L st M = if c then some (.inr (.inr v)) else none) (hc : c) : qEx z (pc, L, st, M) = some (v, M) :=
  kk_ret h hi (by rw [hs, if_pos hc])
theorem kk_call {i : Instr} {k y pc' : Nat} {As : List Value} {L' : qLo} {st' : List Value} {M' : qHp} (h : qFetch z pc = some (i, k)) (hi : qInv i = true) (hs : qStepI z i k pc L st M = some (.inr (.inl (y, As, (pc', L', st', M'))))) : qEx z (pc, L, st, M) = (qRun y As M).bind fun q => qEx z (pc', L', q.1.toList ++ st', q.2) :=
  qEx_call (c' := (pc', L', st', M')) (by rw [qStep_at h, hs]; simp [qFlt, hi])
theorem kk_callV {a c : Nat} {i : Instr} {k y pc' : Nat} {As : List Value} {L' : qLo} {st' : List Value} {M' : qHp} (h : qFetch z pc = some (i, k)) (hi : qInv i = true) (hs : qStepI z i k pc L st M = (M.2 a).bind fun o => if o.1 = c ∧ o.1 < 8 then some (.inr (.inl (y, As, (pc', L', st', M')))) else none) (h8 : c < 8) : qEx z (pc, L, st, M) = if hT M a c = true then (qRun y As M).bind fun q => qEx z (pc', L', q.1.toList ++ st', q.2) else none := by
  unfold hT
  cases ho : M.2 a with
  | none => rw [ho] at hs; exact kk_none h hs
  | some o =>
    rw [ho] at hs
    simp only [Option.bind_some] at hs
    by_cases hc : o.1 = c
    · rw [if_pos ⟨hc, by omega⟩] at hs
      simp only [hc, decide_true, if_true]
      exact kk_call h hi hs
    · rw [if_neg (fun q => hc q.1)] at hs
      simp only [hc, decide_false, Bool.false_eq_true, if_false]
      exact kk_none h hs
theorem hU_up {a : Nat} {c : qCel} : M.1.1 ≤ (hU M a c).1.1 ∧ M.1.2 ≤ (hU M a c).1.2 := ⟨Nat.le_refl _, Nat.le_refl _⟩
theorem hN_up {c : qCel} : M.1.1 ≤ (hN M c).1.1 ∧ M.1.2 ≤ (hN M c).1.2 := ⟨Nat.le_succ _, Nat.le_add_right _ _⟩
theorem hP_up {M1 : qHp} {a c k : Nat} {ty : FieldType} {v : Value} (h : hP M a c k ty v = some M1) : M.1.1 ≤ M1.1.1 ∧ M.1.2 ≤ M1.1.2 := by
  obtain ⟨vs, -, -, -, rfl⟩ := hP_some h; exact hU_up
theorem hS_up {M1 : qHp} {t a : Nat} {i : Int32} {v : Value} (h : hS M t a i v = some M1) : M.1.1 ≤ M1.1.1 ∧ M.1.2 ≤ M1.1.2 := by
  obtain ⟨vs, -, -, -, rfl⟩ := hS_some h; exact hU_up
theorem hSA_up {M1 : qHp} {a b : Nat} {i : Int32} (h : hSA M a i b = some M1) : M.1.1 ≤ M1.1.1 ∧ M.1.2 ≤ M1.1.2 := by
  obtain ⟨t, vs, c, ws, -, -, -, -, -, rfl⟩ := hSA_some h; exact hU_up
theorem hC_up {M1 : qHp} {a b : Nat} {s d n : Int32} (h : hC M a s b d n = some M1) : M.1.1 ≤ M1.1.1 ∧ M.1.2 ≤ M1.1.2 := by
  obtain ⟨vs, ws, -, -, -, -, -, rfl⟩ := hC_some h; exact hU_up
end QK
