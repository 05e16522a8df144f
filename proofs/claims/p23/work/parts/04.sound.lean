/-! THE MACHINE FOLLOWS THE INTERPRETER -/
/-- where the abstract addresses lie (first own cell; script; three static arrays), the numbers of classes and slots, what the foreign arrays hold -/
abbrev qG : Type := (Nat × Nat × Nat × Nat × Nat) × va_G × (Nat → List Value)
def gB (G : qG) : Nat := G.1.1
def gA (G : qG) : Nat → Prop := fun q => G.1.1 ≤ q
def adr (G : qG) (a : Nat) : Nat := match a with
  | 0 => G.1.2.1
  | 1 => G.1.2.2.1
  | 2 => G.1.2.2.2.1
  | 3 => G.1.2.2.2.2
  | n + 4 => G.1.1 + n
def cv (G : qG) (v : Value) : Value := match v with
  | .ref a => .ref (adr G a)
  | v => v
def qVf (G : qG) (vs : List Value) : Nat → Value := fun j => (vs.map (cv G)).getD j .null
def qCell (G : qG) (a : Nat) (c : qCel) (H : Heap) : Prop :=
  if c.1 < 8 then c.2.length = qN c.1 ∧ t_OB (adr G a) (G.2.1.1 c.1) (qN c.1) (G.2.1.2 c.1) H (vp_V (c.2.map (cv G)))
  else if c.1 = 14 then a < 4 ∧ c.2 = G.2.2 a
  else H[adr G a]? = some (arrV (G.2.1.1 c.1) c.2.length (qVf G c.2))
def qRep (G : qG) (M : qHp) (H : Heap) : Prop := H.size + 4 = gB G + M.1.1 ∧ 4 ≤ M.1.1 ∧ ∀ (a : Nat) (c : qCel), M.2 a = some c → a < M.1.1 ∧ (c.1 = 14 ↔ a < 4) ∧ c.1 < 15 ∧ qCell G a c H
def qTys (G : qG) : List (ClassId × FieldType) := [(G.2.1.1 8, .int), (G.2.1.1 9, .boolean), (G.2.1.1 10, .char), (G.2.1.1 11, .object (qR 0)), (G.2.1.1 12, .object (qR 3)), (G.2.1.1 13, .object (qR 1))]
def qTab (G : qG) (U : State) : Prop := va_K G.2.1 qCl (qTys G) U ∧
  (∀ q ∈ qMnL, va_Nw (.methodLinkNest (qR q.1) q.2.1 (qY q.2.2) "LetterRuns") U) ∧
  (∀ q ∈ qSlN, va_Nw (.fieldLinkNest (qR q.1) q.2.1 "LetterRuns" (qSn q.2.2.1) "[I" "LetterRuns") U) ∧
  (∀ c, c = 0 ∨ c = 1 ∨ c = 3 → va_AO (qR c) U) ∧
  (∀ t, 1 ≤ t → t < 4 → va_Z "LetterRuns" (qSn t) "[I" (.ref (adr G t)) (gA G) U U.heap) ∧
  (∀ a, a < 4 → va_T .int (adr G a) (G.2.2 a).length (fun j => (G.2.2 a).getD j .null) (gA G) U U.heap) ∧
  (∀ a, a < 4 → qInts (G.2.2 a) = true)
theorem adr_ge {G : qG} {a : Nat} (h : 4 ≤ a) : gB G + a = adr G a + 4 := by
  obtain ⟨n, rfl⟩ : ∃ n, a = n + 4 := ⟨a - 4, by omega⟩
  show G.1.1 + (n + 4) = G.1.1 + n + 4
  omega
theorem adr_A {G : qG} {a : Nat} (h : 4 ≤ a) : gA G (adr G a) := by
  have := adr_ge (G := G) h
  show G.1.1 ≤ adr G a
  unfold gB at this
  omega
theorem adr_inj {G : qG} {a b : Nat} (ha : 4 ≤ a) (hb : 4 ≤ b) (h : adr G a = adr G b) : a = b := by
  have h1 := adr_ge (G := G) ha
  have h2 := adr_ge (G := G) hb
  omega
theorem cv_cat (G : qG) (v : Value) : (cv G v).category = v.category := by cases v <;> rfl
theorem cv_sum (G : qG) (l : List Value) : ((l.map (cv G)).map fun v => v.category).sum = (l.map fun v => v.category).sum := by
  induction l with
  | nil => rfl
  | cons v l ih => simp only [List.map_cons, List.sum_cons, cv_cat, ih]
theorem cat_le (l : List Value) : (l.map fun v => v.category).sum ≤ 2 * l.length := by
  induction l with
  | nil => simp
  | cons v l ih =>
    simp only [List.map_cons, List.sum_cons, List.length_cons]
    rcases lv_cat v with h | h <;> omega
theorem cv_room (G : qG) {m : MethodId} {pc : Nat} {ls : Array Slot} {rest0 rest : List Value} (h : qSm rest) : 2 * (F0 m pc ls rest0).monitorRoom + ((rest.map (cv G)).map fun v => v.category).sum ≤ 8 := by
  refine lv_room ?_
  rw [cv_sum]
  rcases h with h | h
  · have := cat_le rest
    omega
  · exact h
theorem cv_sl (G : qG) (As : List Value) : (lg_sl (As.map (cv G))).length = (lg_sl As).length := by
  unfold lg_sl
  induction As with
  | nil => rfl
  | cons v l ih =>
    simp only [List.map_cons, List.flatMap_cons, List.length_append, ih, cv_cat]
    congr 1
    split <;> rfl
theorem qRep.set {G : qG} {M : qHp} {H H1 : Heap} {a : Nat} {c c' : qCel} (h : qRep G M H) (hc : M.2 a = some c) (ht : c'.1 = c.1) (h4 : 4 ≤ a) (hz : H1.size = H.size) (ho : ∀ q, q ≠ adr G a → H1[q]? = H[q]?) (hn : qCell G a c' H1) : qRep G (hU M a c') H1 := by
  obtain ⟨h1, h2, h3⟩ := h
  refine ⟨by rw [hz]; exact h1, h2, fun b d hd => ?_⟩
  simp only [hU] at hd
  by_cases hb : b = a
  · rw [if_pos hb] at hd
    cases hd
    subst hb
    obtain ⟨k1, k2, k3, -⟩ := h3 _ _ hc
    exact ⟨k1, by rw [ht]; exact k2, by rw [ht]; exact k3, hn⟩
  · rw [if_neg hb] at hd
    obtain ⟨k1, k2, k3, k4⟩ := h3 _ _ hd
    refine ⟨k1, k2, k3, ?_⟩
    unfold qCell at k4 ⊢
    split
    · rename_i h8
      rw [if_pos h8] at k4
      have hb4 : 4 ≤ b := by
        rcases Nat.lt_or_ge b 4 with q | q
        · have := k2.mpr q; omega
        · exact q
      exact ⟨k4.1, k4.2.kept (ho _ (fun e => hb (adr_inj hb4 h4 e)))⟩
    · rename_i h8
      rw [if_neg h8] at k4
      split
      · rename_i h14
        rw [if_pos h14] at k4
        exact k4
      · rename_i h14
        rw [if_neg h14] at k4
        have hb4 : 4 ≤ b := by
          rcases Nat.lt_or_ge b 4 with q | q
          · exact absurd (k2.mpr q) h14
          · exact q
        rw [ho _ (fun e => hb (adr_inj hb4 h4 e))]
        exact k4
theorem qRep.push {G : qG} {M : qHp} {H H1 : Heap} {c : qCel} (h : qRep G M H) (ht : c.1 < 14) (hz : H1.size = H.size + 1) (ho : ∀ q, q < H.size → H1[q]? = H[q]?) (hn : qCell G M.1.1 c H1) : qRep G (hN M c) H1 := by
  obtain ⟨h1, h2, h3⟩ := h
  refine ⟨by rw [hz]; show H.size + 1 + 4 = gB G + (M.1.1 + 1); omega, by show 4 ≤ M.1.1 + 1; omega, fun b d hd => ?_⟩
  simp only [hN] at hd ⊢
  by_cases hb : b = M.1.1
  · rw [if_pos hb] at hd
    cases hd
    subst hb
    exact ⟨Nat.lt_succ_self _, ⟨fun e => by omega, fun e => by omega⟩, by omega, hn⟩
  · rw [if_neg hb] at hd
    obtain ⟨k1, k2, k3, k4⟩ := h3 _ _ hd
    refine ⟨by omega, k2, k3, ?_⟩
    unfold qCell at k4 ⊢
    have lt : 4 ≤ b → adr G b < H.size := fun q => by
      have := adr_ge (G := G) q
      omega
    split
    · rename_i h8
      rw [if_pos h8] at k4
      have hb4 : 4 ≤ b := by
        rcases Nat.lt_or_ge b 4 with q | q
        · have := k2.mpr q; omega
        · exact q
      exact ⟨k4.1, k4.2.kept (ho _ (lt hb4))⟩
    · rename_i h8
      rw [if_neg h8] at k4
      split
      · rename_i h14
        rw [if_pos h14] at k4
        exact k4
      · rename_i h14
        rw [if_neg h14] at k4
        have hb4 : 4 ≤ b := by
          rcases Nat.lt_or_ge b 4 with q | q
          · exact absurd (k2.mpr q) h14
          · exact q
        rw [ho _ (lt hb4)]
        exact k4
theorem qRep.new {G : qG} {M : qHp} {H : Heap} (h : qRep G M H) : adr G M.1.1 = H.size := by
  have := adr_ge (G := G) h.2.1
  have := h.1
  omega
theorem qRep.at {G : qG} {M : qHp} {H : Heap} (h : qRep G M H) {a : Nat} {c : qCel} (hc : M.2 a = some c) : qCell G a c H := (h.2.2 a c hc).2.2.2
theorem qRep.four {G : qG} {M : qHp} {H : Heap} (h : qRep G M H) {a : Nat} {c : qCel} (hc : M.2 a = some c) (ht : c.1 ≠ 14) : 4 ≤ a := by
  rcases Nat.lt_or_ge a 4 with q | q
  · exact absurd ((h.2.2 a c hc).2.1.mpr q) ht
  · exact q
/-! locals -/
def qEn (L : qLo) : List (Nat × Value) := (List.range L.length).filterMap fun i => (L[i]?.join).map fun v => (i, v)
theorem qEn_mem {L : qLo} {q : Nat × Value} : q ∈ qEn L ↔ L[q.1]? = some (some q.2) := by
  unfold qEn
  rw [List.mem_filterMap]
  constructor
  · rintro ⟨i, hi, he⟩
    obtain ⟨v, hv, rfl⟩ := Option.map_eq_some_iff.mp he
    cases h : L[i]? with
    | none => rw [h] at hv; cases hv
    | some x => rw [h] at hv; simp at hv; subst hv; rfl
  · intro h
    have hl : q.1 < L.length := (List.getElem?_eq_some_iff.mp h).1
    exact ⟨q.1, List.mem_range.mpr hl, by rw [h]; rfl⟩
def qHas (G : qG) (ls : Array Slot) (L : qLo) : Prop := lv_has ls L.length ((qEn L).map fun q => (q.1, cv G q.2))
theorem qHas.ld {G : qG} {ls : Array Slot} {L : qLo} (h : qHas G ls L) {i : Nat} {v : Value} (hv : qLd L i = some v) : ls[i]? = some (.val (cv G v)) := by
  refine h.2.2 (i, cv G v) (List.mem_map.mpr ⟨(i, v), qEn_mem.mpr ?_, rfl⟩)
  unfold qLd at hv
  split at hv
  · rename_i w e
    cases hv
    exact e
  · cases hv
theorem qHas.intro {G : qG} {ls : Array Slot} {L : qLo} {n : Nat} {l : List (Nat × Value)} (h : lv_has ls n l) (hn : L.length = n) (hm : ∀ i v, L[i]? = some (some v) → (i, cv G v) ∈ l) : qHas G ls L := by
  refine ⟨by rw [hn]; exact h.1, h.2.1, fun q hq => ?_⟩
  obtain ⟨r, hr, rfl⟩ := List.mem_map.mp hq
  exact h.2.2 _ (hm _ _ (qEn_mem.mp hr))
theorem qHas.s1 {G : qG} {L L' : qLo} {i : Nat} {v : Value} (hv : qS1 L i v = some L') {ls' : Array Slot} (h : lv_has ls' L.length ((i, cv G v) :: ((qEn L).map fun q => (q.1, cv G q.2)).filter (fun q => !(q.1 == i) && !(q.1 + 1 == i && q.2.category == 2)))) : qHas G ls' L' ∧ i < L.length := by
  unfold qS1 at hv
  split at hv
  · rename_i hc
    cases hv
    refine ⟨qHas.intro h (by simp) fun j x hj => ?_, hc.1⟩
    by_cases hji : j = i
    · subst hji
      rw [List.getElem?_set_self hc.1] at hj
      cases hj
      exact List.mem_cons_self
    · rw [List.getElem?_set_ne (Ne.symm hji)] at hj
      refine List.mem_cons_of_mem _ (List.mem_filter.mpr ⟨List.mem_map.mpr ⟨(j, x), qEn_mem.mpr hj, rfl⟩, ?_⟩)
      simp only [cv_cat, Bool.and_eq_true, Bool.not_eq_true', beq_eq_false_iff_ne, ne_eq, Bool.and_eq_false_iff]
      refine ⟨hji, ?_⟩
      by_cases h1 : j + 1 = i
      · right
        rcases hc.2 with q | q
        · omega
        · rw [show i - 1 = j by omega, hj] at q
          cases x <;> simp_all [qNl, Value.category]
      · exact Or.inl h1
  · cases hv
theorem qHas.s2 {G : qG} {L L' : qLo} {i : Nat} {v : Value} (hv : qS2 L i v = some L') {ls' : Array Slot} (h : lv_has ls' L.length ((i, cv G v) :: ((qEn L).map fun q => (q.1, cv G q.2)).filter (fun q => !(q.1 == i) && (!(q.1 == i + 1) && !(q.1 + 1 == i && q.2.category == 2))))) : qHas G ls' L' ∧ i + 1 < L.length := by
  unfold qS2 at hv
  split at hv
  · rename_i hc
    cases hv
    refine ⟨qHas.intro h (by simp) fun j x hj => ?_, hc.1⟩
    by_cases hj1 : j = i + 1
    · subst hj1
      rw [List.getElem?_set_self (by simpa using hc.1)] at hj
      cases hj
    · rw [List.getElem?_set_ne (Ne.symm hj1)] at hj
      by_cases hji : j = i
      · subst hji
        rw [List.getElem?_set_self (by omega)] at hj
        cases hj
        exact List.mem_cons_self
      · rw [List.getElem?_set_ne (Ne.symm hji)] at hj
        refine List.mem_cons_of_mem _ (List.mem_filter.mpr ⟨List.mem_map.mpr ⟨(j, x), qEn_mem.mpr hj, rfl⟩, ?_⟩)
        simp only [cv_cat, Bool.and_eq_true, Bool.not_eq_true', beq_eq_false_iff_ne, ne_eq, Bool.and_eq_false_iff]
        refine ⟨hji, hj1, ?_⟩
        by_cases h1 : j + 1 = i
        · right
          rcases hc.2 with q | q
          · omega
          · rw [show i - 1 = j by omega, hj] at q
            cases x <;> simp_all [qNl, Value.category]
        · exact Or.inl h1
  · cases hv
theorem qS1_lt {L L' : qLo} {i : Nat} {v : Value} (hv : qS1 L i v = some L') : i < L.length := by
  unfold qS1 at hv
  split at hv
  · rename_i hc; exact hc.1
  · cases hv
theorem qS2_lt {L L' : qLo} {i : Nat} {v : Value} (hv : qS2 L i v = some L') : i + 1 < L.length := by
  unfold qS2 at hv
  split at hv
  · rename_i hc; exact hc.1
  · cases hv
theorem lv_args_at : ∀ (vs : List Value) (o : Nat) (pre : qLo), pre.length = o → ∀ i v (n : Nat), (pre ++ (vs.flatMap fun v => if v.category = 2 then [some v, none] else [some v]) ++ List.replicate n none)[i]? = some (some v) → o ≤ i → (i, v) ∈ lv_args o vs := by
  intro vs
  induction vs with
  | nil =>
    intro o pre hp i v n h hi
    exfalso
    rw [List.getElem?_append_right (by simp; omega)] at h
    have := List.mem_of_getElem? h
    simp at this
  | cons x vs ih =>
    intro o pre hp i v n h hi
    by_cases hx : x.category = 2
    · have e : (pre ++ ((x :: vs).flatMap fun v => if v.category = 2 then [some v, none] else [some v]) ++ List.replicate n none) = ((pre ++ [some x, none]) ++ (vs.flatMap fun v => if v.category = 2 then [some v, none] else [some v]) ++ List.replicate n none) := by simp [hx]
      rw [e] at h
      by_cases h0 : i = o
      · subst h0
        rw [List.append_assoc, List.append_assoc, List.getElem?_append_right (by omega)] at h
        simp [hp] at h
        subst h
        exact List.mem_cons_self
      · by_cases h1 : i = o + 1
        · subst h1
          rw [List.append_assoc, List.append_assoc, List.getElem?_append_right (by omega)] at h
          simp [hp] at h
        · refine List.mem_cons_of_mem _ ?_
          rw [if_pos hx]
          exact ih (o + 2) (pre ++ [some x, none]) (by simp; omega) i v n h (by omega)
    · have e : (pre ++ ((x :: vs).flatMap fun v => if v.category = 2 then [some v, none] else [some v]) ++ List.replicate n none) = ((pre ++ [some x]) ++ (vs.flatMap fun v => if v.category = 2 then [some v, none] else [some v]) ++ List.replicate n none) := by simp [hx]
      rw [e] at h
      by_cases h0 : i = o
      · subst h0
        rw [List.append_assoc, List.append_assoc, List.getElem?_append_right (by omega)] at h
        simp [hp] at h
        subst h
        exact List.mem_cons_self
      · refine List.mem_cons_of_mem _ ?_
        rw [if_neg hx]
        exact ih (o + 1) (pre ++ [some x]) (by simp; omega) i v n h (by omega)
theorem lv_args_cv (G : qG) : ∀ (vs : List Value) (o i : Nat) (v : Value), (i, v) ∈ lv_args o vs → (i, cv G v) ∈ lv_args o (vs.map (cv G)) := by
  intro vs
  induction vs with
  | nil => intro o i v h; cases h
  | cons x vs ih =>
    intro o i v h
    simp only [lv_args, List.map_cons, cv_cat] at h ⊢
    rcases List.mem_cons.mp h with h | h
    · cases h; exact List.mem_cons_self
    · exact List.mem_cons_of_mem _ (ih _ _ _ h)
theorem qFl_len (As : List Value) : (As.flatMap fun v => if v.category = 2 then [some v, none] else [some v]).length = (lg_sl As).length := by
  unfold lg_sl
  induction As with
  | nil => rfl
  | cons v l ih =>
    simp only [List.flatMap_cons, List.length_append, ih]
    congr 1
    split <;> rfl
theorem qHas.entry {G : qG} {z : Nat} {As : List Value} (h : (lg_sl As).length ≤ qL z) : qHas G ((lg_sl (As.map (cv G)) ++ List.replicate (qL z - (lg_sl (As.map (cv G))).length) Slot.unset).toArray) (qEntry z As) ∧ (qEntry z As).length = qL z := by
  have hl : (qEntry z As).length = qL z := by
    unfold qEntry
    rw [List.length_append, qFl_len, List.length_replicate]
    omega
  have e := lv_entry (As.map (cv G)) (n := qL z) (by rw [cv_sl]; exact h)
  refine ⟨qHas.intro e hl fun i v hi => lv_args_cv G _ _ _ _ (lv_args_at As 0 [] rfl i v _ (by simpa [qEntry] using hi) (Nat.zero_le _)), hl⟩
/-! what a walk of method z may lean on -/
def qCx (G : qG) (p : Program) (R : Room) (s : State) (m : MethodId) (args : Array Value) (meth : Method) (c : Code) (z : Nat) : Prop :=
  p.tables.exec = Jvm.exec ∧ c.code = qB z ∧ c.maxLocals = qL z ∧ s.vm.findClass (qR (qO z)) = some m.cls ∧ (∀ w ∈ qW, w.before args s = true) ∧ qTab G s ∧ (qK z = 2 → meth.name = "<init>") ∧ (qFr z ≤ R.frames ∧ qWd z ≤ R.locals) ∧ gB G ≤ s.heap.size
section QW
variable {G : qG} {p : Program} {l : Launch} {e : Env} {R : Room} {s : State} {m : MethodId} {args : Array Value} {below : List Frame} {meth : Method} {c : Code} {Q : State → Prop} {z N0 S0 : Nat}
def qWp (G : qG) (p : Program) (l : Launch) (e : Env) (R : Room) (s : State) (m : MethodId) (args : Array Value) (below : List Frame) (meth : Method) (c : Code) (Q : State → Prop) (N0 S0 : Nat) (f : qCf) : Prop :=
  ∀ (H : Heap) (locs : List Loc) (ls : Array Slot), qRep G f.2.2.2 H → va_S (gA G) s.heap H locs → qHas G ls f.2.1 → f.2.1.length = c.maxLocals → W p l e R s m args below meth c H locs (f.2.2.2.1.1 - N0) (f.2.2.2.1.2 - S0) Q (F0 m f.1 ls (f.2.2.1.map (cv G)))

theorem sd_iconst {n : Int} {k pc : Nat} {L : qLo} {st : List Value} {M : qHp} {f : qCf} (C : qCx G p R s m args meth c z) (h : qStepI z (.iconst n) k pc L st M = some (.inl f)) (hdg : decode (qB z) pc = .ok (.iconst n, k)) (kk : qWp G p l e R s m args below meth c Q N0 S0 f) : qWp G p l e R s m args below meth c Q N0 S0 (pc, L, st, M) := by
  obtain ⟨hx, hb, hml, hown, hts, hTab, hin, hRm, hbase⟩ := C
  simp only [qStepI] at h
  split at h
  rotate_left
  · cases h
  rename_i hk
  subst hk
  cases h
  intro H locs ls hR hS hL hll
  exact lv_iconst hx hb hdg rfl (kk H locs ls hR hS hL hll)
theorem sd_bipush {n : Int} {k pc : Nat} {L : qLo} {st : List Value} {M : qHp} {f : qCf} (C : qCx G p R s m args meth c z) (h : qStepI z (.bipush n) k pc L st M = some (.inl f)) (hdg : decode (qB z) pc = .ok (.bipush n, k)) (kk : qWp G p l e R s m args below meth c Q N0 S0 f) : qWp G p l e R s m args below meth c Q N0 S0 (pc, L, st, M) := by
  obtain ⟨hx, hb, hml, hown, hts, hTab, hin, hRm, hbase⟩ := C
  simp only [qStepI] at h
  split at h
  rotate_left
  · cases h
  rename_i hk
  subst hk
  cases h
  intro H locs ls hR hS hL hll
  exact lv_bipush hx hb hdg rfl (kk H locs ls hR hS hL hll)
theorem sd_sipush {n : Int} {k pc : Nat} {L : qLo} {st : List Value} {M : qHp} {f : qCf} (C : qCx G p R s m args meth c z) (h : qStepI z (.sipush n) k pc L st M = some (.inl f)) (hdg : decode (qB z) pc = .ok (.sipush n, k)) (kk : qWp G p l e R s m args below meth c Q N0 S0 f) : qWp G p l e R s m args below meth c Q N0 S0 (pc, L, st, M) := by
  obtain ⟨hx, hb, hml, hown, hts, hTab, hin, hRm, hbase⟩ := C
  simp only [qStepI] at h
  split at h
  rotate_left
  · cases h
  rename_i hk
  subst hk
  cases h
  intro H locs ls hR hS hL hll
  exact lv_sipush hx hb hdg rfl (kk H locs ls hR hS hL hll)
theorem sd_lconst {n : Fin 2} {k pc : Nat} {L : qLo} {st : List Value} {M : qHp} {f : qCf} (C : qCx G p R s m args meth c z) (h : qStepI z (.lconst n) k pc L st M = some (.inl f)) (hdg : decode (qB z) pc = .ok (.lconst n, k)) (kk : qWp G p l e R s m args below meth c Q N0 S0 f) : qWp G p l e R s m args below meth c Q N0 S0 (pc, L, st, M) := by
  obtain ⟨hx, hb, hml, hown, hts, hTab, hin, hRm, hbase⟩ := C
  simp only [qStepI] at h
  split at h
  rotate_left
  · cases h
  rename_i hk
  subst hk
  cases h
  intro H locs ls hR hS hL hll
  exact lv_lconst hx hb hdg rfl (kk H locs ls hR hS hL hll)
theorem sd_aconst_null  {k pc : Nat} {L : qLo} {st : List Value} {M : qHp} {f : qCf} (C : qCx G p R s m args meth c z) (h : qStepI z (.aconst_null) k pc L st M = some (.inl f)) (hdg : decode (qB z) pc = .ok (.aconst_null, k)) (kk : qWp G p l e R s m args below meth c Q N0 S0 f) : qWp G p l e R s m args below meth c Q N0 S0 (pc, L, st, M) := by
  obtain ⟨hx, hb, hml, hown, hts, hTab, hin, hRm, hbase⟩ := C
  simp only [qStepI] at h
  split at h
  rotate_left
  · cases h
  rename_i hk
  subst hk
  cases h
  intro H locs ls hR hS hL hll
  exact lv_null hx hb hdg (kk H locs ls hR hS hL hll)
theorem sd_iadd  {k pc : Nat} {L : qLo} {st : List Value} {M : qHp} {f : qCf} (C : qCx G p R s m args meth c z) (h : qStepI z (.iadd) k pc L st M = some (.inl f)) (hdg : decode (qB z) pc = .ok (.iadd, k)) (kk : qWp G p l e R s m args below meth c Q N0 S0 f) : qWp G p l e R s m args below meth c Q N0 S0 (pc, L, st, M) := by
  obtain ⟨hx, hb, hml, hown, hts, hTab, hin, hRm, hbase⟩ := C
  simp only [qStepI] at h
  split at h
  rotate_left
  · cases h
  rename_i hk
  subst hk
  split at h
  rotate_left
  · cases h
  cases h
  intro H locs ls hR hS hL hll
  exact lv_iadd hx hb hdg (kk H locs ls hR hS hL hll)
theorem sd_isub  {k pc : Nat} {L : qLo} {st : List Value} {M : qHp} {f : qCf} (C : qCx G p R s m args meth c z) (h : qStepI z (.isub) k pc L st M = some (.inl f)) (hdg : decode (qB z) pc = .ok (.isub, k)) (kk : qWp G p l e R s m args below meth c Q N0 S0 f) : qWp G p l e R s m args below meth c Q N0 S0 (pc, L, st, M) := by
  obtain ⟨hx, hb, hml, hown, hts, hTab, hin, hRm, hbase⟩ := C
  simp only [qStepI] at h
  split at h
  rotate_left
  · cases h
  rename_i hk
  subst hk
  split at h
  rotate_left
  · cases h
  cases h
  intro H locs ls hR hS hL hll
  exact lv_isub hx hb hdg (kk H locs ls hR hS hL hll)
theorem sd_imul  {k pc : Nat} {L : qLo} {st : List Value} {M : qHp} {f : qCf} (C : qCx G p R s m args meth c z) (h : qStepI z (.imul) k pc L st M = some (.inl f)) (hdg : decode (qB z) pc = .ok (.imul, k)) (kk : qWp G p l e R s m args below meth c Q N0 S0 f) : qWp G p l e R s m args below meth c Q N0 S0 (pc, L, st, M) := by
  obtain ⟨hx, hb, hml, hown, hts, hTab, hin, hRm, hbase⟩ := C
  simp only [qStepI] at h
  split at h
  rotate_left
  · cases h
  rename_i hk
  subst hk
  split at h
  rotate_left
  · cases h
  cases h
  intro H locs ls hR hS hL hll
  exact lv_imul hx hb hdg (kk H locs ls hR hS hL hll)
theorem sd_iand  {k pc : Nat} {L : qLo} {st : List Value} {M : qHp} {f : qCf} (C : qCx G p R s m args meth c z) (h : qStepI z (.iand) k pc L st M = some (.inl f)) (hdg : decode (qB z) pc = .ok (.iand, k)) (kk : qWp G p l e R s m args below meth c Q N0 S0 f) : qWp G p l e R s m args below meth c Q N0 S0 (pc, L, st, M) := by
  obtain ⟨hx, hb, hml, hown, hts, hTab, hin, hRm, hbase⟩ := C
  simp only [qStepI] at h
  split at h
  rotate_left
  · cases h
  rename_i hk
  subst hk
  split at h
  rotate_left
  · cases h
  cases h
  intro H locs ls hR hS hL hll
  exact lv_iand hx hb hdg (kk H locs ls hR hS hL hll)
theorem sd_lsub  {k pc : Nat} {L : qLo} {st : List Value} {M : qHp} {f : qCf} (C : qCx G p R s m args meth c z) (h : qStepI z (.lsub) k pc L st M = some (.inl f)) (hdg : decode (qB z) pc = .ok (.lsub, k)) (kk : qWp G p l e R s m args below meth c Q N0 S0 f) : qWp G p l e R s m args below meth c Q N0 S0 (pc, L, st, M) := by
  obtain ⟨hx, hb, hml, hown, hts, hTab, hin, hRm, hbase⟩ := C
  simp only [qStepI] at h
  split at h
  rotate_left
  · cases h
  rename_i hk
  subst hk
  split at h
  rotate_left
  · cases h
  cases h
  intro H locs ls hR hS hL hll
  exact lv_lsub hx hb hdg (kk H locs ls hR hS hL hll)
theorem sd_land  {k pc : Nat} {L : qLo} {st : List Value} {M : qHp} {f : qCf} (C : qCx G p R s m args meth c z) (h : qStepI z (.land) k pc L st M = some (.inl f)) (hdg : decode (qB z) pc = .ok (.land, k)) (kk : qWp G p l e R s m args below meth c Q N0 S0 f) : qWp G p l e R s m args below meth c Q N0 S0 (pc, L, st, M) := by
  obtain ⟨hx, hb, hml, hown, hts, hTab, hin, hRm, hbase⟩ := C
  simp only [qStepI] at h
  split at h
  rotate_left
  · cases h
  rename_i hk
  subst hk
  split at h
  rotate_left
  · cases h
  cases h
  intro H locs ls hR hS hL hll
  exact lv_land hx hb hdg (kk H locs ls hR hS hL hll)
theorem sd_lor  {k pc : Nat} {L : qLo} {st : List Value} {M : qHp} {f : qCf} (C : qCx G p R s m args meth c z) (h : qStepI z (.lor) k pc L st M = some (.inl f)) (hdg : decode (qB z) pc = .ok (.lor, k)) (kk : qWp G p l e R s m args below meth c Q N0 S0 f) : qWp G p l e R s m args below meth c Q N0 S0 (pc, L, st, M) := by
  obtain ⟨hx, hb, hml, hown, hts, hTab, hin, hRm, hbase⟩ := C
  simp only [qStepI] at h
  split at h
  rotate_left
  · cases h
  rename_i hk
  subst hk
  split at h
  rotate_left
  · cases h
  cases h
  intro H locs ls hR hS hL hll
  exact lv_lor hx hb hdg (kk H locs ls hR hS hL hll)
theorem sd_lshl  {k pc : Nat} {L : qLo} {st : List Value} {M : qHp} {f : qCf} (C : qCx G p R s m args meth c z) (h : qStepI z (.lshl) k pc L st M = some (.inl f)) (hdg : decode (qB z) pc = .ok (.lshl, k)) (kk : qWp G p l e R s m args below meth c Q N0 S0 f) : qWp G p l e R s m args below meth c Q N0 S0 (pc, L, st, M) := by
  obtain ⟨hx, hb, hml, hown, hts, hTab, hin, hRm, hbase⟩ := C
  simp only [qStepI] at h
  split at h
  rotate_left
  · cases h
  rename_i hk
  subst hk
  split at h
  rotate_left
  · cases h
  cases h
  intro H locs ls hR hS hL hll
  exact lv_lshl hx hb hdg rfl (kk H locs ls hR hS hL hll)
theorem sd_lshr  {k pc : Nat} {L : qLo} {st : List Value} {M : qHp} {f : qCf} (C : qCx G p R s m args meth c z) (h : qStepI z (.lshr) k pc L st M = some (.inl f)) (hdg : decode (qB z) pc = .ok (.lshr, k)) (kk : qWp G p l e R s m args below meth c Q N0 S0 f) : qWp G p l e R s m args below meth c Q N0 S0 (pc, L, st, M) := by
  obtain ⟨hx, hb, hml, hown, hts, hTab, hin, hRm, hbase⟩ := C
  simp only [qStepI] at h
  split at h
  rotate_left
  · cases h
  rename_i hk
  subst hk
  split at h
  rotate_left
  · cases h
  cases h
  intro H locs ls hR hS hL hll
  exact lv_lshr hx hb hdg rfl (kk H locs ls hR hS hL hll)
theorem sd_lushr  {k pc : Nat} {L : qLo} {st : List Value} {M : qHp} {f : qCf} (C : qCx G p R s m args meth c z) (h : qStepI z (.lushr) k pc L st M = some (.inl f)) (hdg : decode (qB z) pc = .ok (.lushr, k)) (kk : qWp G p l e R s m args below meth c Q N0 S0 f) : qWp G p l e R s m args below meth c Q N0 S0 (pc, L, st, M) := by
  obtain ⟨hx, hb, hml, hown, hts, hTab, hin, hRm, hbase⟩ := C
  simp only [qStepI] at h
  split at h
  rotate_left
  · cases h
  rename_i hk
  subst hk
  split at h
  rotate_left
  · cases h
  cases h
  intro H locs ls hR hS hL hll
  exact lv_lushr hx hb hdg rfl (kk H locs ls hR hS hL hll)
theorem sd_i2l  {k pc : Nat} {L : qLo} {st : List Value} {M : qHp} {f : qCf} (C : qCx G p R s m args meth c z) (h : qStepI z (.i2l) k pc L st M = some (.inl f)) (hdg : decode (qB z) pc = .ok (.i2l, k)) (kk : qWp G p l e R s m args below meth c Q N0 S0 f) : qWp G p l e R s m args below meth c Q N0 S0 (pc, L, st, M) := by
  obtain ⟨hx, hb, hml, hown, hts, hTab, hin, hRm, hbase⟩ := C
  simp only [qStepI] at h
  split at h
  rotate_left
  · cases h
  rename_i hk
  subst hk
  split at h
  rotate_left
  · cases h
  cases h
  intro H locs ls hR hS hL hll
  exact lv_i2l hx hb hdg rfl (kk H locs ls hR hS hL hll)
theorem sd_l2i  {k pc : Nat} {L : qLo} {st : List Value} {M : qHp} {f : qCf} (C : qCx G p R s m args meth c z) (h : qStepI z (.l2i) k pc L st M = some (.inl f)) (hdg : decode (qB z) pc = .ok (.l2i, k)) (kk : qWp G p l e R s m args below meth c Q N0 S0 f) : qWp G p l e R s m args below meth c Q N0 S0 (pc, L, st, M) := by
  obtain ⟨hx, hb, hml, hown, hts, hTab, hin, hRm, hbase⟩ := C
  simp only [qStepI] at h
  split at h
  rotate_left
  · cases h
  rename_i hk
  subst hk
  split at h
  rotate_left
  · cases h
  cases h
  intro H locs ls hR hS hL hll
  exact lv_l2i hx hb hdg rfl (kk H locs ls hR hS hL hll)
theorem sd_i2c  {k pc : Nat} {L : qLo} {st : List Value} {M : qHp} {f : qCf} (C : qCx G p R s m args meth c z) (h : qStepI z (.i2c) k pc L st M = some (.inl f)) (hdg : decode (qB z) pc = .ok (.i2c, k)) (kk : qWp G p l e R s m args below meth c Q N0 S0 f) : qWp G p l e R s m args below meth c Q N0 S0 (pc, L, st, M) := by
  obtain ⟨hx, hb, hml, hown, hts, hTab, hin, hRm, hbase⟩ := C
  simp only [qStepI] at h
  split at h
  rotate_left
  · cases h
  rename_i hk
  subst hk
  split at h
  rotate_left
  · cases h
  cases h
  intro H locs ls hR hS hL hll
  exact lv_i2c hx hb hdg rfl (kk H locs ls hR hS hL hll)
theorem sd_lcmp  {k pc : Nat} {L : qLo} {st : List Value} {M : qHp} {f : qCf} (C : qCx G p R s m args meth c z) (h : qStepI z (.lcmp) k pc L st M = some (.inl f)) (hdg : decode (qB z) pc = .ok (.lcmp, k)) (kk : qWp G p l e R s m args below meth c Q N0 S0 f) : qWp G p l e R s m args below meth c Q N0 S0 (pc, L, st, M) := by
  obtain ⟨hx, hb, hml, hown, hts, hTab, hin, hRm, hbase⟩ := C
  simp only [qStepI] at h
  split at h
  rotate_left
  · cases h
  rename_i hk
  subst hk
  split at h
  rotate_left
  · cases h
  cases h
  intro H locs ls hR hS hL hll
  exact W.lcmp hx hb hdg (kk H locs ls hR hS hL hll)
theorem sd_idiv  {k pc : Nat} {L : qLo} {st : List Value} {M : qHp} {f : qCf} (C : qCx G p R s m args meth c z) (h : qStepI z (.idiv) k pc L st M = some (.inl f)) (hdg : decode (qB z) pc = .ok (.idiv, k)) (kk : qWp G p l e R s m args below meth c Q N0 S0 f) : qWp G p l e R s m args below meth c Q N0 S0 (pc, L, st, M) := by
  obtain ⟨hx, hb, hml, hown, hts, hTab, hin, hRm, hbase⟩ := C
  simp only [qStepI] at h
  split at h
  rotate_left
  · cases h
  rename_i hk
  subst hk
  split at h
  rotate_left
  · cases h
  split at h
  · cases h
  rename_i hy
  cases h
  intro H locs ls hR hS hL hll
  exact lv_idiv hx hb hdg hy (kk H locs ls hR hS hL hll)
theorem sd_irem  {k pc : Nat} {L : qLo} {st : List Value} {M : qHp} {f : qCf} (C : qCx G p R s m args meth c z) (h : qStepI z (.irem) k pc L st M = some (.inl f)) (hdg : decode (qB z) pc = .ok (.irem, k)) (kk : qWp G p l e R s m args below meth c Q N0 S0 f) : qWp G p l e R s m args below meth c Q N0 S0 (pc, L, st, M) := by
  obtain ⟨hx, hb, hml, hown, hts, hTab, hin, hRm, hbase⟩ := C
  simp only [qStepI] at h
  split at h
  rotate_left
  · cases h
  rename_i hk
  subst hk
  split at h
  rotate_left
  · cases h
  split at h
  · cases h
  rename_i hy
  cases h
  intro H locs ls hR hS hL hll
  exact lv_irem hx hb hdg hy (kk H locs ls hR hS hL hll)
theorem sd_ldc {i : Nat} {k pc : Nat} {L : qLo} {st : List Value} {M : qHp} {f : qCf} (C : qCx G p R s m args meth c z) (h : qStepI z (.ldc i) k pc L st M = some (.inl f)) (hdg : decode (qB z) pc = .ok (.ldc i, k)) (kk : qWp G p l e R s m args below meth c Q N0 S0 f) : qWp G p l e R s m args below meth c Q N0 S0 (pc, L, st, M) := by
  obtain ⟨hx, hb, hml, hown, hts, hTab, hin, hRm, hbase⟩ := C
  simp only [qStepI] at h
  split at h
  rotate_left
  · cases h
  rename_i hk
  subst hk
  obtain ⟨v, hv, h⟩ := Option.bind_eq_some_iff.mp h
  cases h
  intro H locs ls hR hS hL hll
  exact lv_ldc hx hb hown (hts _ (q_ci hv)) hdg (kk H locs ls hR hS hL hll)
theorem sd_ldc2_w {i : Nat} {k pc : Nat} {L : qLo} {st : List Value} {M : qHp} {f : qCf} (C : qCx G p R s m args meth c z) (h : qStepI z (.ldc2_w i) k pc L st M = some (.inl f)) (hdg : decode (qB z) pc = .ok (.ldc2_w i, k)) (kk : qWp G p l e R s m args below meth c Q N0 S0 f) : qWp G p l e R s m args below meth c Q N0 S0 (pc, L, st, M) := by
  obtain ⟨hx, hb, hml, hown, hts, hTab, hin, hRm, hbase⟩ := C
  simp only [qStepI] at h
  split at h
  rotate_left
  · cases h
  rename_i hk
  subst hk
  obtain ⟨v, hv, h⟩ := Option.bind_eq_some_iff.mp h
  cases h
  intro H locs ls hR hS hL hll
  exact lv_ldc2 hx hb hown (hts _ (q_co hv)) hdg (kk H locs ls hR hS hL hll)
theorem sd_iload {i : Nat} {k pc : Nat} {L : qLo} {st : List Value} {M : qHp} {f : qCf} (C : qCx G p R s m args meth c z) (h : qStepI z (.iload i) k pc L st M = some (.inl f)) (hdg : decode (qB z) pc = .ok (.iload i, k)) (kk : qWp G p l e R s m args below meth c Q N0 S0 f) : qWp G p l e R s m args below meth c Q N0 S0 (pc, L, st, M) := by
  obtain ⟨hx, hb, hml, hown, hts, hTab, hin, hRm, hbase⟩ := C
  simp only [qStepI] at h
  split at h
  rotate_left
  · cases h
  rename_i hk
  subst hk
  split at h
  rotate_left
  · cases h
  rename_i x hv
  cases h
  intro H locs ls hR hS hL hll
  exact lv_iload hx hb hdg (hL.ld hv) (kk H locs ls hR hS hL hll)
theorem sd_iload_n {i : Fin 4} {k pc : Nat} {L : qLo} {st : List Value} {M : qHp} {f : qCf} (C : qCx G p R s m args meth c z) (h : qStepI z (.iload_n i) k pc L st M = some (.inl f)) (hdg : decode (qB z) pc = .ok (.iload_n i, k)) (kk : qWp G p l e R s m args below meth c Q N0 S0 f) : qWp G p l e R s m args below meth c Q N0 S0 (pc, L, st, M) := by
  obtain ⟨hx, hb, hml, hown, hts, hTab, hin, hRm, hbase⟩ := C
  simp only [qStepI] at h
  split at h
  rotate_left
  · cases h
  rename_i hk
  subst hk
  split at h
  rotate_left
  · cases h
  rename_i x hv
  cases h
  intro H locs ls hR hS hL hll
  exact lv_iload_n hx hb hdg rfl (hL.ld hv) (kk H locs ls hR hS hL hll)
theorem sd_lload {i : Nat} {k pc : Nat} {L : qLo} {st : List Value} {M : qHp} {f : qCf} (C : qCx G p R s m args meth c z) (h : qStepI z (.lload i) k pc L st M = some (.inl f)) (hdg : decode (qB z) pc = .ok (.lload i, k)) (kk : qWp G p l e R s m args below meth c Q N0 S0 f) : qWp G p l e R s m args below meth c Q N0 S0 (pc, L, st, M) := by
  obtain ⟨hx, hb, hml, hown, hts, hTab, hin, hRm, hbase⟩ := C
  simp only [qStepI] at h
  split at h
  rotate_left
  · cases h
  rename_i hk
  subst hk
  split at h
  rotate_left
  · cases h
  rename_i x hv
  cases h
  intro H locs ls hR hS hL hll
  exact lv_lload hx hb hdg (hL.ld hv) (kk H locs ls hR hS hL hll)
theorem sd_lload_n {i : Fin 4} {k pc : Nat} {L : qLo} {st : List Value} {M : qHp} {f : qCf} (C : qCx G p R s m args meth c z) (h : qStepI z (.lload_n i) k pc L st M = some (.inl f)) (hdg : decode (qB z) pc = .ok (.lload_n i, k)) (kk : qWp G p l e R s m args below meth c Q N0 S0 f) : qWp G p l e R s m args below meth c Q N0 S0 (pc, L, st, M) := by
  obtain ⟨hx, hb, hml, hown, hts, hTab, hin, hRm, hbase⟩ := C
  simp only [qStepI] at h
  split at h
  rotate_left
  · cases h
  rename_i hk
  subst hk
  split at h
  rotate_left
  · cases h
  rename_i x hv
  cases h
  intro H locs ls hR hS hL hll
  exact lv_lload_n hx hb hdg rfl (hL.ld hv) (kk H locs ls hR hS hL hll)
theorem sd_aload {i : Nat} {k pc : Nat} {L : qLo} {st : List Value} {M : qHp} {f : qCf} (C : qCx G p R s m args meth c z) (h : qStepI z (.aload i) k pc L st M = some (.inl f)) (hdg : decode (qB z) pc = .ok (.aload i, k)) (kk : qWp G p l e R s m args below meth c Q N0 S0 f) : qWp G p l e R s m args below meth c Q N0 S0 (pc, L, st, M) := by
  obtain ⟨hx, hb, hml, hown, hts, hTab, hin, hRm, hbase⟩ := C
  simp only [qStepI] at h
  split at h
  rotate_left
  · cases h
  rename_i hk
  subst hk
  split at h
  · rename_i x hv
    cases h
    intro H locs ls hR hS hL hll
    exact lv_aload hx hb hdg (hL.ld hv) (kk H locs ls hR hS hL hll)
  · rename_i hv
    cases h
    intro H locs ls hR hS hL hll
    exact lv_aloadN hx hb hdg (hL.ld hv) (kk H locs ls hR hS hL hll)
  · cases h
theorem sd_aload_n {i : Fin 4} {k pc : Nat} {L : qLo} {st : List Value} {M : qHp} {f : qCf} (C : qCx G p R s m args meth c z) (h : qStepI z (.aload_n i) k pc L st M = some (.inl f)) (hdg : decode (qB z) pc = .ok (.aload_n i, k)) (kk : qWp G p l e R s m args below meth c Q N0 S0 f) : qWp G p l e R s m args below meth c Q N0 S0 (pc, L, st, M) := by
  obtain ⟨hx, hb, hml, hown, hts, hTab, hin, hRm, hbase⟩ := C
  simp only [qStepI] at h
  split at h
  rotate_left
  · cases h
  rename_i hk
  subst hk
  split at h
  · rename_i x hv
    cases h
    intro H locs ls hR hS hL hll
    exact lv_aload_n hx hb hdg rfl (hL.ld hv) (kk H locs ls hR hS hL hll)
  · rename_i hv
    cases h
    intro H locs ls hR hS hL hll
    exact lv_aload_nN hx hb hdg rfl (hL.ld hv) (kk H locs ls hR hS hL hll)
  · cases h
theorem sd_istore {i : Nat} {k pc : Nat} {L : qLo} {st : List Value} {M : qHp} {f : qCf} (C : qCx G p R s m args meth c z) (h : qStepI z (.istore i) k pc L st M = some (.inl f)) (hdg : decode (qB z) pc = .ok (.istore i, k)) (kk : qWp G p l e R s m args below meth c Q N0 S0 f) : qWp G p l e R s m args below meth c Q N0 S0 (pc, L, st, M) := by
  obtain ⟨hx, hb, hml, hown, hts, hTab, hin, hRm, hbase⟩ := C
  simp only [qStepI] at h
  split at h
  rotate_left
  · cases h
  rename_i hk
  subst hk
  split at h
  rotate_left
  · cases h
  obtain ⟨L1, hL1, h⟩ := Option.bind_eq_some_iff.mp h
  cases h
  intro H locs ls hR hS hL hll
  have hlt := qS1_lt hL1
  refine lv_istore hx hb hdg (nL := L.length) hL (by exact hlt) rfl (fun ls hl => ?_)
  have h2 := qHas.s1 hL1 hl
  exact kk H locs ls hR hS h2.1 (by rw [← hll]; unfold qS1 at hL1; split at hL1 <;> first | (cases hL1; simp) | cases hL1)
theorem sd_istore_n {i : Fin 4} {k pc : Nat} {L : qLo} {st : List Value} {M : qHp} {f : qCf} (C : qCx G p R s m args meth c z) (h : qStepI z (.istore_n i) k pc L st M = some (.inl f)) (hdg : decode (qB z) pc = .ok (.istore_n i, k)) (kk : qWp G p l e R s m args below meth c Q N0 S0 f) : qWp G p l e R s m args below meth c Q N0 S0 (pc, L, st, M) := by
  obtain ⟨hx, hb, hml, hown, hts, hTab, hin, hRm, hbase⟩ := C
  simp only [qStepI] at h
  split at h
  rotate_left
  · cases h
  rename_i hk
  subst hk
  split at h
  rotate_left
  · cases h
  obtain ⟨L1, hL1, h⟩ := Option.bind_eq_some_iff.mp h
  cases h
  intro H locs ls hR hS hL hll
  have hlt := qS1_lt hL1
  refine lv_istore_n hx hb hdg rfl (nL := L.length) hL (by exact hlt) rfl (fun ls hl => ?_)
  have h2 := qHas.s1 hL1 hl
  exact kk H locs ls hR hS h2.1 (by rw [← hll]; unfold qS1 at hL1; split at hL1 <;> first | (cases hL1; simp) | cases hL1)
theorem sd_lstore {i : Nat} {k pc : Nat} {L : qLo} {st : List Value} {M : qHp} {f : qCf} (C : qCx G p R s m args meth c z) (h : qStepI z (.lstore i) k pc L st M = some (.inl f)) (hdg : decode (qB z) pc = .ok (.lstore i, k)) (kk : qWp G p l e R s m args below meth c Q N0 S0 f) : qWp G p l e R s m args below meth c Q N0 S0 (pc, L, st, M) := by
  obtain ⟨hx, hb, hml, hown, hts, hTab, hin, hRm, hbase⟩ := C
  simp only [qStepI] at h
  split at h
  rotate_left
  · cases h
  rename_i hk
  subst hk
  split at h
  rotate_left
  · cases h
  obtain ⟨L1, hL1, h⟩ := Option.bind_eq_some_iff.mp h
  cases h
  intro H locs ls hR hS hL hll
  have hlt := qS2_lt hL1
  refine lv_lstore hx hb hdg (nL := L.length) hL (by exact hlt) rfl (fun ls hl => ?_)
  have h2 := qHas.s2 hL1 hl
  exact kk H locs ls hR hS h2.1 (by rw [← hll]; unfold qS2 at hL1; split at hL1 <;> first | (cases hL1; simp) | cases hL1)
theorem sd_lstore_n {i : Fin 4} {k pc : Nat} {L : qLo} {st : List Value} {M : qHp} {f : qCf} (C : qCx G p R s m args meth c z) (h : qStepI z (.lstore_n i) k pc L st M = some (.inl f)) (hdg : decode (qB z) pc = .ok (.lstore_n i, k)) (kk : qWp G p l e R s m args below meth c Q N0 S0 f) : qWp G p l e R s m args below meth c Q N0 S0 (pc, L, st, M) := by
  obtain ⟨hx, hb, hml, hown, hts, hTab, hin, hRm, hbase⟩ := C
  simp only [qStepI] at h
  split at h
  rotate_left
  · cases h
  rename_i hk
  subst hk
  split at h
  rotate_left
  · cases h
  obtain ⟨L1, hL1, h⟩ := Option.bind_eq_some_iff.mp h
  cases h
  intro H locs ls hR hS hL hll
  have hlt := qS2_lt hL1
  refine lv_lstore_n hx hb hdg rfl (nL := L.length) hL (by exact hlt) rfl (fun ls hl => ?_)
  have h2 := qHas.s2 hL1 hl
  exact kk H locs ls hR hS h2.1 (by rw [← hll]; unfold qS2 at hL1; split at hL1 <;> first | (cases hL1; simp) | cases hL1)
theorem sd_astore {i : Nat} {k pc : Nat} {L : qLo} {st : List Value} {M : qHp} {f : qCf} (C : qCx G p R s m args meth c z) (h : qStepI z (.astore i) k pc L st M = some (.inl f)) (hdg : decode (qB z) pc = .ok (.astore i, k)) (kk : qWp G p l e R s m args below meth c Q N0 S0 f) : qWp G p l e R s m args below meth c Q N0 S0 (pc, L, st, M) := by
  obtain ⟨hx, hb, hml, hown, hts, hTab, hin, hRm, hbase⟩ := C
  simp only [qStepI] at h
  split at h
  rotate_left
  · cases h
  rename_i hk
  subst hk
  split at h
  · obtain ⟨L1, hL1, h⟩ := Option.bind_eq_some_iff.mp h
    cases h
    intro H locs ls hR hS hL hll
    have hlt := qS1_lt hL1
    refine lv_astore hx hb hdg (nL := L.length) hL (by exact hlt) rfl (fun ls hl => ?_)
    have h2 := qHas.s1 hL1 hl
    exact kk H locs ls hR hS h2.1 (by rw [← hll]; unfold qS1 at hL1; split at hL1 <;> first | (cases hL1; simp) | cases hL1)
  · obtain ⟨L1, hL1, h⟩ := Option.bind_eq_some_iff.mp h
    cases h
    intro H locs ls hR hS hL hll
    have hlt := qS1_lt hL1
    refine lv_astoreN hx hb hdg (nL := L.length) hL (by exact hlt) rfl (fun ls hl => ?_)
    have h2 := qHas.s1 hL1 hl
    exact kk H locs ls hR hS h2.1 (by rw [← hll]; unfold qS1 at hL1; split at hL1 <;> first | (cases hL1; simp) | cases hL1)
  · cases h
theorem sd_astore_n {i : Fin 4} {k pc : Nat} {L : qLo} {st : List Value} {M : qHp} {f : qCf} (C : qCx G p R s m args meth c z) (h : qStepI z (.astore_n i) k pc L st M = some (.inl f)) (hdg : decode (qB z) pc = .ok (.astore_n i, k)) (kk : qWp G p l e R s m args below meth c Q N0 S0 f) : qWp G p l e R s m args below meth c Q N0 S0 (pc, L, st, M) := by
  obtain ⟨hx, hb, hml, hown, hts, hTab, hin, hRm, hbase⟩ := C
  simp only [qStepI] at h
  split at h
  rotate_left
  · cases h
  rename_i hk
  subst hk
  split at h
  · obtain ⟨L1, hL1, h⟩ := Option.bind_eq_some_iff.mp h
    cases h
    intro H locs ls hR hS hL hll
    have hlt := qS1_lt hL1
    refine lv_astore_n hx hb hdg rfl (nL := L.length) hL (by exact hlt) rfl (fun ls hl => ?_)
    have h2 := qHas.s1 hL1 hl
    exact kk H locs ls hR hS h2.1 (by rw [← hll]; unfold qS1 at hL1; split at hL1 <;> first | (cases hL1; simp) | cases hL1)
  · obtain ⟨L1, hL1, h⟩ := Option.bind_eq_some_iff.mp h
    cases h
    intro H locs ls hR hS hL hll
    have hlt := qS1_lt hL1
    refine lv_astore_nN hx hb hdg rfl (nL := L.length) hL (by exact hlt) rfl (fun ls hl => ?_)
    have h2 := qHas.s1 hL1 hl
    exact kk H locs ls hR hS h2.1 (by rw [← hll]; unfold qS1 at hL1; split at hL1 <;> first | (cases hL1; simp) | cases hL1)
  · cases h
theorem sd_iinc {i : Nat} {n : Int} {k pc : Nat} {L : qLo} {st : List Value} {M : qHp} {f : qCf} (C : qCx G p R s m args meth c z) (h : qStepI z (.iinc i n) k pc L st M = some (.inl f)) (hdg : decode (qB z) pc = .ok (.iinc i n, k)) (kk : qWp G p l e R s m args below meth c Q N0 S0 f) : qWp G p l e R s m args below meth c Q N0 S0 (pc, L, st, M) := by
  obtain ⟨hx, hb, hml, hown, hts, hTab, hin, hRm, hbase⟩ := C
  simp only [qStepI] at h
  split at h
  rotate_left
  · cases h
  rename_i hk
  subst hk
  split at h
  rotate_left
  · cases h
  rename_i x hv
  obtain ⟨L1, hL1, h⟩ := Option.bind_eq_some_iff.mp h
  cases h
  intro H locs ls hR hS hL hll
  have hlt := qS1_lt hL1
  have hm : (i, Value.int x) ∈ (qEn L).map fun q => (q.1, cv G q.2) := by
    refine List.mem_map.mpr ⟨(i, .int x), qEn_mem.mpr ?_, rfl⟩
    unfold qLd at hv
    split at hv
    · rename_i w e; cases hv; exact e
    · cases hv
  obtain ⟨j, hj⟩ := List.getElem?_of_mem hm
  refine lv_iinc hx hb hdg (nL := L.length) hL hj rfl (by exact hlt) rfl (fun ls hl => ?_)
  have h2 := qHas.s1 hL1 (v := .int (x + Int32.ofInt n)) hl
  exact kk H locs ls hR hS h2.1 (by rw [← hll]; unfold qS1 at hL1; split at hL1 <;> first | (cases hL1; simp) | cases hL1)
theorem sd_dup  {k pc : Nat} {L : qLo} {st : List Value} {M : qHp} {f : qCf} (C : qCx G p R s m args meth c z) (h : qStepI z (.dup) k pc L st M = some (.inl f)) (hdg : decode (qB z) pc = .ok (.dup, k)) (kk : qWp G p l e R s m args below meth c Q N0 S0 f) : qWp G p l e R s m args below meth c Q N0 S0 (pc, L, st, M) := by
  obtain ⟨hx, hb, hml, hown, hts, hTab, hin, hRm, hbase⟩ := C
  simp only [qStepI] at h
  split at h
  rotate_left
  · cases h
  rename_i hk
  subst hk
  split at h
  · cases h
    intro H locs ls hR hS hL hll
    exact lv_dup hx hb hdg rfl (kk H locs ls hR hS hL hll)
  · cases h
    intro H locs ls hR hS hL hll
    exact lv_dup hx hb hdg rfl (kk H locs ls hR hS hL hll)
  · cases h
theorem sd_pop  {k pc : Nat} {L : qLo} {st : List Value} {M : qHp} {f : qCf} (C : qCx G p R s m args meth c z) (h : qStepI z (.pop) k pc L st M = some (.inl f)) (hdg : decode (qB z) pc = .ok (.pop, k)) (kk : qWp G p l e R s m args below meth c Q N0 S0 f) : qWp G p l e R s m args below meth c Q N0 S0 (pc, L, st, M) := by
  obtain ⟨hx, hb, hml, hown, hts, hTab, hin, hRm, hbase⟩ := C
  simp only [qStepI] at h
  split at h
  rotate_left
  · cases h
  rename_i hk
  subst hk
  split at h
  · cases h
    intro H locs ls hR hS hL hll
    exact lv_pop hx hb hdg rfl (kk H locs ls hR hS hL hll)
  · cases h
    intro H locs ls hR hS hL hll
    exact lv_pop hx hb hdg rfl (kk H locs ls hR hS hL hll)
  · cases h
theorem sd_dup2  {k pc : Nat} {L : qLo} {st : List Value} {M : qHp} {f : qCf} (C : qCx G p R s m args meth c z) (h : qStepI z (.dup2) k pc L st M = some (.inl f)) (hdg : decode (qB z) pc = .ok (.dup2, k)) (kk : qWp G p l e R s m args below meth c Q N0 S0 f) : qWp G p l e R s m args below meth c Q N0 S0 (pc, L, st, M) := by
  obtain ⟨hx, hb, hml, hown, hts, hTab, hin, hRm, hbase⟩ := C
  simp only [qStepI] at h
  split at h
  rotate_left
  · cases h
  rename_i hk
  subst hk
  split at h
  rotate_left
  · cases h
  cases h
  intro H locs ls hR hS hL hll
  exact lv_dup2_11 hx hb hdg rfl rfl (kk H locs ls hR hS hL hll)
theorem sd_dup_x1  {k pc : Nat} {L : qLo} {st : List Value} {M : qHp} {f : qCf} (C : qCx G p R s m args meth c z) (h : qStepI z (.dup_x1) k pc L st M = some (.inl f)) (hdg : decode (qB z) pc = .ok (.dup_x1, k)) (kk : qWp G p l e R s m args below meth c Q N0 S0 f) : qWp G p l e R s m args below meth c Q N0 S0 (pc, L, st, M) := by
  obtain ⟨hx, hb, hml, hown, hts, hTab, hin, hRm, hbase⟩ := C
  simp only [qStepI] at h
  split at h
  rotate_left
  · cases h
  rename_i hk
  subst hk
  split at h
  rotate_left
  · cases h
  cases h
  intro H locs ls hR hS hL hll
  exact lv_dup_x1 hx hb hdg rfl rfl (kk H locs ls hR hS hL hll)
theorem sd_ifCond_eq {off : Int} {k pc : Nat} {L : qLo} {st : List Value} {M : qHp} {f : qCf} (C : qCx G p R s m args meth c z) (h : qStepI z (.ifCond .eq off) k pc L st M = some (.inl f)) (hdg : decode (qB z) pc = .ok (.ifCond .eq off, k)) (kk : qWp G p l e R s m args below meth c Q N0 S0 f) : qWp G p l e R s m args below meth c Q N0 S0 (pc, L, st, M) := by
  obtain ⟨hx, hb, hml, hown, hts, hTab, hin, hRm, hbase⟩ := C
  simp only [qStepI] at h
  split at h
  rotate_left
  · cases h
  rename_i hk
  obtain ⟨rfl, ht⟩ := hk
  split at h
  rotate_left
  · cases h
  split at h
  · rename_i hP
    cases h
    intro H locs ls hR hS hL hll
    exact lv_if_eq hx hb hdg (Int.toNat_of_nonneg ht).symm (fun q => kk H locs ls hR hS hL hll) (fun q => absurd hP q)
  · rename_i hP
    cases h
    intro H locs ls hR hS hL hll
    exact lv_if_eq hx hb hdg (Int.toNat_of_nonneg ht).symm (fun q => absurd q hP) (fun q => kk H locs ls hR hS hL hll)
theorem sd_ifCond_ne {off : Int} {k pc : Nat} {L : qLo} {st : List Value} {M : qHp} {f : qCf} (C : qCx G p R s m args meth c z) (h : qStepI z (.ifCond .ne off) k pc L st M = some (.inl f)) (hdg : decode (qB z) pc = .ok (.ifCond .ne off, k)) (kk : qWp G p l e R s m args below meth c Q N0 S0 f) : qWp G p l e R s m args below meth c Q N0 S0 (pc, L, st, M) := by
  obtain ⟨hx, hb, hml, hown, hts, hTab, hin, hRm, hbase⟩ := C
  simp only [qStepI] at h
  split at h
  rotate_left
  · cases h
  rename_i hk
  obtain ⟨rfl, ht⟩ := hk
  split at h
  rotate_left
  · cases h
  split at h
  · rename_i hP
    cases h
    intro H locs ls hR hS hL hll
    exact lv_if_ne hx hb hdg (Int.toNat_of_nonneg ht).symm (fun q => absurd hP q) (fun q => kk H locs ls hR hS hL hll)
  · rename_i hP
    cases h
    intro H locs ls hR hS hL hll
    exact lv_if_ne hx hb hdg (Int.toNat_of_nonneg ht).symm (fun q => kk H locs ls hR hS hL hll) (fun q => absurd q hP)
theorem sd_ifCond_lt {off : Int} {k pc : Nat} {L : qLo} {st : List Value} {M : qHp} {f : qCf} (C : qCx G p R s m args meth c z) (h : qStepI z (.ifCond .lt off) k pc L st M = some (.inl f)) (hdg : decode (qB z) pc = .ok (.ifCond .lt off, k)) (kk : qWp G p l e R s m args below meth c Q N0 S0 f) : qWp G p l e R s m args below meth c Q N0 S0 (pc, L, st, M) := by
  obtain ⟨hx, hb, hml, hown, hts, hTab, hin, hRm, hbase⟩ := C
  simp only [qStepI] at h
  split at h
  rotate_left
  · cases h
  rename_i hk
  obtain ⟨rfl, ht⟩ := hk
  split at h
  rotate_left
  · cases h
  split at h
  · rename_i hP
    cases h
    intro H locs ls hR hS hL hll
    exact lv_if_lt hx hb hdg (Int.toNat_of_nonneg ht).symm (fun q => kk H locs ls hR hS hL hll) (fun q => absurd hP q)
  · rename_i hP
    cases h
    intro H locs ls hR hS hL hll
    exact lv_if_lt hx hb hdg (Int.toNat_of_nonneg ht).symm (fun q => absurd q hP) (fun q => kk H locs ls hR hS hL hll)
theorem sd_ifCond_ge {off : Int} {k pc : Nat} {L : qLo} {st : List Value} {M : qHp} {f : qCf} (C : qCx G p R s m args meth c z) (h : qStepI z (.ifCond .ge off) k pc L st M = some (.inl f)) (hdg : decode (qB z) pc = .ok (.ifCond .ge off, k)) (kk : qWp G p l e R s m args below meth c Q N0 S0 f) : qWp G p l e R s m args below meth c Q N0 S0 (pc, L, st, M) := by
  obtain ⟨hx, hb, hml, hown, hts, hTab, hin, hRm, hbase⟩ := C
  simp only [qStepI] at h
  split at h
  rotate_left
  · cases h
  rename_i hk
  obtain ⟨rfl, ht⟩ := hk
  split at h
  rotate_left
  · cases h
  split at h
  · rename_i hP
    cases h
    intro H locs ls hR hS hL hll
    exact lv_if_ge hx hb hdg (Int.toNat_of_nonneg ht).symm (fun q => kk H locs ls hR hS hL hll) (fun q => absurd hP q)
  · rename_i hP
    cases h
    intro H locs ls hR hS hL hll
    exact lv_if_ge hx hb hdg (Int.toNat_of_nonneg ht).symm (fun q => absurd q hP) (fun q => kk H locs ls hR hS hL hll)
theorem sd_ifCond_gt {off : Int} {k pc : Nat} {L : qLo} {st : List Value} {M : qHp} {f : qCf} (C : qCx G p R s m args meth c z) (h : qStepI z (.ifCond .gt off) k pc L st M = some (.inl f)) (hdg : decode (qB z) pc = .ok (.ifCond .gt off, k)) (kk : qWp G p l e R s m args below meth c Q N0 S0 f) : qWp G p l e R s m args below meth c Q N0 S0 (pc, L, st, M) := by
  obtain ⟨hx, hb, hml, hown, hts, hTab, hin, hRm, hbase⟩ := C
  simp only [qStepI] at h
  split at h
  rotate_left
  · cases h
  rename_i hk
  obtain ⟨rfl, ht⟩ := hk
  split at h
  rotate_left
  · cases h
  split at h
  · rename_i hP
    cases h
    intro H locs ls hR hS hL hll
    exact lv_if_gt hx hb hdg (Int.toNat_of_nonneg ht).symm (fun q => kk H locs ls hR hS hL hll) (fun q => absurd hP q)
  · rename_i hP
    cases h
    intro H locs ls hR hS hL hll
    exact lv_if_gt hx hb hdg (Int.toNat_of_nonneg ht).symm (fun q => absurd q hP) (fun q => kk H locs ls hR hS hL hll)
theorem sd_ifCond_le {off : Int} {k pc : Nat} {L : qLo} {st : List Value} {M : qHp} {f : qCf} (C : qCx G p R s m args meth c z) (h : qStepI z (.ifCond .le off) k pc L st M = some (.inl f)) (hdg : decode (qB z) pc = .ok (.ifCond .le off, k)) (kk : qWp G p l e R s m args below meth c Q N0 S0 f) : qWp G p l e R s m args below meth c Q N0 S0 (pc, L, st, M) := by
  obtain ⟨hx, hb, hml, hown, hts, hTab, hin, hRm, hbase⟩ := C
  simp only [qStepI] at h
  split at h
  rotate_left
  · cases h
  rename_i hk
  obtain ⟨rfl, ht⟩ := hk
  split at h
  rotate_left
  · cases h
  split at h
  · rename_i hP
    cases h
    intro H locs ls hR hS hL hll
    exact lv_if_le hx hb hdg (Int.toNat_of_nonneg ht).symm (fun q => kk H locs ls hR hS hL hll) (fun q => absurd hP q)
  · rename_i hP
    cases h
    intro H locs ls hR hS hL hll
    exact lv_if_le hx hb hdg (Int.toNat_of_nonneg ht).symm (fun q => absurd q hP) (fun q => kk H locs ls hR hS hL hll)
theorem sd_if_icmp_eq {off : Int} {k pc : Nat} {L : qLo} {st : List Value} {M : qHp} {f : qCf} (C : qCx G p R s m args meth c z) (h : qStepI z (.if_icmp .eq off) k pc L st M = some (.inl f)) (hdg : decode (qB z) pc = .ok (.if_icmp .eq off, k)) (kk : qWp G p l e R s m args below meth c Q N0 S0 f) : qWp G p l e R s m args below meth c Q N0 S0 (pc, L, st, M) := by
  obtain ⟨hx, hb, hml, hown, hts, hTab, hin, hRm, hbase⟩ := C
  simp only [qStepI] at h
  split at h
  rotate_left
  · cases h
  rename_i hk
  obtain ⟨rfl, ht⟩ := hk
  split at h
  rotate_left
  · cases h
  split at h
  · rename_i hP
    cases h
    intro H locs ls hR hS hL hll
    exact lv_icmp_eq hx hb hdg (Int.toNat_of_nonneg ht).symm (fun q => kk H locs ls hR hS hL hll) (fun q => absurd hP q)
  · rename_i hP
    cases h
    intro H locs ls hR hS hL hll
    exact lv_icmp_eq hx hb hdg (Int.toNat_of_nonneg ht).symm (fun q => absurd q hP) (fun q => kk H locs ls hR hS hL hll)
theorem sd_if_icmp_ne {off : Int} {k pc : Nat} {L : qLo} {st : List Value} {M : qHp} {f : qCf} (C : qCx G p R s m args meth c z) (h : qStepI z (.if_icmp .ne off) k pc L st M = some (.inl f)) (hdg : decode (qB z) pc = .ok (.if_icmp .ne off, k)) (kk : qWp G p l e R s m args below meth c Q N0 S0 f) : qWp G p l e R s m args below meth c Q N0 S0 (pc, L, st, M) := by
  obtain ⟨hx, hb, hml, hown, hts, hTab, hin, hRm, hbase⟩ := C
  simp only [qStepI] at h
  split at h
  rotate_left
  · cases h
  rename_i hk
  obtain ⟨rfl, ht⟩ := hk
  split at h
  rotate_left
  · cases h
  split at h
  · rename_i hP
    cases h
    intro H locs ls hR hS hL hll
    exact lv_icmp_ne hx hb hdg (Int.toNat_of_nonneg ht).symm (fun q => absurd hP q) (fun q => kk H locs ls hR hS hL hll)
  · rename_i hP
    cases h
    intro H locs ls hR hS hL hll
    exact lv_icmp_ne hx hb hdg (Int.toNat_of_nonneg ht).symm (fun q => kk H locs ls hR hS hL hll) (fun q => absurd q hP)
theorem sd_if_icmp_lt {off : Int} {k pc : Nat} {L : qLo} {st : List Value} {M : qHp} {f : qCf} (C : qCx G p R s m args meth c z) (h : qStepI z (.if_icmp .lt off) k pc L st M = some (.inl f)) (hdg : decode (qB z) pc = .ok (.if_icmp .lt off, k)) (kk : qWp G p l e R s m args below meth c Q N0 S0 f) : qWp G p l e R s m args below meth c Q N0 S0 (pc, L, st, M) := by
  obtain ⟨hx, hb, hml, hown, hts, hTab, hin, hRm, hbase⟩ := C
  simp only [qStepI] at h
  split at h
  rotate_left
  · cases h
  rename_i hk
  obtain ⟨rfl, ht⟩ := hk
  split at h
  rotate_left
  · cases h
  split at h
  · rename_i hP
    cases h
    intro H locs ls hR hS hL hll
    exact lv_icmp_lt hx hb hdg (Int.toNat_of_nonneg ht).symm (fun q => kk H locs ls hR hS hL hll) (fun q => absurd hP q)
  · rename_i hP
    cases h
    intro H locs ls hR hS hL hll
    exact lv_icmp_lt hx hb hdg (Int.toNat_of_nonneg ht).symm (fun q => absurd q hP) (fun q => kk H locs ls hR hS hL hll)
theorem sd_if_icmp_ge {off : Int} {k pc : Nat} {L : qLo} {st : List Value} {M : qHp} {f : qCf} (C : qCx G p R s m args meth c z) (h : qStepI z (.if_icmp .ge off) k pc L st M = some (.inl f)) (hdg : decode (qB z) pc = .ok (.if_icmp .ge off, k)) (kk : qWp G p l e R s m args below meth c Q N0 S0 f) : qWp G p l e R s m args below meth c Q N0 S0 (pc, L, st, M) := by
  obtain ⟨hx, hb, hml, hown, hts, hTab, hin, hRm, hbase⟩ := C
  simp only [qStepI] at h
  split at h
  rotate_left
  · cases h
  rename_i hk
  obtain ⟨rfl, ht⟩ := hk
  split at h
  rotate_left
  · cases h
  split at h
  · rename_i hP
    cases h
    intro H locs ls hR hS hL hll
    exact lv_icmp_ge hx hb hdg (Int.toNat_of_nonneg ht).symm (fun q => kk H locs ls hR hS hL hll) (fun q => absurd hP q)
  · rename_i hP
    cases h
    intro H locs ls hR hS hL hll
    exact lv_icmp_ge hx hb hdg (Int.toNat_of_nonneg ht).symm (fun q => absurd q hP) (fun q => kk H locs ls hR hS hL hll)
theorem sd_if_icmp_gt {off : Int} {k pc : Nat} {L : qLo} {st : List Value} {M : qHp} {f : qCf} (C : qCx G p R s m args meth c z) (h : qStepI z (.if_icmp .gt off) k pc L st M = some (.inl f)) (hdg : decode (qB z) pc = .ok (.if_icmp .gt off, k)) (kk : qWp G p l e R s m args below meth c Q N0 S0 f) : qWp G p l e R s m args below meth c Q N0 S0 (pc, L, st, M) := by
  obtain ⟨hx, hb, hml, hown, hts, hTab, hin, hRm, hbase⟩ := C
  simp only [qStepI] at h
  split at h
  rotate_left
  · cases h
  rename_i hk
  obtain ⟨rfl, ht⟩ := hk
  split at h
  rotate_left
  · cases h
  split at h
  · rename_i hP
    cases h
    intro H locs ls hR hS hL hll
    exact lv_icmp_gt hx hb hdg (Int.toNat_of_nonneg ht).symm (fun q => kk H locs ls hR hS hL hll) (fun q => absurd hP q)
  · rename_i hP
    cases h
    intro H locs ls hR hS hL hll
    exact lv_icmp_gt hx hb hdg (Int.toNat_of_nonneg ht).symm (fun q => absurd q hP) (fun q => kk H locs ls hR hS hL hll)
theorem sd_if_icmp_le {off : Int} {k pc : Nat} {L : qLo} {st : List Value} {M : qHp} {f : qCf} (C : qCx G p R s m args meth c z) (h : qStepI z (.if_icmp .le off) k pc L st M = some (.inl f)) (hdg : decode (qB z) pc = .ok (.if_icmp .le off, k)) (kk : qWp G p l e R s m args below meth c Q N0 S0 f) : qWp G p l e R s m args below meth c Q N0 S0 (pc, L, st, M) := by
  obtain ⟨hx, hb, hml, hown, hts, hTab, hin, hRm, hbase⟩ := C
  simp only [qStepI] at h
  split at h
  rotate_left
  · cases h
  rename_i hk
  obtain ⟨rfl, ht⟩ := hk
  split at h
  rotate_left
  · cases h
  split at h
  · rename_i hP
    cases h
    intro H locs ls hR hS hL hll
    exact lv_icmp_le hx hb hdg (Int.toNat_of_nonneg ht).symm (fun q => kk H locs ls hR hS hL hll) (fun q => absurd hP q)
  · rename_i hP
    cases h
    intro H locs ls hR hS hL hll
    exact lv_icmp_le hx hb hdg (Int.toNat_of_nonneg ht).symm (fun q => absurd q hP) (fun q => kk H locs ls hR hS hL hll)
theorem sd_ifnull {off : Int} {k pc : Nat} {L : qLo} {st : List Value} {M : qHp} {f : qCf} (C : qCx G p R s m args meth c z) (h : qStepI z (.ifnull off) k pc L st M = some (.inl f)) (hdg : decode (qB z) pc = .ok (.ifnull off, k)) (kk : qWp G p l e R s m args below meth c Q N0 S0 f) : qWp G p l e R s m args below meth c Q N0 S0 (pc, L, st, M) := by
  obtain ⟨hx, hb, hml, hown, hts, hTab, hin, hRm, hbase⟩ := C
  simp only [qStepI] at h
  split at h
  rotate_left
  · cases h
  rename_i hk
  obtain ⟨rfl, ht⟩ := hk
  split at h
  · cases h
    intro H locs ls hR hS hL hll
    exact lv_ifnull hx hb hdg (kk H locs ls hR hS hL hll)
  · cases h
    intro H locs ls hR hS hL hll
    exact lv_ifnullN hx hb hdg (Int.toNat_of_nonneg ht).symm (kk H locs ls hR hS hL hll)
  · cases h
theorem sd_ifnonnull {off : Int} {k pc : Nat} {L : qLo} {st : List Value} {M : qHp} {f : qCf} (C : qCx G p R s m args meth c z) (h : qStepI z (.ifnonnull off) k pc L st M = some (.inl f)) (hdg : decode (qB z) pc = .ok (.ifnonnull off, k)) (kk : qWp G p l e R s m args below meth c Q N0 S0 f) : qWp G p l e R s m args below meth c Q N0 S0 (pc, L, st, M) := by
  obtain ⟨hx, hb, hml, hown, hts, hTab, hin, hRm, hbase⟩ := C
  simp only [qStepI] at h
  split at h
  rotate_left
  · cases h
  rename_i hk
  obtain ⟨rfl, ht⟩ := hk
  split at h
  · cases h
    intro H locs ls hR hS hL hll
    exact lv_ifnonnull hx hb hdg (Int.toNat_of_nonneg ht).symm (kk H locs ls hR hS hL hll)
  · cases h
    intro H locs ls hR hS hL hll
    exact lv_ifnonnullN hx hb hdg (kk H locs ls hR hS hL hll)
  · cases h
theorem sd_goto {off : Int} {k pc : Nat} {L : qLo} {st : List Value} {M : qHp} {f : qCf} (C : qCx G p R s m args meth c z) (h : qStepI z (.goto off) k pc L st M = some (.inl f)) (hdg : decode (qB z) pc = .ok (.goto off, k)) (kk : qWp G p l e R s m args below meth c Q N0 S0 f) : qWp G p l e R s m args below meth c Q N0 S0 (pc, L, st, M) := by
  obtain ⟨hx, hb, hml, hown, hts, hTab, hin, hRm, hbase⟩ := C
  simp only [qStepI] at h
  split at h
  rotate_left
  · cases h
  rename_i hk
  obtain ⟨rfl, ht⟩ := hk
  cases h
  intro H locs ls hR hS hL hll
  exact lv_goto hx hb hdg (Int.toNat_of_nonneg ht).symm (kk H locs ls hR hS hL hll)
theorem jp_some {pc : Nat} {off : Int} {L : qLo} {st : List Value} {M : qHp} {f : qCf} (h : jp pc off L st M = some (.inl f)) : (pc : Int) + off = ((((pc : Int) + off).toNat : Nat) : Int) ∧ f = (((pc : Int) + off).toNat, L, st, M) := by
  unfold jp at h
  split at h
  · rename_i ht
    cases h
    exact ⟨(Int.toNat_of_nonneg ht).symm, rfl⟩
  · cases h
theorem sd_tableswitch {d lo hi : Int} {offs : Array Int} {k pc : Nat} {L : qLo} {st : List Value} {M : qHp} {f : qCf} (C : qCx G p R s m args meth c z) (h : qStepI z (.tableswitch d lo hi offs) k pc L st M = some (.inl f)) (hdg : decode (qB z) pc = .ok (.tableswitch d lo hi offs, k)) (kk : qWp G p l e R s m args below meth c Q N0 S0 f) : qWp G p l e R s m args below meth c Q N0 S0 (pc, L, st, M) := by
  obtain ⟨hx, hb, hml, hown, hts, hTab, hin, hRm, hbase⟩ := C
  simp only [qStepI] at h
  split at h
  rotate_left
  · cases h
  split at h
  · rename_i x st ho
    obtain ⟨ht, rfl⟩ := jp_some h
    intro H locs ls hR hS hL hll
    exact lv_tableOut hx hb hdg ho ht (kk H locs ls hR hS hL hll)
  · rename_i x st ho
    split at h
    · rename_i off hof
      obtain ⟨ht, rfl⟩ := jp_some h
      intro H locs ls hR hS hL hll
      exact lv_tableIn hx hb hdg (fun q => ho (Or.inl q)) (fun q => ho (Or.inr q)) hof ht (kk H locs ls hR hS hL hll)
    · cases h
theorem sd_lookupswitch {d : Int} {ps : Array (Int × Int)} {k pc : Nat} {L : qLo} {st : List Value} {M : qHp} {f : qCf} (C : qCx G p R s m args meth c z) (h : qStepI z (.lookupswitch d ps) k pc L st M = some (.inl f)) (hdg : decode (qB z) pc = .ok (.lookupswitch d ps, k)) (kk : qWp G p l e R s m args below meth c Q N0 S0 f) : qWp G p l e R s m args below meth c Q N0 S0 (pc, L, st, M) := by
  obtain ⟨hx, hb, hml, hown, hts, hTab, hin, hRm, hbase⟩ := C
  simp only [qStepI] at h
  split at h
  rotate_left
  · cases h
  split at h
  · rename_i x st hp
    obtain ⟨ht, rfl⟩ := jp_some h
    intro H locs ls hR hS hL hll
    exact lv_lookup hx hb hdg hp rfl ht (kk H locs ls hR hS hL hll)
  · cases h
end QW
