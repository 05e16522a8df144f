/-! THE CLAIM OUT OF ONE WALK OF THE LAW'S BODY. Your part is whole_start (and what it stands on); all else here is the same for every law, but numbers. -/
def R_law : String := "LetterRunsLaw"
def lw_P (b : Addr) (xs : List Int32) (args : Array Value) (s : State) : Prop := args = #[.ref b] ∧ s.IntsAt b xs ∧ xs.length ≤ 260 ∧ (Jvm.Cond.and given_1 narrow_1).before args s = true
def lw_Q (_ : Array Value) (s : State) (o : Outcome) (t : State) : Prop := o = .returned (some (.int 1)) ∧ Framed s o t [] 600000 7302250
def lw_Z (below : List Frame) (a : Array Value) (s : State) : State → Prop := fun t => ∃ o, t.status = .running ∧ Ended t below o ∧ lw_Q a s o t
/-- the law's own end, with 1 on the stack, nothing written that was there before, its room as the claim has it -/
theorem lw_ret {p : Program} {l : Launch} {e : Env} {s : State} {m : MethodId} {below : List Frame} {meth : Method} {c : Code} {b : Nat} (hx : p.tables.exec = Jvm.exec) (hb : c.code = code) (hr : meth.sig.returnType = ret) (hlocks : meth.locks = false) {pc : Nat} {H : Heap} {ls : Array Slot} (hdg : decode code pc = .ok (.ireturn, 1)) : W p l e room_1 s m #[Value.ref b] below meth c H [] 600000 7302250 (lw_Z below #[Value.ref b] s) (F0 m pc ls [.int 1]) := by
  intro T hT X
  obtain ⟨fs, hret, hrun, hended, hW, hframe⟩ := X.leave (v := some (.int 1)) (hlocks := hlocks) (fun h => by rw [hr] at h; cases h)
  have hmeth' : T.vm.method? m = some meth := X.method'
  refine ⟨T.setFrames fs, ?_, .returned (some (.int 1)), hrun, hended, rfl, ⟨_, rfl⟩, hW, hframe⟩
  jvm_step X.here [X.here.top, hx, hb, hdg, hmeth', hr, ret, narrow_b1]
  (try refine ⟨rfl, ?_⟩); (try refine ⟨rfl, ?_⟩)
  first | (intro acts; rw [hret _ acts rfl rfl rfl]) | rw [hret _ _ rfl rfl rfl]
  exact Steps.refl _
/-- what holds at the law's entry: the machine, the code, the tables' words (any of lw_tbl by 'hts w (by decide +kernel)'), the script of L ints xs at the cell b, what the Statement gives of the start (any of its parts by flat_of_before) -/
def lw_At (p : Program) (s : State) (m : MethodId) (meth : Method) (c : Code) (b L : Nat) (xs : Nat → Int32) : Prop :=
  p.tables.exec = Jvm.exec ∧ c.code = code ∧ meth.sig.returnType = ret ∧ c.maxLocals = 10 ∧ s.vm.findClass R_law = some m.cls ∧ (∀ w ∈ lw_tbl, w.before #[Value.ref b] s = true) ∧ va_X b L xs s s.heap ∧ b < s.heap.size ∧ meth.locks = false ∧ (Jvm.Cond.and given_1 narrow_1).before #[Value.ref b] s = true
/-! THE LAW: from the machine's start to the interpreter's -/
theorem q_ao : Jvm.Cond.arrayOver (.object (qR 0)) ∈ lw_tbl ∧ Jvm.Cond.arrayOver (.object (qR 1)) ∈ lw_tbl ∧ Jvm.Cond.arrayOver (.object (qR 3)) ∈ lw_tbl := ⟨List.mem_of_getElem? (i := 41) (by decide +kernel), List.mem_of_getElem? (i := 178) (by decide +kernel), List.mem_of_getElem? (i := 43) (by decide +kernel)⟩
theorem q_nm_ok : ∀ q ∈ qMnL, Jvm.Cond.methodLinkNest (qR q.1) q.2.1 (qY q.2.2) "LetterRuns" ∈ lw_tbl := by
  refine List.forall_mem_cons.mpr ⟨List.mem_of_getElem? (i := 46) (by decide +kernel), ?_⟩
  refine List.forall_mem_cons.mpr ⟨List.mem_of_getElem? (i := 64) (by decide +kernel), ?_⟩
  refine List.forall_mem_cons.mpr ⟨List.mem_of_getElem? (i := 109) (by decide +kernel), ?_⟩
  refine List.forall_mem_cons.mpr ⟨List.mem_of_getElem? (i := 114) (by decide +kernel), ?_⟩
  refine List.forall_mem_cons.mpr ⟨List.mem_of_getElem? (i := 201) (by decide +kernel), ?_⟩
  exact fun q h => by cases h
theorem q_nf_ok : ∀ q ∈ qSlN, Jvm.Cond.fieldLinkNest (qR q.1) q.2.1 "LetterRuns" (qSn q.2.2.1) "[I" "LetterRuns" ∈ lw_tbl := by
  refine List.forall_mem_cons.mpr ⟨List.mem_of_getElem? (i := 61) (by decide +kernel), ?_⟩
  refine List.forall_mem_cons.mpr ⟨List.mem_of_getElem? (i := 509) (by decide +kernel), ?_⟩
  refine List.forall_mem_cons.mpr ⟨List.mem_of_getElem? (i := 511) (by decide +kernel), ?_⟩
  exact fun q h => by cases h
theorem q_ls1 : Jvm.Cond.laysStatic "LetterRuns" "FIRST_VALUES" "[I" ∈ lw_tbl := List.mem_of_getElem? (i := 62) (by decide +kernel)
def qF1 : List Int32 := [3, 20, 2, 5, 480, 0, 50, 30, 10]
theorem q_ls2 : Jvm.Cond.laysStatic "LetterRuns" "LOWEST_VALUES" "[I" ∈ lw_tbl := List.mem_of_getElem? (i := 510) (by decide +kernel)
def qF2 : List Int32 := [0, 0, 0, 1, 0, 0, 1, 1, 1]
theorem q_ls3 : Jvm.Cond.laysStatic "LetterRuns" "HIGHEST_VALUES" "[I" ∈ lw_tbl := List.mem_of_getElem? (i := 512) (by decide +kernel)
def qF3 : List Int32 := [30, 500, 20, 50, 1440, 1, 100, 100, 100]
def qM0 (xs : List Int32) : qHp := ((4, 0), fun a => match a with
  | 0 => some (14, xs.map .int)
  | 1 => some (14, qF1.map .int)
  | 2 => some (14, qF2.map .int)
  | 3 => some (14, qF3.map .int)
  | _ => none)
theorem q_st1 {b : Nat} {s : State} {A : Nat → Prop} (hgv : (Jvm.Cond.and given_1 narrow_1).before #[Value.ref b] s = true) (hts : ∀ w ∈ lw_tbl, w.before #[Value.ref b] s = true) (hA : ∀ a : Nat, a < s.heap.size → ¬ A a) : ∃ t : Nat, va_Z "LetterRuns" "FIRST_VALUES" "[I" (.ref t) A s s.heap ∧ va_T .int t 9 (fun j => (qF1.map Value.int).getD j .null) A s s.heap := by
  have hs := flat_of_before _ hgv
  have hel : ∀ j : Nat, j < 9 → (Term.elem (.static "LetterRuns" "FIRST_VALUES" "[I") (.int (Int32.ofNat j))).eval #[Value.ref b] s none [] s = some ((fun j => (qF1.map Value.int).getD j .null) j) := by
    intro j hj
    match j, hj with
    | 0, _ => exact va_eqt (z := 3) (hs _ (by decide +kernel))
    | 1, _ => exact va_eqt (z := 20) (hs _ (by decide +kernel))
    | 2, _ => exact va_eqt (z := 2) (hs _ (by decide +kernel))
    | 3, _ => exact va_eqt (z := 5) (hs _ (by decide +kernel))
    | 4, _ => exact va_eqt (z := 480) (hs _ (by decide +kernel))
    | 5, _ => exact va_eqt (z := 0) (hs _ (by decide +kernel))
    | 6, _ => exact va_eqt (z := 50) (hs _ (by decide +kernel))
    | 7, _ => exact va_eqt (z := 30) (hs _ (by decide +kernel))
    | 8, _ => exact va_eqt (z := 10) (hs _ (by decide +kernel))
  obtain ⟨t, ht, hT⟩ := va_Tof (args := #[Value.ref b]) (s := s) (tm := .static "LetterRuns" "FIRST_VALUES" "[I") (ty := .int) (N := 9) (f := fun j => (qF1.map Value.int).getD j .null) (A := A) (by omega) (hs _ (by decide +kernel)) (va_eqt (z := 9) (hs _ (by decide +kernel))) hel hA
  exact ⟨t, va_Zref (hts _ q_ls1) (hts _ (qW_tbl (q_ini 6 (by omega)))) ht hA, hT⟩
theorem q_st2 {b : Nat} {s : State} {A : Nat → Prop} (hgv : (Jvm.Cond.and given_1 narrow_1).before #[Value.ref b] s = true) (hts : ∀ w ∈ lw_tbl, w.before #[Value.ref b] s = true) (hA : ∀ a : Nat, a < s.heap.size → ¬ A a) : ∃ t : Nat, va_Z "LetterRuns" "LOWEST_VALUES" "[I" (.ref t) A s s.heap ∧ va_T .int t 9 (fun j => (qF2.map Value.int).getD j .null) A s s.heap := by
  have hs := flat_of_before _ hgv
  have hel : ∀ j : Nat, j < 9 → (Term.elem (.static "LetterRuns" "LOWEST_VALUES" "[I") (.int (Int32.ofNat j))).eval #[Value.ref b] s none [] s = some ((fun j => (qF2.map Value.int).getD j .null) j) := by
    intro j hj
    match j, hj with
    | 0, _ => exact va_eqt (z := 0) (hs _ (by decide +kernel))
    | 1, _ => exact va_eqt (z := 0) (hs _ (by decide +kernel))
    | 2, _ => exact va_eqt (z := 0) (hs _ (by decide +kernel))
    | 3, _ => exact va_eqt (z := 1) (hs _ (by decide +kernel))
    | 4, _ => exact va_eqt (z := 0) (hs _ (by decide +kernel))
    | 5, _ => exact va_eqt (z := 0) (hs _ (by decide +kernel))
    | 6, _ => exact va_eqt (z := 1) (hs _ (by decide +kernel))
    | 7, _ => exact va_eqt (z := 1) (hs _ (by decide +kernel))
    | 8, _ => exact va_eqt (z := 1) (hs _ (by decide +kernel))
  obtain ⟨t, ht, hT⟩ := va_Tof (args := #[Value.ref b]) (s := s) (tm := .static "LetterRuns" "LOWEST_VALUES" "[I") (ty := .int) (N := 9) (f := fun j => (qF2.map Value.int).getD j .null) (A := A) (by omega) (hs _ (by decide +kernel)) (va_eqt (z := 9) (hs _ (by decide +kernel))) hel hA
  exact ⟨t, va_Zref (hts _ q_ls2) (hts _ (qW_tbl (q_ini 6 (by omega)))) ht hA, hT⟩
theorem q_st3 {b : Nat} {s : State} {A : Nat → Prop} (hgv : (Jvm.Cond.and given_1 narrow_1).before #[Value.ref b] s = true) (hts : ∀ w ∈ lw_tbl, w.before #[Value.ref b] s = true) (hA : ∀ a : Nat, a < s.heap.size → ¬ A a) : ∃ t : Nat, va_Z "LetterRuns" "HIGHEST_VALUES" "[I" (.ref t) A s s.heap ∧ va_T .int t 9 (fun j => (qF3.map Value.int).getD j .null) A s s.heap := by
  have hs := flat_of_before _ hgv
  have hel : ∀ j : Nat, j < 9 → (Term.elem (.static "LetterRuns" "HIGHEST_VALUES" "[I") (.int (Int32.ofNat j))).eval #[Value.ref b] s none [] s = some ((fun j => (qF3.map Value.int).getD j .null) j) := by
    intro j hj
    match j, hj with
    | 0, _ => exact va_eqt (z := 30) (hs _ (by decide +kernel))
    | 1, _ => exact va_eqt (z := 500) (hs _ (by decide +kernel))
    | 2, _ => exact va_eqt (z := 20) (hs _ (by decide +kernel))
    | 3, _ => exact va_eqt (z := 50) (hs _ (by decide +kernel))
    | 4, _ => exact va_eqt (z := 1440) (hs _ (by decide +kernel))
    | 5, _ => exact va_eqt (z := 1) (hs _ (by decide +kernel))
    | 6, _ => exact va_eqt (z := 100) (hs _ (by decide +kernel))
    | 7, _ => exact va_eqt (z := 100) (hs _ (by decide +kernel))
    | 8, _ => exact va_eqt (z := 100) (hs _ (by decide +kernel))
  obtain ⟨t, ht, hT⟩ := va_Tof (args := #[Value.ref b]) (s := s) (tm := .static "LetterRuns" "HIGHEST_VALUES" "[I") (ty := .int) (N := 9) (f := fun j => (qF3.map Value.int).getD j .null) (A := A) (by omega) (hs _ (by decide +kernel)) (va_eqt (z := 9) (hs _ (by decide +kernel))) hel hA
  exact ⟨t, va_Zref (hts _ q_ls3) (hts _ (qW_tbl (q_ini 6 (by omega)))) ht hA, hT⟩
theorem q_arrc {s : State} {args : Array Value} {ty : FieldType} (h : (Jvm.Cond.arrayClass ty).before args s = true) : ∃ cA : ClassId, ArrOfT s cA ty ∧ s.vm.findClass ("[" ++ ty.toString) = some cA := by
  obtain ⟨c, k, comp, h1, h2, h3⟩ := Cond.arrayClass_spec h
  exact ⟨c, fun n z => ⟨fun k h => (by cases h), k, h2, comp, h3⟩, h1⟩
theorem q_arro {s : State} {args : Array Value} {C : String} (h : (Jvm.Cond.arrayOver (.object C)).before args s = true) : ∃ cA : ClassId, ArrOfT s cA (.object C) ∧ va_RA s cA (.object C) := by
  obtain ⟨comp, c, k, h1, h2, h3, h4, h5⟩ := Cond.arrayOver_spec h
  exact ⟨c, fun n z => ⟨fun k h => (by cases h), k, h3, comp, h4⟩, k, comp, h3, h4, h1, h5⟩
def qGof (base b t1 t2 t3 : Nat) (dC : Nat → ClassId) (dI : Nat → Nat → Nat) (xs : List Int32) : qG := ((base, b, t1, t2, t3), (dC, dI), fun a => match a with
  | 0 => xs.map .int
  | 1 => qF1.map .int
  | 2 => qF2.map .int
  | 3 => qF3.map .int
  | _ => [])
theorem q_rep0 {H : Heap} {b t1 t2 t3 : Nat} {dC : Nat → ClassId} {dI : Nat → Nat → Nat} {xs : List Int32} : qRep (qGof H.size b t1 t2 t3 dC dI xs) (qM0 xs) H := by
  refine ⟨rfl, Nat.le_refl 4, fun a c hc => ?_⟩
  match a with
  | 0 => cases hc; exact ⟨by show 0 < 4; omega, by show 14 = 14 ↔ 0 < 4; omega, by show 14 < 15; omega, by unfold qCell; rw [if_neg (by show ¬ 14 < 8; omega), if_pos rfl]; exact ⟨by omega, rfl⟩⟩
  | 1 => cases hc; exact ⟨by show 1 < 4; omega, by show 14 = 14 ↔ 1 < 4; omega, by show 14 < 15; omega, by unfold qCell; rw [if_neg (by show ¬ 14 < 8; omega), if_pos rfl]; exact ⟨by omega, rfl⟩⟩
  | 2 => cases hc; exact ⟨by show 2 < 4; omega, by show 14 = 14 ↔ 2 < 4; omega, by show 14 < 15; omega, by unfold qCell; rw [if_neg (by show ¬ 14 < 8; omega), if_pos rfl]; exact ⟨by omega, rfl⟩⟩
  | 3 => cases hc; exact ⟨by show 3 < 4; omega, by show 14 = 14 ↔ 3 < 4; omega, by show 14 < 15; omega, by unfold qCell; rw [if_neg (by show ¬ 14 < 8; omega), if_pos rfl]; exact ⟨by omega, rfl⟩⟩
  | n + 4 => cases hc
set_option maxHeartbeats 4000000 in
/-- the claim out of one run of the interpreter -/
theorem q_start (hpure : ∀ xs : List Int32, xs.length ≤ 260 → ∃ M' : qHp, qEx 150 (0, [some (.ref 0), none, none, none, none, none, none, none, none, none], [], qM0 xs) = some (some (.int 1), M') ∧ M'.1.1 ≤ 600000 ∧ M'.1.2 ≤ 7302250)
    {p : Program} {e : Env} {s : State} {m : MethodId} {below : List Frame} {meth : Method} {c : Code} (l : Launch) {b L : Nat} {xs : Nat → Int32} (hL : L ≤ 260) (C0 : lw_At p s m meth c b L xs) : W p l e room_1 s m #[Value.ref b] below meth c s.heap [] 0 0 (lw_Z below #[Value.ref b] s) (entryFrame m ([Value.ref b] : List Value).toArray 10) := by
  obtain ⟨hx, hb, hr, hml, hown, hts, hX, hbl, hlocks, hgv⟩ := C0
  have hWd : ∀ w ∈ qW, w.before #[Value.ref b] s = true := fun w hw => hts w (qW_tbl hw)
  have hA : ∀ a : Nat, a < s.heap.size → ¬ (fun q : Nat => s.heap.size ≤ q) a := fun a h => Nat.not_le.mpr h
  obtain ⟨t1, hZ1, hT1⟩ := q_st1 (A := fun q : Nat => s.heap.size ≤ q) hgv hts hA
  obtain ⟨t2, hZ2, hT2⟩ := q_st2 (A := fun q : Nat => s.heap.size ≤ q) hgv hts hA
  obtain ⟨t3, hZ3, hT3⟩ := q_st3 (A := fun q : Nat => s.heap.size ≤ q) hgv hts hA
  have hcl : ∀ k : Nat, ∃ q : ClassId × (Nat → Nat), k < 8 → u_Kn s (qR k) (qT k) (qN k) q.1 q.2 := by
    intro k
    by_cases hk : k < 8
    · obtain ⟨cC, iS, h⟩ := u_known (C := qR k) (T := qT k) (N := qN k) (n := qN k) hWd (q_lay k hk) (hWd _ (q_inst k hk))
      exact ⟨(cC, iS), fun _ => h⟩
    · exact ⟨(0, fun _ => 0), fun h => absurd h hk⟩
  obtain ⟨a8, hA8, hF8⟩ := q_arrc (hWd _ q_acl.1)
  obtain ⟨a9, hA9, hF9⟩ := q_arrc (hWd _ q_acl.2.1)
  obtain ⟨a10, hA10, hF10⟩ := q_arrc (hWd _ q_acl.2.2)
  obtain ⟨a11, hA11, hF11⟩ := q_arro (hts _ q_ao.1)
  obtain ⟨a12, hA12, hF12⟩ := q_arro (hts _ q_ao.2.2)
  obtain ⟨a13, hA13, hF13⟩ := q_arro (hts _ q_ao.2.1)
  obtain ⟨dC, dI, hK, d8, d9, d10, d11, d12, d13⟩ : ∃ (dC : Nat → ClassId) (dI : Nat → Nat → Nat), (∀ k, k < 8 → u_Kn s (qR k) (qT k) (qN k) (dC k) (dI k)) ∧ dC 8 = a8 ∧ dC 9 = a9 ∧ dC 10 = a10 ∧ dC 11 = a11 ∧ dC 12 = a12 ∧ dC 13 = a13 := by
    refine ⟨fun k => if k < 8 then (Classical.choose (hcl k)).1 else if k = 8 then a8 else if k = 9 then a9 else if k = 10 then a10 else if k = 11 then a11 else if k = 12 then a12 else a13, fun k => (Classical.choose (hcl k)).2, fun k hk => ?_, rfl, rfl, rfl, rfl, rfl, rfl⟩
    show u_Kn s (qR k) (qT k) (qN k) (if k < 8 then (Classical.choose (hcl k)).1 else if k = 8 then a8 else if k = 9 then a9 else if k = 10 then a10 else if k = 11 then a11 else if k = 12 then a12 else a13) (Classical.choose (hcl k)).2
    rw [if_pos hk]
    exact Classical.choose_spec (hcl k) hk
  obtain ⟨xl, hxl, hxv⟩ : ∃ xl : List Int32, xl.length = L ∧ ∀ j, j < L → xl[j]? = some (xs j) := ⟨(List.range L).map xs, by simp, fun j hj => by simp [hj]⟩
  obtain ⟨M', hex, hm1, hm2⟩ := hpure xl (by omega)
  obtain ⟨n, hn⟩ := qEx_iff.mp hex
  have hTab : qTab (qGof s.heap.size b t1 t2 t3 dC dI xl) s := by
    refine ⟨⟨fun k q hq => ?_, fun k q hq => ?_⟩, fun q hq => va_Nw.of rfl (hts _ (q_nm_ok q hq)), fun q hq => va_Nw.of rfl (hts _ (q_nf_ok q hq)), fun k hk => ?_, fun t g1 g2 => ?_, fun a ha => ?_, fun a ha => ?_⟩
    · have hk : k < 8 := (List.getElem?_eq_some_iff.mp hq).1
      have := qCl_at k hk
      rw [this] at hq
      cases hq
      exact hK k hk
    · match k with
      | 0 => cases hq; exact ⟨by show ArrOfT s (dC 8) _; rw [d8]; exact hA8, by show s.vm.findClass _ = some (dC 8); rw [d8]; exact hF8⟩
      | 1 => cases hq; exact ⟨by show ArrOfT s (dC 9) _; rw [d9]; exact hA9, by show s.vm.findClass _ = some (dC 9); rw [d9]; exact hF9⟩
      | 2 => cases hq; exact ⟨by show ArrOfT s (dC 10) _; rw [d10]; exact hA10, by show s.vm.findClass _ = some (dC 10); rw [d10]; exact hF10⟩
      | 3 => cases hq; exact ⟨by show ArrOfT s (dC 11) _; rw [d11]; exact hA11, by show va_RA s (dC 11) _; rw [d11]; exact hF11⟩
      | 4 => cases hq; exact ⟨by show ArrOfT s (dC 12) _; rw [d12]; exact hA12, by show va_RA s (dC 12) _; rw [d12]; exact hF12⟩
      | 5 => cases hq; exact ⟨by show ArrOfT s (dC 13) _; rw [d13]; exact hA13, by show va_RA s (dC 13) _; rw [d13]; exact hF13⟩
      | n + 6 => cases hq
    · rcases hk with rfl | rfl | rfl
      · exact va_AO.of (hts _ q_ao.1)
      · exact va_AO.of (hts _ q_ao.2.1)
      · exact va_AO.of (hts _ q_ao.2.2)
    · match t, g1, g2 with
      | 1, _, _ => exact hZ1
      | 2, _, _ => exact hZ2
      | 3, _, _ => exact hZ3
    · match a, ha with
      | 0, _ =>
        obtain ⟨scr, h1, h2, h3, h4, h5⟩ := hX
        have e : (xl.map Value.int).length = L := by simp [hxl]
        show va_T .int b (xl.map Value.int).length (fun j => (xl.map Value.int).getD j .null) _ s s.heap
        rw [e]
        refine ⟨scr, h1, h2, h3, by omega, by rw [h4], fun j hj => ?_, Nat.not_le.mpr hbl⟩
        rw [h5 j hj]
        simp [hxv j hj]
      | 1, _ => exact hT1
      | 2, _ => exact hT2
      | 3, _ => exact hT3
    · match a, ha with
      | 0, _ => simp [qGof, qInts]
      | 1, _ => show qInts (qF1.map Value.int) = true; decide
      | 2, _ => show qInts (qF2.map Value.int) = true; decide
      | 3, _ => show qInts (qF3.map Value.int) = true; decide
  have C : qCx (qGof s.heap.size b t1 t2 t3 dC dI xl) p room_1 s m #[Value.ref b] meth c 150 := ⟨hx, hb, hml, hown, hWd, hTab, fun h => (by cases h), ⟨by decide, by decide⟩, Nat.le_refl _⟩
  have hw := qWalk (qGof s.heap.size b t1 t2 t3 dC dI xl) l n 150 _ _ _ hn (fun n' _ => qMet (qGof s.heap.size b t1 t2 t3 dC dI xl) l n') (below := below) (e := e) (Q := lw_Z below #[Value.ref b] s) (N0 := 4) (S0 := 0) C ⟨Nat.le_refl _, Nat.le_refl _⟩ ⟨by show _ ≤ 600000; omega, by show _ ≤ 7302250; omega⟩
    (fun i k pc L st hst hi hdg => ?_)
  · rw [lg_entry_eq]
    have h1 := lv_entry ([.ref b]) (n := 10) (Nat.le_of_ble_eq_true rfl)
    have hL0 : qHas (qGof s.heap.size b t1 t2 t3 dC dI xl) ((lg_sl ([.ref b]) ++ List.replicate (10 - (lg_sl ([.ref b])).length) Slot.unset).toArray) [some (.ref 0), none, none, none, none, none, none, none, none, none] := by
      refine qHas.intro h1 rfl fun i v hi => ?_
      match i with
      | 0 => cases hi; exact List.mem_cons_self
      | 1 => cases hi
      | 2 => cases hi
      | 3 => cases hi
      | 4 => cases hi
      | 5 => cases hi
      | 6 => cases hi
      | 7 => cases hi
      | 8 => cases hi
      | 9 => cases hi
      | n + 10 => cases hi
    exact hw s.heap [] _ q_rep0 va_S.rf hL0 hml.symm
  · intro H locs ls hR hS hLs hll
    cases i with
    | ireturn =>
      simp only [qStepI] at hst
      split at hst
      rotate_left
      · cases hst
      rename_i hk
      subst hk
      split at hst
      rotate_left
      · cases hst
      rename_i v
      split at hst
      rotate_left
      · cases hst
      cases hst
      refine va_forget (fun q hq => hS.2.2 q hq) ?_
      refine W.widen (k := 600000) (n := 7302250) (by show M'.1.1 - 4 ≤ _; omega) (by show M'.1.2 - 0 ≤ _; omega) ?_
      exact lw_ret hx hb hr hlocks hdg
    | lreturn => simp only [qStepI] at hst; (repeat' (split at hst)) <;> cases hst
    | areturn => simp only [qStepI] at hst; (repeat' (split at hst)) <;> cases hst
    | return_ => simp only [qStepI] at hst; (repeat' (split at hst)) <;> cases hst
    | _ => cases hi
-- ===== the end of the skeleton, with its numbers =====
