/-! calls of the class's own methods, ends, and the walk by induction -/
section QD
variable {G : qG} {p : Program} {l : Launch} {e : Env} {R : Room} {s : State} {m : MethodId} {args : Array Value} {below : List Frame} {meth : Method} {c : Code} {Q : State → Prop} {z N0 S0 : Nat} {pc : Nat}
theorem qCall_some {y : Nat} {As rest : List Value} {L : qLo} {M : qHp} {q : Nat × List Value × qCf} (h : qCall z y As rest pc L M = some (.inr (.inl q))) : (qFr y + 1 ≤ qFr z ∧ 8 + (qL y + 11) + qWd y ≤ qWd z) ∧ (qSm rest ∧ (lg_sl As).length ≤ qL y) ∧ q = (y, As, (pc + 3, L, rest, M)) := by
  unfold qCall at h
  split at h
  · rename_i hc
    cases h
    exact ⟨hc.1, hc.2, rfl⟩
  · cases h
/-- behind a call -/
theorem qW_back {L : qLo} {rest : List Value} {y : Nat} {M M1 : qHp} {r : Option Value} {H : Heap} {locs : List Loc} {ls : Array Slot} {st0 : List Value} {v : Array Value}
    (run : va_Run p l e R s m args below meth c H locs (M.1.1 - N0) (M.1.2 - S0) (qMc y) (qMs y) (F0 m pc ls st0) (rest.map (cv G)) (qQc G r M1 v) (gA G))
    (hNN : N0 ≤ M.1.1 ∧ S0 ≤ M.1.2) (hc : M1.1 = (M.1.1 + qMc y, M.1.2 + qMs y)) (hR : qRep G M H) (hS : va_S (gA G) s.heap H locs) (hL : qHas G ls L) (hll : L.length = c.maxLocals)
    (kk : qWp G p l e R s m args below meth c Q N0 S0 (pc + 3, L, r.toList ++ rest, M1)) : W p l e R s m args below meth c H locs (M.1.1 - N0) (M.1.2 - S0) Q (F0 m pc ls st0) := by
  intro T hT X
  obtain ⟨w, st₀, t, T', L', h0, X', hL', e1, e2, ⟨ho, hRt, hF⟩, st⟩ := run T hT X
  have hw : w = r.map (cv G) := by cases ho; rfl
  subst hw
  have hS' : va_S (gA G) s.heap T'.heap (locs ++ L') := by
    obtain ⟨f1, f2⟩ := hF
    rw [h0] at f1 f2
    refine ⟨Nat.le_trans hS.1 (by rw [e1]; exact f1), fun q h1 h2 => ?_, fun q hq => ?_⟩
    · rw [e1, f2 q (Nat.lt_of_lt_of_le h1 hS.1) h2]
      exact hS.2.1 q h1 h2
    · rcases List.mem_append.mp hq with h | h
      · exact hS.2.2 q h
      · exact hL' q h
  have k1 := kk T'.heap (locs ++ L') ls (by rw [e1]; exact hRt) hS' hL hll
  have c1 : M1.1.1 - N0 = M.1.1 - N0 + qMc y := by rw [hc]; show M.1.1 + qMc y - N0 = _; omega
  have c2 : M1.1.2 - S0 = M.1.2 - S0 + qMs y := by rw [hc]; show M.1.2 + qMs y - S0 = _; omega
  have e5 : ((r.toList ++ rest).map (cv G)) = (r.map (cv G)).toList ++ rest.map (cv G) := by cases r <;> rfl
  dsimp only at k1
  rw [c1, c2, e5] at k1
  obtain ⟨t2, a1, b1⟩ := k1 T' rfl X'
  exact ⟨t2, st t2 a1, b1⟩
theorem qB_call {y idx : Nat} (hy : y < 148) (hts : ∀ w ∈ qW, w.before args s = true) (hl : Jvm.Cond.methodLink (qR (qO z)) idx (qY y) ∈ qW) (hR : qFr y + 1 ≤ R.frames ∧ 8 + (qL y + 11) + qWd y ≤ R.locals) : CallB R s args (qR (qO z)) idx (qY y) (qB y) (qL y) (qRt y) (qCw y :: qW) (qRm y) (qMc y) (qMs y) (qA y) := by
  obtain ⟨y1, y2, y3, y4, y5, -⟩ := q_y y hy
  exact callB_of (qA y) hts (qW_in hy) rfl rfl rfl (by rw [y1]; exact hts _ (q_ini _ y5)) (hts _ hl) ⟨y2, y3, y4⟩ hR
theorem sd_call {i : Instr} {k : Nat} {L : qLo} {st : List Value} {M : qHp} {y : Nat} {As : List Value} {f : qCf} {M1 : qHp} {r : Option Value} (C : qCx G p R s m args meth c z) (hNN : N0 ≤ M.1.1 ∧ S0 ≤ M.1.2) (h : qStepI z i k pc L st M = some (.inr (.inl (y, As, f)))) (hi : qInv i = true) (hdg : decode (qB z) pc = .ok (i, k))
    (hM : y < 148 → (lg_sl As).length ≤ qL y → Met l (qY y) (qCw y :: qW) (qRm y) (qPc G As M) (qQc G r M1) (qMc y) (qMs y) (gA G)) (hc : M1.1 = (M.1.1 + qMc y, M.1.2 + qMs y)) (hB : M1.1.1 - N0 ≤ R.cells ∧ M1.1.2 - S0 ≤ R.slots)
    (kk : qWp G p l e R s m args below meth c Q N0 S0 (f.1, f.2.1, r.toList ++ f.2.2.1, M1)) : qWp G p l e R s m args below meth c Q N0 S0 (pc, L, st, M) := by
  obtain ⟨hx, hb, hml, hown, hts, hTab, hin, hRm, hbase⟩ := C
  have hB2 : M.1.1 - N0 + qMc y ≤ R.cells ∧ M.1.2 - S0 + qMs y ≤ R.slots := by
    rw [hc] at hB
    have q1 : M.1.1 + qMc y - N0 ≤ R.cells ∧ M.1.2 + qMs y - S0 ≤ R.slots := hB
    omega
  have pre : ∀ {H : Heap} {locs : List Loc}, qRep G M H → va_S (gA G) s.heap H locs → ∀ U : State, U.heap = H → s.WarmedH U.vm → qPc G As M (As.map (cv G)).toArray U := fun {H locs} hR hS U hU hW =>
    ⟨rfl, by rw [hU]; exact hR, hTab.mv hW (fun q q1 q2 => by rw [hU]; exact hS.2.1 q q1 q2)⟩
  cases i with
  | invokevirtual i =>
    simp only [qStepI] at h
    split at h
    rotate_left
    · cases h
    rename_i hk
    subst hk
    obtain ⟨⟨b, y'⟩, hq, h⟩ := Option.bind_eq_some_iff.mp h
    simp only at h
    split at h
    rotate_left
    · cases h
    rename_i hcn
    obtain ⟨rfl, hy, hK0⟩ := hcn
    split at h
    rotate_left
    · cases h
    rename_i a rest hdr
    obtain ⟨⟨t, vs⟩, hMa, h⟩ := Option.bind_eq_some_iff.mp h
    simp only at h
    split at h
    rotate_left
    · cases h
    rename_i hto
    obtain ⟨rfl, h8⟩ := hto
    obtain ⟨hrm, ⟨hrest, hsl⟩, he⟩ := qCall_some h
    cases he
    have hlk : Jvm.Cond.methodLink (qR (qO z)) i (qY y) ∈ qW := by
      rcases qMth_ok hq with ⟨-, -, hlk⟩ | ⟨q, -⟩ | ⟨-, q, -⟩ | ⟨-, q, -⟩
      · exact hlk
      · cases q
      · omega
      · omega
    intro H locs ls hR hS hL hll
    dsimp only at hR hS hL hll ⊢
    have hc0 := hR.at hMa
    unfold qCell at hc0
    rw [if_pos h8] at hc0
    obtain ⟨cell, g1, g2, g3, -⟩ := hc0.2
    have hfc := (hTab.1.1 (qO y) _ (qCl_at _ h8)).2.1
    have hlen : qA y < st.length := by
      rcases Nat.lt_or_ge (qA y) st.length with q | q
      · exact q
      · rw [List.drop_eq_nil_of_le q] at hdr; cases hdr
    have hst : st.map (cv G) = (((st.take (qA y)).reverse).map (cv G)).reverse ++ .ref (adr G a) :: rest.map (cv G) := by
      rw [← List.map_reverse, List.reverse_reverse]
      show _ = (st.take (qA y)).map (cv G) ++ (Value.ref a :: rest).map (cv G)
      rw [← hdr, ← List.map_append, List.take_append_drop]
    refine qW_back (r := r) (M1 := M1) (va_runV (C := qR (qO y)) (b := adr G a) (As := (st.take (qA y)).reverse.map (cv G)) (n := qA y) (nL := c.maxLocals) ⟨hx, hb, rfl, hown, hts⟩ (hM hy hsl) ⟨qB_call hy hts hlk ⟨by omega, by omega⟩, ?_, hts _ (q_sel y (by omega) hK0)⟩ ⟨qPc_blind, ⟨cell, g1, by rw [g3]; rfl, by rw [g2]; exact hfc⟩, pre hR hS⟩ rfl ?_ (by rw [← hll]; exact hL.1) hst (cv_room G hrest) hdg hB2) hNN hc hR hS hL hll kk
    · have := q_kw y (by omega)
      unfold qKw at this
      rw [if_neg (by omega)] at this
      exact hts _ this
    · rw [List.length_map, List.length_reverse, List.length_take]; omega
  | invokestatic i =>
    simp only [qStepI] at h
    split at h
    rotate_left
    · cases h
    rename_i hk
    subst hk
    obtain ⟨⟨b, y'⟩, hq, h⟩ := Option.bind_eq_some_iff.mp h
    simp only at h
    split at h
    rotate_left
    · cases h
    rename_i hbf
    subst hbf
    split at h
    · split at h
      · split at h <;> cases h
      · cases h
    · split at h
      · split at h
        · split at h <;> cases h
        · cases h
      · split at h
        · split at h
          · split at h
            · obtain ⟨M2, -, h⟩ := Option.bind_eq_some_iff.mp h
              cases h
            · cases h
          · cases h
        · split at h
          rotate_left
          · cases h
          rename_i n1 n2 n3 hcn
          obtain ⟨hy, hK1, hlen⟩ := hcn
          obtain ⟨hrm, ⟨hrest, hsl⟩, he⟩ := qCall_some h
          cases he
          have hlk : Jvm.Cond.methodLink (qR (qO z)) i (qY y) ∈ qW := by
            rcases qMth_ok hq with ⟨-, -, hlk⟩ | ⟨q, -⟩ | ⟨-, q, -⟩ | ⟨-, q, -⟩
            · exact hlk
            · cases q
            · omega
            · omega
          intro H locs ls hR hS hL hll
          dsimp only at hR hS hL hll ⊢
          have hst : st.map (cv G) = (((st.take (qA y)).reverse).map (cv G)).reverse ++ (st.drop (qA y)).map (cv G) := by
            rw [← List.map_reverse, List.reverse_reverse, ← List.map_append, List.take_append_drop]
          refine qW_back (r := r) (M1 := M1) (va_runS (As := (st.take (qA y)).reverse.map (cv G)) (n := qA y) (nL := c.maxLocals) ⟨hx, hb, rfl, hown, hts⟩ (hM hy hsl) ⟨qB_call hy hts hlk ⟨by omega, by omega⟩, ?_⟩ ⟨qPc_blind, pre hR hS⟩ rfl ?_ (by rw [← hll]; exact hL.1) hst (cv_room G hrest) hdg hB2) hNN hc hR hS hL hll kk
          · have := q_kw y (by omega)
            unfold qKw at this
            rw [if_pos hK1] at this
            exact hts _ this
          · rw [List.length_map, List.length_reverse, List.length_take]; omega
  | invokespecial i =>
    simp only [qStepI] at h
    split at h
    rotate_left
    · cases h
    rename_i hk
    subst hk
    obtain ⟨⟨b, y'⟩, hq, h⟩ := Option.bind_eq_some_iff.mp h
    simp only at h
    split at h
    · split at h
      · split at h <;> cases h
      · cases h
    · split at h
      rotate_left
      · cases h
      rename_i hn2 hcn
      obtain ⟨hy, hK2⟩ := hcn
      split at h
      rotate_left
      · cases h
      rename_i a rest hdr
      obtain ⟨hrm, ⟨hrest, hsl⟩, he⟩ := qCall_some h
      cases he
      intro H locs ls hR hS hL hll
      dsimp only at hR hS hL hll ⊢
      have hlen : qA y < st.length := by
        rcases Nat.lt_or_ge (qA y) st.length with q | q
        · exact q
        · rw [List.drop_eq_nil_of_le q] at hdr; cases hdr
      have hst : st.map (cv G) = (((st.take (qA y)).reverse).map (cv G)).reverse ++ .ref (adr G a) :: rest.map (cv G) := by
        rw [← List.map_reverse, List.reverse_reverse]
        show _ = (st.take (qA y)).map (cv G) ++ (Value.ref a :: rest).map (cv G)
        rw [← hdr, ← List.map_append, List.take_append_drop]
      obtain ⟨y1, y2, y3, y4, y5, y6, y7⟩ := q_y y hy
      have hrt := q_rt2 y hy hK2
      have hinit : (qY y).name = "<init>" := by
        rw [hK2] at y7
        simpa using y7.symm
      have hinst : (Jvm.Cond.instanceMethod (qY y)).before args s = true := by
        have := q_kw y (by omega)
        unfold qKw at this
        rw [if_neg (by omega)] at this
        exact hts _ this
      have hMet := hM hy hsl
      have hlenA : ((st.take (qA y)).reverse.map (cv G)).length = qA y := by
        rw [List.length_map, List.length_reverse, List.length_take]; omega
      have hcwd : qCw y = .code (qY y) (qB y) (qL y) none := by unfold qCw; rw [hrt]
      rw [hcwd] at hMet
      rcases qMth_ok hq with ⟨-, -, hlk⟩ | ⟨-, hne⟩ | ⟨-, q, -⟩ | ⟨-, q, -⟩
      · have hcb := qB_call (z := z) (R := R) hy hts hlk ⟨by omega, by omega⟩
        rw [hcwd, hrt] at hcb
        exact qW_back (r := r) (M1 := M1) (va_runI (b := adr G a) (As := (st.take (qA y)).reverse.map (cv G)) (n := qA y) (nL := c.maxLocals) ⟨hx, hb, rfl, hown, hts⟩ hMet ⟨hcb, hinit, hinst⟩ ⟨qPc_blind, pre hR hS⟩ rfl hlenA (by rw [← hll]; exact hL.1) hst (cv_room G hrest) hdg hB2) hNN hc hR hS hL hll kk
      · have hnw := hTab.2.1 _ hne
        have hcb : va_CN R s args (qR (qO z)) i (qY y) "LetterRuns" (qB y) (qL y) none (.code (qY y) (qB y) (qL y) none :: qW) (qRm y) (qMc y) (qMs y) (qA y) :=
          va_cnB (qA y) hts (by rw [← hcwd]; exact qW_in hy) rfl rfl rfl hnw (by rw [y1]; exact hts _ (q_ini _ y5)) ⟨y2, y3, y4⟩ ⟨by show qFr y + 1 ≤ R.frames; omega, by show 8 + (qL y + 11) + qWd y ≤ R.locals; omega⟩
        exact qW_back (r := r) (M1 := M1) (va_runIN (b := adr G a) (As := (st.take (qA y)).reverse.map (cv G)) (n := qA y) (nL := c.maxLocals) ⟨hx, hb, rfl, hown, hts⟩ hMet ⟨hcb, hinit, hinst⟩ ⟨qPc_blind, pre hR hS⟩ rfl hlenA (by rw [← hll]; exact hL.1) hst (cv_room G hrest) hdg hB2) hNN hc hR hS hL hll kk
      · omega
      · omega
  | _ => cases hi
theorem sd_ret {i : Instr} {k : Nat} {L : qLo} {st : List Value} {M : qHp} {v : Option Value} {mc ms : Nat} {Qc : Array Value → State → Outcome → State → Prop} (C : qCx G p R s m args meth c z) (h : qStepI z i k pc L st M = some (.inr (.inr v))) (hi : qEnd i = true) (hdg : decode (qB z) pc = .ok (i, k)) (hr : meth.sig.returnType = qRt z) (hlocks : meth.locks = false)
    (hq : ∀ (H : Heap) (locs : List Loc) (t : State), qRep G M H → va_S (gA G) s.heap H locs → t.heap = H → Qc args s (.returned (v.map (cv G))) t) (hcs : M.1.1 - N0 = mc ∧ M.1.2 - S0 = ms) : qWp G p l e R s m args below meth c (MQ below Qc args s mc ms (gA G)) N0 S0 (pc, L, st, M) := by
  obtain ⟨hx, hb, hml, hown, hts, hTab, hin, hRm, hbase⟩ := C
  obtain ⟨rfl, rfl⟩ := hcs
  cases i with
  | ireturn =>
    simp only [qStepI] at h
    split at h
    rotate_left
    · cases h
    rename_i hk
    subst hk
    split at h
    rotate_left
    · cases h
    rename_i x
    split at h
    rotate_left
    · cases h
    rename_i hrk
    cases h
    intro H locs ls hR hS hL hll
    unfold qRk at hrk
    split at hrk
    · rename_i e; exact W.iret (v := x) hx hb (hr.trans e) (fun t ht hW => hq H locs t hR hS ht) hS.2.2 hdg hlocks
    · rename_i e
      refine W.zret (v := x) (ty := .boolean) hx hb (hr.trans e) ?_ (fun t ht hW => hq H locs t hR hS ht) hS.2.2 hdg hlocks
      have : x = 0 ∨ x = 1 := by simpa using hrk
      rcases this with rfl | rfl <;> rfl
    · rename_i e
      refine W.zret (v := x) (ty := .char) hx hb (hr.trans e) ?_ (fun t ht hW => hq H locs t hR hS ht) hS.2.2 hdg hlocks
      exact (qFit_ok (G := G) (ty := .char) (v := .int x) hrk).1
    · cases hrk
  | lreturn =>
    simp only [qStepI] at h
    split at h
    rotate_left
    · cases h
    rename_i hk
    subst hk
    split at h
    rotate_left
    · cases h
    rename_i x
    split at h
    rotate_left
    · cases h
    rename_i hrk
    cases h
    intro H locs ls hR hS hL hll
    exact W.lret (v := x) hx hb (hr.trans hrk) (fun t ht hW => hq H locs t hR hS ht) hS.2.2 hdg hlocks
  | areturn =>
    simp only [qStepI] at h
    split at h
    rotate_left
    · cases h
    rename_i hk
    subst hk
    split at h
    · rename_i x
      split at h
      rotate_left
      · cases h
      rename_i hrk
      cases h
      intro H locs ls hR hS hL hll
      obtain ⟨n, hn⟩ : ∃ n, qRt z = some (.object n) := by
        unfold qRo at hrk
        split at hrk
        · rename_i n e; exact ⟨n, e⟩
        · cases hrk
      exact W.aret (v := .ref (adr G x)) hx hb (hr.trans hn) (Or.inl ⟨_, rfl⟩) (Or.inr ⟨_, rfl⟩) (fun t ht hW => hq H locs t hR hS ht) hS.2.2 hdg hlocks
    · split at h
      rotate_left
      · cases h
      rename_i hrk
      cases h
      intro H locs ls hR hS hL hll
      obtain ⟨n, hn⟩ : ∃ n, qRt z = some (.object n) := by
        unfold qRo at hrk
        split at hrk
        · rename_i n e; exact ⟨n, e⟩
        · cases hrk
      exact W.aret (v := .null) hx hb (hr.trans hn) (Or.inl ⟨_, rfl⟩) (Or.inl rfl) (fun t ht hW => hq H locs t hR hS ht) hS.2.2 hdg hlocks
    · cases h
  | return_ =>
    simp only [qStepI] at h
    split at h
    rotate_left
    · cases h
    rename_i hk
    subst hk
    split at h
    rotate_left
    · cases h
    split at h
    rotate_left
    · cases h
    rename_i hrk
    cases h
    intro H locs ls hR hS hL hll
    exact W.vret hx hb (hr.trans hrk) (fun t ht hW => hq H locs t hR hS ht) hS.2.2 hdg hlocks
  | _ => cases hi
theorem sd_all {i : Instr} {k : Nat} {L : qLo} {st : List Value} {M : qHp} {f : qCf} (C : qCx G p R s m args meth c z) (hNN : N0 ≤ M.1.1 ∧ S0 ≤ M.1.2) (hB : f.2.2.2.1.1 - N0 ≤ R.cells ∧ f.2.2.2.1.2 - S0 ≤ R.slots) (h : qStepI z i k pc L st M = some (.inl f)) (hdg : decode (qB z) pc = .ok (i, k)) (kk : qWp G p l e R s m args below meth c Q N0 S0 f) : qWp G p l e R s m args below meth c Q N0 S0 (pc, L, st, M) := by
  cases i with
  | iconst n => exact sd_iconst C h hdg kk
  | bipush n => exact sd_bipush C h hdg kk
  | sipush n => exact sd_sipush C h hdg kk
  | lconst n => exact sd_lconst C h hdg kk
  | aconst_null => exact sd_aconst_null C h hdg kk
  | ldc i => exact sd_ldc C h hdg kk
  | ldc2_w i => exact sd_ldc2_w C h hdg kk
  | iload i => exact sd_iload C h hdg kk
  | iload_n i => exact sd_iload_n C h hdg kk
  | lload i => exact sd_lload C h hdg kk
  | lload_n i => exact sd_lload_n C h hdg kk
  | aload i => exact sd_aload C h hdg kk
  | aload_n i => exact sd_aload_n C h hdg kk
  | istore i => exact sd_istore C h hdg kk
  | istore_n i => exact sd_istore_n C h hdg kk
  | lstore i => exact sd_lstore C h hdg kk
  | lstore_n i => exact sd_lstore_n C h hdg kk
  | astore i => exact sd_astore C h hdg kk
  | astore_n i => exact sd_astore_n C h hdg kk
  | iinc i n => exact sd_iinc C h hdg kk
  | iadd => exact sd_iadd C h hdg kk
  | isub => exact sd_isub C h hdg kk
  | imul => exact sd_imul C h hdg kk
  | iand => exact sd_iand C h hdg kk
  | idiv => exact sd_idiv C h hdg kk
  | irem => exact sd_irem C h hdg kk
  | lsub => exact sd_lsub C h hdg kk
  | land => exact sd_land C h hdg kk
  | lor => exact sd_lor C h hdg kk
  | lshl => exact sd_lshl C h hdg kk
  | lshr => exact sd_lshr C h hdg kk
  | lushr => exact sd_lushr C h hdg kk
  | lcmp => exact sd_lcmp C h hdg kk
  | i2l => exact sd_i2l C h hdg kk
  | l2i => exact sd_l2i C h hdg kk
  | i2c => exact sd_i2c C h hdg kk
  | dup => exact sd_dup C h hdg kk
  | dup2 => exact sd_dup2 C h hdg kk
  | dup_x1 => exact sd_dup_x1 C h hdg kk
  | pop => exact sd_pop C h hdg kk
  | ifnull o => exact sd_ifnull C h hdg kk
  | ifnonnull o => exact sd_ifnonnull C h hdg kk
  | goto o => exact sd_goto C h hdg kk
  | tableswitch d lo hi o => exact sd_tableswitch C h hdg kk
  | lookupswitch d o => exact sd_lookupswitch C h hdg kk
  | getfield i => exact sd_getfield C h hdg kk
  | putfield i => exact sd_putfield C h hdg kk
  | getstatic i => exact sd_getstatic C h hdg kk
  | iaload => exact sd_iaload C h hdg kk
  | baload => exact sd_baload C h hdg kk
  | caload => exact sd_caload C h hdg kk
  | aaload => exact sd_aaload C h hdg kk
  | iastore => exact sd_iastore C h hdg kk
  | bastore => exact sd_bastore C h hdg kk
  | castore => exact sd_castore C h hdg kk
  | aastore => exact sd_aastore C h hdg kk
  | arraylength => exact sd_arraylength C h hdg kk
  | invokespecial i => exact sd_invokespecial C h hdg kk
  | ifCond cd o => cases cd with
    | eq => exact sd_ifCond_eq C h hdg kk
    | ne => exact sd_ifCond_ne C h hdg kk
    | lt => exact sd_ifCond_lt C h hdg kk
    | ge => exact sd_ifCond_ge C h hdg kk
    | gt => exact sd_ifCond_gt C h hdg kk
    | le => exact sd_ifCond_le C h hdg kk
  | if_icmp cd o => cases cd with
    | eq => exact sd_if_icmp_eq C h hdg kk
    | ne => exact sd_if_icmp_ne C h hdg kk
    | lt => exact sd_if_icmp_lt C h hdg kk
    | ge => exact sd_if_icmp_ge C h hdg kk
    | gt => exact sd_if_icmp_gt C h hdg kk
    | le => exact sd_if_icmp_le C h hdg kk
  | newarray t => exact sd_newarray C hNN hB h hdg kk
  | anewarray i => exact sd_anewarray C hNN hB h hdg kk
  | new i => exact sd_new C hNN hB h hdg kk
  | invokestatic i => exact sd_invokestatic C hNN hB h hdg kk
  | invokevirtual i => exact (sd_invokevirtual h).elim
  | ireturn => simp only [qStepI] at h; (repeat' (split at h)) <;> cases h
  | lreturn => simp only [qStepI] at h; (repeat' (split at h)) <;> cases h
  | areturn => simp only [qStepI] at h; (repeat' (split at h)) <;> cases h
  | return_ => simp only [qStepI] at h; (repeat' (split at h)) <;> cases h
  | _ => cases h
theorem qFetch_ok {q : Instr × Nat} (h : qFetch z pc = some q) : decode (qB z) pc = .ok q := by
  unfold qFetch at h
  split at h
  · rename_i e; cases h; exact e
  · cases h
end QD
/-- ALL TOGETHER: where the interpreter comes to an end, the machine does, whatever waits for it there -/
theorem qWalk (G : qG) (l : Launch) : ∀ (n z : Nat) (f : qCf) (r : Option Value) (M' : qHp), qExec n z f = some (r, M') →
    (∀ (n' : Nat), n' < n → ∀ (y : Nat) (As : List Value) (M1 M2 : qHp) (r2 : Option Value), y < 148 → (lg_sl As).length ≤ qL y → qExec n' y (0, qEntry y As, [], M1) = some (r2, M2) → M2.1 = (M1.1.1 + qMc y, M1.1.2 + qMs y) → Met l (qY y) (qCw y :: qW) (qRm y) (qPc G As M1) (qQc G r2 M2) (qMc y) (qMs y) (gA G)) →
    ∀ {p : Program} {e : Env} {R : Room} {s : State} {m : MethodId} {args : Array Value} {below : List Frame} {meth : Method} {c : Code} {Q : State → Prop} {N0 S0 : Nat}, qCx G p R s m args meth c z → (N0 ≤ f.2.2.2.1.1 ∧ S0 ≤ f.2.2.2.1.2) → (M'.1.1 - N0 ≤ R.cells ∧ M'.1.2 - S0 ≤ R.slots) →
    (∀ (i : Instr) (k pc : Nat) (L : qLo) (st : List Value), qStepI z i k pc L st M' = some (.inr (.inr r)) → qEnd i = true → decode (qB z) pc = .ok (i, k) → qWp G p l e R s m args below meth c Q N0 S0 (pc, L, st, M')) → qWp G p l e R s m args below meth c Q N0 S0 f := by
  intro n
  induction n with
  | zero => intro z f r M' h; simp [qExec] at h
  | succ n ih =>
    intro z f r M' h IH p e R s m args below meth c Q N0 S0 C hNN hB hend
    have hup := qExec_up _ _ _ _ _ h
    rw [qExec] at h
    cases hs : qStep z f with
    | none => rw [hs] at h; cases h
    | some q =>
      rw [hs] at h
      unfold qStep at hs
      obtain ⟨⟨i, k⟩, hf, hs⟩ := Option.bind_eq_some_iff.mp hs
      have hdg := qFetch_ok hf
      obtain ⟨pc, L, st, M⟩ := f
      rcases q with f' | ⟨y, As, f'⟩ | v
      · simp only at h
        split at h
        rotate_left
        · cases h
        rename_i hle
        have hst := qFlt_inl hs
        have hup2 := qExec_up _ _ _ _ _ h
        exact sd_all C hNN (by omega) hst hdg (ih z f' r M' h (fun n' hn' => IH n' (by omega)) C (by simp only at hle hNN; omega) hB hend)
      · simp only at h
        obtain ⟨⟨r1, M1⟩, hq, hk⟩ := Option.bind_eq_some_iff.mp h
        split at hk
        rotate_left
        · cases hk
        rename_i he
        obtain ⟨hst, hi⟩ := qFlt_call hs
        have hup2 := qExec_up _ _ _ _ _ hk
        simp only at he hup2
        refine sd_call (r := r1) (M1 := M1) C hNN hst hi hdg (fun hy hsl => IH n (by omega) y As M M1 r1 hy hsl hq he) he (by omega) ?_
        exact ih z _ r M' hk (fun n' hn' => IH n' (by omega)) C (by rw [he]; simp only at hNN ⊢; omega) hB hend
      · cases h
        obtain ⟨hst, hi⟩ := qFlt_end hs
        exact hend i k pc L st hst hi hdg
/-- every method's contract out of the interpreter -/
theorem qMet (G : qG) (l : Launch) : ∀ (n y : Nat) (As : List Value) (M1 M2 : qHp) (r2 : Option Value), y < 148 → (lg_sl As).length ≤ qL y → qExec n y (0, qEntry y As, [], M1) = some (r2, M2) → M2.1 = (M1.1.1 + qMc y, M1.1.2 + qMs y) → Met l (qY y) (qCw y :: qW) (qRm y) (qPc G As M1) (qQc G r2 M2) (qMc y) (qMs y) (gA G) := by
  intro n
  induction n using Nat.strongRecOn with
  | _ n ih =>
    intro y As M1 M2 r2 hy hsl hex hc
    obtain ⟨y1, y2, y3, y4, y5, y6, y7⟩ := q_y y hy
    refine Met.ofW (cc := qB y) (maxL := qL y) (ret := qRt y) y6 rfl ?_
    intro p e s m args below meth c s₁ B hml hv
    obtain ⟨rfl, hR, hTab⟩ := hv
    have hts := atoms_spec (ws := qCw y :: qW) B.pre
    have hown : s.vm.findClass (qR (qO y)) = some m.cls := by rw [← y1]; exact findClass_of_methodNamed B.named
    have hbase : gB G ≤ s.heap.size := by have := hR.1; have := hR.2.1; omega
    have C : qCx G p (headSpec (qCw y :: qW) (qRm y)).room s m ((As.map (cv G)).toArray) meth c y :=
      ⟨B.exec, B.bytes, hml, hown, fun w hw => hts w (List.mem_cons_of_mem _ hw), hTab, fun hk => by
        rw [hk] at y7
        have h1 : (qY y).name = "<init>" := by simpa using y7.symm
        rw [← h1]; exact (name_of_methodNamed B.named B.method).1, ⟨Nat.le_refl _, Nat.le_refl _⟩, hbase⟩
    rw [lg_entry_eq]
    obtain ⟨hL, hll⟩ := qHas.entry (G := G) (z := y) hsl
    have hcM : M2.1.1 = M1.1.1 + qMc y ∧ M2.1.2 = M1.1.2 + qMs y := by rw [hc]; exact ⟨rfl, rfl⟩
    have hw := qWalk G l n y (0, qEntry y As, [], M1) r2 M2 hex (fun n' hn' => ih n' hn') (below := below) (e := e) (Q := MQ below (qQc G r2 M2) ((As.map (cv G)).toArray) s (qMc y) (qMs y) (gA G)) (N0 := M1.1.1) (S0 := M1.1.2) C ⟨Nat.le_refl _, Nat.le_refl _⟩ ⟨by show _ ≤ qMc y; omega, by show _ ≤ qMs y; omega⟩
      (fun i k pc L st hst hi hdg => sd_ret C hst hi hdg B.returns B.notSynchronized (fun H locs t hR' hS' ht => ⟨rfl, by rw [ht]; exact hR', hS'.F ht⟩) ⟨by omega, by omega⟩)
    have hw2 := hw s.heap [] _ hR va_S.rf hL (by show _ = c.maxLocals; rw [hml]; exact hll)
    simp only [Nat.sub_self] at hw2
    exact hw2
