/-! the machine follows: what is made; the JDK's few; calls; ends; all together -/
theorem qTab.mv {G : qG} {u U : State} (hW : u.WarmedH U.vm) (hk : ∀ q : Nat, q < u.heap.size → ¬ gA G q → U.heap[q]? = u.heap[q]?) (h : qTab G u) : qTab G U := by
  obtain ⟨h1, h2, h3, h4, h5, h6, h7⟩ := h
  exact ⟨h1.moved hW.alike, fun q hq => va_Nw.warmM hW (h2 q hq), fun q hq => va_Nw.warmF hW (h3 q hq), fun c hc => (h4 c hc).moved hW.alike, fun t a b => ((h5 t a b).kept hk).moved hW.alike, fun a ha => ((h6 a ha).kept hk).moved hW.alike, h7⟩
def qPc (G : qG) (As : List Value) (M : qHp) : Array Value → State → Prop := fun v U => v = (As.map (cv G)).toArray ∧ qRep G M U.heap ∧ qTab G U
def qQc (G : qG) (r : Option Value) (M : qHp) : Array Value → State → Outcome → State → Prop := fun _ st o t => o = .returned (r.map (cv G)) ∧ qRep G M t.heap ∧ va_F (gA G) st t
theorem qPc_blind {G : qG} {As : List Value} {M : qHp} : FrameBlind (qPc G As M) := by
  intro a U g mk h
  obtain ⟨h1, h2, h3⟩ := h
  exact ⟨h1, h2, h3.mv (State.WarmedH.refl U) (fun _ _ _ => rfl)⟩
theorem qW_in {y : Nat} (hy : y < 148) : GoodIn qW (qCw y :: qW) := by
  intro w hw
  rcases List.mem_cons.mp hw with rfl | hw
  · exact ⟨q_cw y hy, qW_good (q_cw y hy)⟩
  · exact ⟨hw, qW_good hw⟩
theorem q_rt2 : ∀ y, y < 148 → qK y = 2 → qRt y = none := by
  have h : (List.range 148).all (fun y => !(qK y == 2) || decide (qRt y = none)) = true := by decide +kernel
  intro y hy hk
  have := List.all_eq_true.mp h y (List.mem_range.mpr hy)
  simpa [hk] using this
theorem cv_def (G : qG) (ty : FieldType) : cv G (defaultValue ty) = defaultValue ty := by cases ty <;> rfl
section QC
variable {G : qG} {p : Program} {l : Launch} {e : Env} {R : Room} {s : State} {m : MethodId} {args : Array Value} {below : List Frame} {meth : Method} {c : Code} {H : Heap} {locs : List Loc} {Q : State → Prop} {z N0 S0 : Nat} {pc : Nat} {ls : Array Slot}
theorem qS_push {H1 : Heap} (hS : va_S (gA G) s.heap H locs) (hz : H1.size = H.size + 1) (ho : ∀ q : Nat, q < H.size → H1[q]? = H[q]?) : va_S (gA G) s.heap H1 locs :=
  ⟨Nat.le_trans hS.1 (by omega), fun q h1 h2 => (ho q (Nat.lt_of_lt_of_le h1 hS.1)).trans (hS.2.1 q h1 h2), hS.2.2⟩
theorem qRep_arr {M : qHp} {H1 : Heap} {t n : Nat} {d : Value} (hR : qRep G M H) (ht : 8 ≤ t ∧ t < 14) (hd : cv G d = d) (o1 : H1[adr G M.1.1]? = some (arrV (G.2.1.1 t) n (fun _ => d))) (o2 : H1.size = adr G M.1.1 + 1) (o3 : ∀ q, q < adr G M.1.1 → H1[q]? = H[q]?) : qRep G (hN M (t, List.replicate n d)) H1 := by
  refine hR.push (by show t < 14; omega) (by rw [o2, hR.new]) (fun q hq => o3 q (by rw [hR.new]; exact hq)) ?_
  unfold qCell
  rw [if_neg (by show ¬ t < 8; omega), if_neg (by show ¬ t = 14; omega)]
  show H1[adr G M.1.1]? = some (arrV (G.2.1.1 t) (List.replicate n d).length (qVf G (List.replicate n d)))
  rw [o1, List.length_replicate]
  congr 1
  refine arrV_congr fun j hj => ?_
  rw [qVf_at (v := d) (by simp [hj]), hd]
theorem sd_newarray {t : ArrayType} {k : Nat} {L : qLo} {st : List Value} {M : qHp} {f : qCf} (C : qCx G p R s m args meth c z) (hNN : N0 ≤ M.1.1 ∧ S0 ≤ M.1.2) (hB : f.2.2.2.1.1 - N0 ≤ R.cells ∧ f.2.2.2.1.2 - S0 ≤ R.slots) (h : qStepI z (.newarray t) k pc L st M = some (.inl f)) (hdg : decode (qB z) pc = .ok (.newarray t, k)) (kk : qWp G p l e R s m args below meth c Q N0 S0 f) : qWp G p l e R s m args below meth c Q N0 S0 (pc, L, st, M) := by
  obtain ⟨hx, hb, hml, hown, hts, hTab, hin, hRm, hbase⟩ := C
  simp only [qStepI] at h
  split at h
  rotate_left
  · cases h
  rename_i hk
  subst hk
  split at h
  rotate_left
  · cases h
  rename_i n st
  split at h
  rotate_left
  · cases h
  rename_i hn
  split at h
  · cases h
    intro H locs ls hR hS hL hll
    try dsimp only at hR hS hL hll hB ⊢
    have hB2 : M.1.1 + 1 - N0 ≤ R.cells ∧ M.1.2 + (List.replicate n.toNatClampNeg (Value.int 0)).length - S0 ≤ R.slots := hB
    rw [List.length_replicate] at hB2
    refine va_newaK (atype := .int) hx hb (hts _ q_acl.1) rfl hdg rfl hn.1 rfl (by show n.toNatClampNeg * 4 ≤ 536870912; omega) (by omega) (by omega) hR.new.symm (fun H1 cA o1 o2 o3 oA oN => ?_)
    have hid : cA = G.2.1.1 8 := Option.some.inj (oN.symm.trans (hTab.1.2 0 _ rfl).2)
    subst hid
    refine W.cs (cells' := (hN M (8, List.replicate n.toNatClampNeg (.int 0))).1.1 - N0) (slots' := (hN M (8, List.replicate n.toNatClampNeg (.int 0))).1.2 - S0) (by show M.1.1 - N0 + 1 = M.1.1 + 1 - N0; omega) (by show M.1.2 - S0 + _ = M.1.2 + (List.replicate n.toNatClampNeg (Value.int 0)).length - S0; rw [List.length_replicate]; omega) ?_
    exact kk H1 locs ls (qRep_arr hR ⟨by omega, by omega⟩ rfl o1 o2 o3) (qS_push hS (by rw [o2, hR.new]) (fun q hq => o3 q (by rw [hR.new]; exact hq))) hL hll
  · cases h
    intro H locs ls hR hS hL hll
    try dsimp only at hR hS hL hll hB ⊢
    have hB2 : M.1.1 + 1 - N0 ≤ R.cells ∧ M.1.2 + (List.replicate n.toNatClampNeg (Value.int 0)).length - S0 ≤ R.slots := hB
    rw [List.length_replicate] at hB2
    refine va_newaK (atype := .boolean) hx hb (hts _ q_acl.2.1) rfl hdg rfl hn.1 rfl (by show n.toNatClampNeg * 1 ≤ 536870912; omega) (by omega) (by omega) hR.new.symm (fun H1 cA o1 o2 o3 oA oN => ?_)
    have hid : cA = G.2.1.1 9 := Option.some.inj (oN.symm.trans (hTab.1.2 1 _ rfl).2)
    subst hid
    refine W.cs (cells' := (hN M (9, List.replicate n.toNatClampNeg (.int 0))).1.1 - N0) (slots' := (hN M (9, List.replicate n.toNatClampNeg (.int 0))).1.2 - S0) (by show M.1.1 - N0 + 1 = M.1.1 + 1 - N0; omega) (by show M.1.2 - S0 + _ = M.1.2 + (List.replicate n.toNatClampNeg (Value.int 0)).length - S0; rw [List.length_replicate]; omega) ?_
    exact kk H1 locs ls (qRep_arr hR ⟨by omega, by omega⟩ rfl o1 o2 o3) (qS_push hS (by rw [o2, hR.new]) (fun q hq => o3 q (by rw [hR.new]; exact hq))) hL hll
  · cases h
    intro H locs ls hR hS hL hll
    try dsimp only at hR hS hL hll hB ⊢
    have hB2 : M.1.1 + 1 - N0 ≤ R.cells ∧ M.1.2 + (List.replicate n.toNatClampNeg (Value.int 0)).length - S0 ≤ R.slots := hB
    rw [List.length_replicate] at hB2
    refine va_newaK (atype := .char) hx hb (hts _ q_acl.2.2) rfl hdg rfl hn.1 rfl (by show n.toNatClampNeg * 2 ≤ 536870912; omega) (by omega) (by omega) hR.new.symm (fun H1 cA o1 o2 o3 oA oN => ?_)
    have hid : cA = G.2.1.1 10 := Option.some.inj (oN.symm.trans (hTab.1.2 2 _ rfl).2)
    subst hid
    refine W.cs (cells' := (hN M (10, List.replicate n.toNatClampNeg (.int 0))).1.1 - N0) (slots' := (hN M (10, List.replicate n.toNatClampNeg (.int 0))).1.2 - S0) (by show M.1.1 - N0 + 1 = M.1.1 + 1 - N0; omega) (by show M.1.2 - S0 + _ = M.1.2 + (List.replicate n.toNatClampNeg (Value.int 0)).length - S0; rw [List.length_replicate]; omega) ?_
    exact kk H1 locs ls (qRep_arr hR ⟨by omega, by omega⟩ rfl o1 o2 o3) (qS_push hS (by rw [o2, hR.new]) (fun q hq => o3 q (by rw [hR.new]; exact hq))) hL hll
  · cases h
theorem sd_anewarray {i k : Nat} {L : qLo} {st : List Value} {M : qHp} {f : qCf} (C : qCx G p R s m args meth c z) (hNN : N0 ≤ M.1.1 ∧ S0 ≤ M.1.2) (hB : f.2.2.2.1.1 - N0 ≤ R.cells ∧ f.2.2.2.1.2 - S0 ≤ R.slots) (h : qStepI z (.anewarray i) k pc L st M = some (.inl f)) (hdg : decode (qB z) pc = .ok (.anewarray i, k)) (kk : qWp G p l e R s m args below meth c Q N0 S0 f) : qWp G p l e R s m args below meth c Q N0 S0 (pc, L, st, M) := by
  obtain ⟨hx, hb, hml, hown, hts, hTab, hin, hRm, hbase⟩ := C
  simp only [qStepI] at h
  split at h
  rotate_left
  · cases h
  rename_i hk
  subst hk
  split at h
  rotate_left
  · cases h
  rename_i n st
  split at h
  rotate_left
  · cases h
  rename_i hn
  obtain ⟨ci, hci, h⟩ := Option.bind_eq_some_iff.mp h
  obtain ⟨t, ht, h⟩ := Option.bind_eq_some_iff.mp h
  cases h
  intro H locs ls hR hS hL hll
  try dsimp only at hR hS hL hll hB ⊢
  have hB2 : M.1.1 + 1 - N0 ≤ R.cells ∧ M.1.2 + (List.replicate n.toNatClampNeg Value.null).length - S0 ≤ R.slots := hB
  rw [List.length_replicate] at hB2
  obtain ⟨h8, hlk⟩ := q_cla hci
  obtain ⟨ht8, hRA, hAO⟩ : (8 ≤ t ∧ t < 14) ∧ va_RA s (G.2.1.1 t) (.object (qR ci)) ∧ va_AO (qR ci) s := by
    rcases qTg_some ht with ⟨rfl, rfl⟩ | ⟨rfl, rfl⟩ | ⟨rfl, rfl⟩
    · exact ⟨⟨by omega, by omega⟩, (hTab.1.2 3 _ rfl).2, hTab.2.2.2.1 _ (Or.inl rfl)⟩
    · exact ⟨⟨by omega, by omega⟩, (hTab.1.2 4 _ rfl).2, hTab.2.2.2.1 _ (Or.inr (Or.inr rfl))⟩
    · exact ⟨⟨by omega, by omega⟩, (hTab.1.2 5 _ rfl).2, hTab.2.2.2.1 _ (Or.inr (Or.inl rfl))⟩
  refine W.anew hx hb hown (hts _ hlk) (va_AO.use hAO) rfl hdg rfl hn.1 (by omega) (by omega) (by omega) fun cA kA comp f1 f2 f3 f4 => ?_
  obtain ⟨kA', comp', -, -, -, g4⟩ := hRA
  have hid : cA = G.2.1.1 t := Option.some.inj (f1.symm.trans g4)
  subst hid
  generalize hH1 : H.push ({ cls := G.2.1.1 t, slots := Array.replicate n.toNatClampNeg .null, vm := .none } : Cell) = H1
  have z1 : H1.size = H.size + 1 := by rw [← hH1, Array.size_push]
  have e1 : H1[H.size]? = some (arrV (G.2.1.1 t) n.toNatClampNeg (fun _ => .null)) := by rw [← hH1, Array.getElem?_push_size, ← arrV_new]
  have o1 : ∀ q : Nat, q < H.size → H1[q]? = H[q]? := fun q hq => by rw [← hH1, Array.getElem?_push, if_neg (Nat.ne_of_lt hq)]
  refine W.cs (cells' := (hN M (t, List.replicate n.toNatClampNeg .null)).1.1 - N0) (slots' := (hN M (t, List.replicate n.toNatClampNeg .null)).1.2 - S0) (by show M.1.1 - N0 + 1 = M.1.1 + 1 - N0; omega) (by show M.1.2 - S0 + _ = M.1.2 + (List.replicate n.toNatClampNeg Value.null).length - S0; rw [List.length_replicate]; omega) ?_
  have hk := kk H1 locs ls (qRep_arr hR ht8 rfl (by rw [hR.new]; exact e1) (by rw [hR.new]; exact z1) (fun q hq => o1 q (by rw [← hR.new]; exact hq))) (qS_push hS z1 o1) hL hll
  have he : (Value.ref M.1.1 :: st).map (cv G) = .ref H.size :: st.map (cv G) := by
    show Value.ref (adr G M.1.1) :: _ = _
    rw [hR.new]
  simp only [he] at hk
  exact hk
theorem sd_new {i k : Nat} {L : qLo} {st : List Value} {M : qHp} {f : qCf} (C : qCx G p R s m args meth c z) (hNN : N0 ≤ M.1.1 ∧ S0 ≤ M.1.2) (hB : f.2.2.2.1.1 - N0 ≤ R.cells ∧ f.2.2.2.1.2 - S0 ≤ R.slots) (h : qStepI z (.new i) k pc L st M = some (.inl f)) (hdg : decode (qB z) pc = .ok (.new i, k)) (kk : qWp G p l e R s m args below meth c Q N0 S0 f) : qWp G p l e R s m args below meth c Q N0 S0 (pc, L, st, M) := by
  obtain ⟨hx, hb, hml, hown, hts, hTab, hin, hRm, hbase⟩ := C
  simp only [qStepI] at h
  split at h
  rotate_left
  · cases h
  rename_i hk
  subst hk
  obtain ⟨ci, hci, h⟩ := Option.bind_eq_some_iff.mp h
  cases h
  intro H locs ls hR hS hL hll
  try dsimp only at hR hS hL hll hB ⊢
  have hdl : (qDf ci).length = qN ci := by simp [qDf]
  have hB2 : M.1.1 + 1 - N0 ≤ R.cells ∧ M.1.2 + (qDf ci).length - S0 ≤ R.slots := hB
  rw [hdl] at hB2
  obtain ⟨h8, hlk⟩ := q_cla hci
  have hKn := hTab.1.1 ci _ (qCl_at _ h8)
  refine W.newcK hx hb hown (hts _ hlk) (hts _ (q_inst _ h8)) (hts _ (q_ini _ (by omega))) rfl hdg (by omega) (by omega) hKn.2.1 hR.new.symm fun H1 kC hkC e1 z1 o1 => ?_
  refine W.cs (cells' := (hN M (ci, qDf ci)).1.1 - N0) (slots' := (hN M (ci, qDf ci)).1.2 - S0) (by show M.1.1 - N0 + 1 = M.1.1 + 1 - N0; omega) (by show M.1.2 - S0 + _ = M.1.2 + (qDf ci).length - S0; rw [hdl]; omega) ?_
  refine kk H1 locs ls (hR.push (by show ci < 14; omega) (by rw [z1, hR.new]) (fun q hq => o1 q (by rw [hR.new]; exact hq)) ?_) (qS_push hS (by rw [z1, hR.new]) (fun q hq => o1 q (by rw [hR.new]; exact hq))) hL hll
  unfold qCell
  rw [if_pos h8]
  refine ⟨hdl, (u_born (qV ci) hts (q_lay _ h8) hKn hkC e1 (q_ty _ h8)).to fun j hj => ?_⟩
  simp [vp_V, qDf, hj, cv_def]
theorem sd_invokestatic {i k : Nat} {L : qLo} {st : List Value} {M : qHp} {f : qCf} (C : qCx G p R s m args meth c z) (hNN : N0 ≤ M.1.1 ∧ S0 ≤ M.1.2) (hB : f.2.2.2.1.1 - N0 ≤ R.cells ∧ f.2.2.2.1.2 - S0 ≤ R.slots) (h : qStepI z (.invokestatic i) k pc L st M = some (.inl f)) (hdg : decode (qB z) pc = .ok (.invokestatic i, k)) (kk : qWp G p l e R s m args below meth c Q N0 S0 f) : qWp G p l e R s m args below meth c Q N0 S0 (pc, L, st, M) := by
  obtain ⟨hx, hb, hml, hown, hts, hTab, hin, hRm, hbase⟩ := C
  simp only [qStepI] at h
  split at h
  rotate_left
  · cases h
  rename_i hk
  subst hk
  obtain ⟨⟨b, y⟩, hq, h⟩ := Option.bind_eq_some_iff.mp h
  simp only at h
  split at h
  rotate_left
  · cases h
  rename_i hbf
  subst hbf
  have hok := qMth_ok hq
  split at h
  · rename_i hy
    subst hy
    split at h
    rotate_left
    · cases h
    rename_i yy xx st hjk
    split at h
    rotate_left
    · cases h
    rename_i hc
    cases h
    rcases hok with ⟨-, -, hlk⟩ | ⟨q, -⟩ | ⟨-, q, -⟩ | ⟨-, q, -⟩
    rotate_left
    · cases q
    · cases q
    · cases q
    intro H locs ls hR hS hL hll
    try dsimp only at hR hS hL hll hB ⊢
    refine va_mmax hx hb (by rw [← hll]; exact hL.1.symm) hown (hts _ hlk) (hts _ (q_kw 148 (by omega))) (hts _ (q_ini 9 (by omega))) (hts _ q_mmx.1) (by omega) ?_ hB.1 hB.2 hdg (kk H locs ls hR hS hL hll)
    rw [cv_sum]
    have := cat_le st
    omega
  · split at h
    · rename_i hy
      subst hy
      split at h
      rotate_left
      · cases h
      rename_i yy xx st hjk
      split at h
      rotate_left
      · cases h
      rename_i hc
      cases h
      rcases hok with ⟨-, -, hlk⟩ | ⟨q, -⟩ | ⟨-, q, -⟩ | ⟨-, q, -⟩
      rotate_left
      · cases q
      · cases q
      · cases q
      intro H locs ls hR hS hL hll
      try dsimp only at hR hS hL hll hB ⊢
      refine va_mmin hx hb (by rw [← hll]; exact hL.1.symm) hown (hts _ hlk) (hts _ (q_kw 149 (by omega))) (hts _ (q_ini 9 (by omega))) (hts _ q_mmx.2) (by omega) ?_ hB.1 hB.2 hdg (kk H locs ls hR hS hL hll)
      rw [cv_sum]
      have := cat_le st
      omega
    · split at h
      · rename_i hy
        subst hy
        split at h
        rotate_left
        · cases h
        rename_i n d b sp a st hjk
        split at h
        rotate_left
        · cases h
        rename_i hc
        obtain ⟨M1, hM1, h⟩ := Option.bind_eq_some_iff.mp h
        cases h
        rcases hok with ⟨-, q, -⟩ | ⟨q, -⟩ | ⟨-, q, -⟩ | ⟨-, -, hlk⟩
        · omega
        · cases q
        · cases q
        obtain ⟨vs, ws, hMa, hMb, ⟨n1, n2, n3⟩, ⟨l1, l2⟩, ⟨i1, i2⟩, rfl⟩ := hC_some hM1
        intro H locs ls hR hS hL hll
        try dsimp only at hR hS hL hll hB ⊢
        have hca := hR.at hMa
        have hcb := hR.at hMb
        unfold qCell at hca hcb
        rw [if_neg (by show ¬ 8 < 8; omega), if_neg (by show ¬ 8 = 14; omega)] at hca hcb
        have h4 := hR.four hMb (by show 8 ≠ 14; omega)
        have ea : arrV (G.2.1.1 8) vs.length (qVf G vs) = arrV (G.2.1.1 8) vs.length (fun j => .int (qI (vs.getD j .null))) := arrV_congr fun j hj => qInts_get i1 hj
        have eb : arrV (G.2.1.1 8) ws.length (qVf G ws) = arrV (G.2.1.1 8) ws.length (fun j => .int (qI (ws.getD j .null))) := arrV_congr fun j hj => qInts_get i2 hj
        have hA8 := (hTab.1.2 0 _ rfl).1
        refine q_copy hx hb (by rw [← hll]; exact hL.1.symm) hown (hts _ hlk) (hts _ q_arc.1) (hts _ q_arc.2.1) (hts _ q_arc.2.2) hA8 hA8 (hca.trans (congrArg some ea)) (hcb.trans (congrArg some eb)) rfl n1 n2 n3 l1 l2 (fun _ _ => rfl) (by omega) ?_ hdg (fun H1 ll o1 o2 o3 o4 => ?_)
        · rw [cv_sum]
          have := cat_le st
          show _ + (5 + 2 + 11) ≤ R.locals
          omega
        · refine kk H1 _ ls (hR.set hMb rfl h4 o2 o3 ?_) ⟨by rw [o2]; exact hS.1, fun q g1 g2 => (o3 q (fun e => g2 (by rw [e]; exact adr_A h4))).trans (hS.2.1 q g1 g2), fun q hq => ?_⟩ hL hll
          · unfold qCell
            rw [if_neg (by show ¬ 8 < 8; omega), if_neg (by show ¬ 8 = 14; omega), o1]
            show _ = some (arrV (G.2.1.1 8) (qCpy vs ws sp.toNatClampNeg d.toNatClampNeg n.toNatClampNeg).length _)
            have hlen : (qCpy vs ws sp.toNatClampNeg d.toNatClampNeg n.toNatClampNeg).length = ws.length := by simp [qCpy]
            rw [hlen]
            congr 1
            refine arrV_congr fun j hj => ?_
            rw [qVf_at (v := if d.toNatClampNeg ≤ j ∧ j < d.toNatClampNeg + n.toNatClampNeg then vs.getD (sp.toNatClampNeg + (j - d.toNatClampNeg)) .null else ws.getD j .null) (by simp [qCpy, hj])]
            unfold va_cpy
            split
            · have hj2 : sp.toNatClampNeg + (j - d.toNatClampNeg) < vs.length := by omega
              rw [← qInts_get (G := G) i1 hj2]
              rw [qVf_at (List.getElem?_eq_getElem hj2)]
              simp [hj2]
            · rw [← qInts_get (G := G) i2 hj]
              rw [qVf_at (List.getElem?_eq_getElem hj)]
              simp [hj]
          · rcases List.mem_append.mp hq with h | h
            · exact hS.2.2 q h
            · rw [o4 q h]; exact adr_A h4
      · split at h
        · unfold qCall at h
          split at h <;> cases h
        · cases h
theorem sd_invokespecial {i k : Nat} {L : qLo} {st : List Value} {M : qHp} {f : qCf} (C : qCx G p R s m args meth c z) (h : qStepI z (.invokespecial i) k pc L st M = some (.inl f)) (hdg : decode (qB z) pc = .ok (.invokespecial i, k)) (kk : qWp G p l e R s m args below meth c Q N0 S0 f) : qWp G p l e R s m args below meth c Q N0 S0 (pc, L, st, M) := by
  obtain ⟨hx, hb, hml, hown, hts, hTab, hin, hRm, hbase⟩ := C
  simp only [qStepI] at h
  split at h
  rotate_left
  · cases h
  rename_i hk
  subst hk
  obtain ⟨⟨b, y⟩, hq, h⟩ := Option.bind_eq_some_iff.mp h
  simp only at h
  have hok := qMth_ok hq
  split at h
  · rename_i hy
    subst hy
    split at h
    rotate_left
    · cases h
    rename_i a st hjk
    split at h
    rotate_left
    · cases h
    rename_i hc
    cases h
    have hlk : Jvm.Cond.methodLink (qR (qO z)) i Lib.objectInit ∈ qW := by
      rcases hok with ⟨-, q, -⟩ | ⟨-, q⟩ | ⟨-, -, hlk⟩ | ⟨-, q, -⟩
      · omega
      · exfalso
        have : qMnL.all (fun q => decide (q.2.2 < 148)) = true := by decide +kernel
        have := List.all_eq_true.mp this _ q
        simp at this
      · exact hlk
      · cases q
    intro H locs ls hR hS hL hll
    try dsimp only at hR hS hL hll hB ⊢
    refine W.objInit hx hb hown (hts _ hlk) (hts _ q_obj.1) (hts _ q_obj.2) rfl (by show ls.size = _; rw [← hll]; exact hL.1) rfl hdg (by omega) ?_ (kk H locs ls hR hS hL hll)
    show 2 * 0 + ((st.map (cv G)).map fun v => v.category).sum + 12 ≤ R.locals
    rw [cv_sum]
    have := cat_le st
    omega
  · split at h
    · split at h
      · unfold qCall at h
        split at h <;> cases h
      · cases h
    · cases h
theorem sd_invokevirtual {i k : Nat} {L : qLo} {st : List Value} {M : qHp} {f : qCf} (h : qStepI z (.invokevirtual i) k pc L st M = some (.inl f)) : False := by
  simp only [qStepI] at h
  split at h
  rotate_left
  · cases h
  obtain ⟨⟨b, y⟩, hq, h⟩ := Option.bind_eq_some_iff.mp h
  simp only at h
  split at h
  rotate_left
  · cases h
  split at h
  rotate_left
  · cases h
  obtain ⟨o, ho, h⟩ := Option.bind_eq_some_iff.mp h
  split at h
  rotate_left
  · cases h
  unfold qCall at h
  split at h <;> cases h
end QC
