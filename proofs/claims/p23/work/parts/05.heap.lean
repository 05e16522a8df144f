/-! the machine follows: fields, arrays, what is made -/
theorem va_P1 {D : va_G} {cl : List vw_C} {x : Nat × va_E} {H : Heap} (h : va_at D cl x H) : va_P D cl [x] H := by
  intro k q hk
  have hz : k < 1 := (List.getElem?_eq_some_iff.mp hk).1
  rw [show k = 0 by omega] at hk
  cases hk
  exact h
theorem arrV_congr {cI : ClassId} {N : Nat} {f g : Nat → Value} (h : ∀ j, j < N → f j = g j) : arrV cI N f = arrV cI N g := by
  unfold arrV
  congr 1
  apply Array.ext
  · simp
  · intro j h1 h2
    simp only [Array.getElem_ofFn]
    exact h j (by simpa using h1)
theorem qVf_at {G : qG} {vs : List Value} {j : Nat} {v : Value} (h : vs[j]? = some v) : qVf G vs j = cv G v := by
  unfold qVf
  simp [h]
theorem qVf_set {G : qG} {vs : List Value} {k : Nat} (hk : k < vs.length) (v : Value) : updV (qVf G vs) k (cv G v) = qVf G (vs.set k v) := by
  funext j
  show updV (vp_V (vs.map (cv G))) k (cv G v) j = vp_V ((vs.set k v).map (cv G)) j
  rw [List.map_set, vp_updV_set (by simpa using hk)]
theorem qFit_ok {G : qG} {ty : FieldType} {v : Value} (h : qFit ty v = true) : narrow ty (cv G v) = cv G v ∧ fits ty (cv G v) = true := by
  unfold qFit at h
  split at h
  · split at h
    · exact ⟨rfl, rfl⟩
    · cases h
  · split at h
    · rename_i x
      have hx : (x.toUInt32 % 65536).toInt32 = x := by simpa using h
      have h1 := pk_nc x
      have h2 := pk_fc x
      rw [hx] at h1 h2
      exact ⟨h1, h2⟩
    · cases h
  · split at h
    · exact ⟨rfl, rfl⟩
    · cases h
  · split at h
    · exact ⟨rfl, rfl⟩
    · cases h
  · cases h
theorem hG_some {M : qHp} {a c k : Nat} {v : Value} (h : hG M a c k = some v) : ∃ vs, M.2 a = some (c, vs) ∧ vs[k]? = some v := by
  obtain ⟨q, hq, h1⟩ := Option.bind_eq_some_iff.mp h
  obtain ⟨t, vs⟩ := q
  simp only at h1
  split at h1
  · rename_i e
    subst e
    exact ⟨vs, hq, h1⟩
  · cases h1
theorem hP_some {M M1 : qHp} {a c k : Nat} {ty : FieldType} {v : Value} (h : hP M a c k ty v = some M1) : ∃ vs, M.2 a = some (c, vs) ∧ k < vs.length ∧ qFit ty v = true ∧ M1 = hU M a (c, vs.set k v) := by
  obtain ⟨q, hq, h1⟩ := Option.bind_eq_some_iff.mp h
  obtain ⟨t, vs⟩ := q
  simp only at h1
  split at h1
  · rename_i e
    obtain ⟨rfl, e2, e3⟩ := e
    cases h1
    exact ⟨vs, hq, e2, e3, rfl⟩
  · cases h1
theorem hL_some {M : qHp} {t a : Nat} {i : Int32} {v : Value} (h : hL M t a i = some v) : ∃ vs, M.2 a = some (t, vs) ∧ ¬ i < 0 ∧ vs[i.toNatClampNeg]? = some v := by
  obtain ⟨q, hq, h1⟩ := Option.bind_eq_some_iff.mp h
  obtain ⟨t', vs⟩ := q
  simp only at h1
  split at h1
  · rename_i e
    obtain ⟨rfl, e2⟩ := e
    exact ⟨vs, hq, e2, h1⟩
  · cases h1
theorem hLI_some {M : qHp} {a : Nat} {i : Int32} {v : Value} (h : hLI M a i = some v) : ∃ t vs, (t = 8 ∨ t = 14) ∧ M.2 a = some (t, vs) ∧ ¬ i < 0 ∧ vs[i.toNatClampNeg]? = some v := by
  obtain ⟨q, hq, h1⟩ := Option.bind_eq_some_iff.mp h
  obtain ⟨t', vs⟩ := q
  simp only at h1
  split at h1
  · rename_i e
    exact ⟨t', vs, e.1, hq, e.2, h1⟩
  · cases h1
theorem hLA_some {M : qHp} {a : Nat} {i : Int32} {v : Value} (h : hLA M a i = some v) : ∃ t vs, (11 ≤ t ∧ t ≤ 13) ∧ M.2 a = some (t, vs) ∧ ¬ i < 0 ∧ vs[i.toNatClampNeg]? = some v := by
  obtain ⟨q, hq, h1⟩ := Option.bind_eq_some_iff.mp h
  obtain ⟨t', vs⟩ := q
  simp only at h1
  split at h1
  · rename_i e
    exact ⟨t', vs, e.1, hq, e.2, h1⟩
  · cases h1
theorem hS_some {M M1 : qHp} {t a : Nat} {i : Int32} {v : Value} (h : hS M t a i v = some M1) : ∃ vs, M.2 a = some (t, vs) ∧ ¬ i < 0 ∧ i.toNatClampNeg < vs.length ∧ M1 = hU M a (t, vs.set i.toNatClampNeg v) := by
  obtain ⟨q, hq, h1⟩ := Option.bind_eq_some_iff.mp h
  obtain ⟨t', vs⟩ := q
  simp only at h1
  split at h1
  · rename_i e
    obtain ⟨rfl, e2, e3⟩ := e
    cases h1
    exact ⟨vs, hq, e2, e3, rfl⟩
  · cases h1
theorem hSA_some {M M1 : qHp} {a b : Nat} {i : Int32} (h : hSA M a i b = some M1) : ∃ t vs c ws, M.2 a = some (t, vs) ∧ M.2 b = some (c, ws) ∧ qCo2 t = some c ∧ ¬ i < 0 ∧ i.toNatClampNeg < vs.length ∧ M1 = hU M a (t, vs.set i.toNatClampNeg (.ref b)) := by
  obtain ⟨q, hq, h1⟩ := Option.bind_eq_some_iff.mp h
  obtain ⟨o, ho, h2⟩ := Option.bind_eq_some_iff.mp h1
  obtain ⟨t, vs⟩ := q
  obtain ⟨c, ws⟩ := o
  simp only at h2
  split at h2
  · rename_i e
    cases h2
    exact ⟨t, vs, c, ws, hq, ho, e.1, e.2.1, e.2.2, rfl⟩
  · cases h2
theorem qCo2_some {t c : Nat} (h : qCo2 t = some c) : (t = 11 ∧ c = 0) ∨ (t = 12 ∧ c = 3) ∨ (t = 13 ∧ c = 1) := by
  unfold qCo2 at h
  split at h
  · cases h; exact Or.inl ⟨by assumption, rfl⟩
  · split at h
    · cases h; exact Or.inr (Or.inl ⟨by assumption, rfl⟩)
    · split at h
      · cases h; exact Or.inr (Or.inr ⟨by assumption, rfl⟩)
      · cases h
theorem qTg_some {t c : Nat} (h : qTg c = some t) : (t = 11 ∧ c = 0) ∨ (t = 12 ∧ c = 3) ∨ (t = 13 ∧ c = 1) := by
  unfold qTg at h
  split at h
  · cases h; exact Or.inl ⟨rfl, by assumption⟩
  · split at h
    · cases h; exact Or.inr (Or.inl ⟨rfl, by assumption⟩)
    · split at h
      · cases h; exact Or.inr (Or.inr ⟨rfl, by assumption⟩)
      · cases h
theorem qInts_at {vs : List Value} (h : qInts vs = true) {j : Nat} {v : Value} (hj : vs[j]? = some v) : ∃ x : Int32, v = .int x := by
  have h1 := List.all_eq_true.mp h v (List.mem_of_getElem? hj)
  cases v <;> first | exact ⟨_, rfl⟩ | (simp at h1)
def qI (v : Value) : Int32 := match v with
  | .int x => x
  | _ => 0
theorem qInts_get {G : qG} {vs : List Value} (h : qInts vs = true) {j : Nat} (hj : j < vs.length) : qVf G vs j = .int (qI (vs.getD j .null)) := by
  have e : vs[j]? = some vs[j] := List.getElem?_eq_getElem hj
  obtain ⟨x, hx⟩ := qInts_at h e
  rw [qVf_at e, hx]
  simp [hj, hx, qI, cv]
theorem hC_some {M M1 : qHp} {a b : Nat} {s d n : Int32} (h : hC M a s b d n = some M1) : ∃ vs ws, M.2 a = some (8, vs) ∧ M.2 b = some (8, ws) ∧ (¬ s < 0 ∧ ¬ d < 0 ∧ ¬ n < 0) ∧ (s.toNatClampNeg + n.toNatClampNeg ≤ vs.length ∧ d.toNatClampNeg + n.toNatClampNeg ≤ ws.length) ∧ (qInts vs = true ∧ qInts ws = true) ∧ M1 = hU M b (8, qCpy vs ws s.toNatClampNeg d.toNatClampNeg n.toNatClampNeg) := by
  obtain ⟨q, hq, h1⟩ := Option.bind_eq_some_iff.mp h
  obtain ⟨o, ho, h2⟩ := Option.bind_eq_some_iff.mp h1
  obtain ⟨t, vs⟩ := q
  obtain ⟨c, ws⟩ := o
  simp only at h2
  split at h2
  · rename_i e
    obtain ⟨⟨rfl, rfl⟩, e2, e3, e4⟩ := e
    cases h2
    exact ⟨vs, ws, hq, ho, e2, e3, e4, rfl⟩
  · cases h2
section QH
variable {G : qG} {p : Program} {l : Launch} {e : Env} {R : Room} {s : State} {m : MethodId} {args : Array Value} {below : List Frame} {meth : Method} {c : Code} {H : Heap} {locs : List Loc} {cells slots : Nat} {Q : State → Prop} {z N0 S0 : Nat}
variable {cc : ByteArray} {pc : Nat} {ls : Array Slot} {rest : List Value} {D : va_G} {cl : List vw_C} {a : Nat} {tys : List (ClassId × FieldType)}
theorem q_put (hexec : p.tables.exec = Jvm.exec) (hb : c.code = cc) {own ref C : String} {T : u_T} {N ci index : Nat} {Ts : List Jvm.Cond} (hts : ∀ w ∈ Ts, w.before args s = true) (hin : ∀ w ∈ u_ws C T N, w ∈ Ts) (ty0 : Nat → FieldType) (hty : ∀ k, k < N → parseFieldDescriptor (T k).2.2.1 = some (ty0 k)) (hnm : ∀ a, a < N → ∀ b, b < N → a ≠ b → (T a).2.1 ≠ (T b).2.1) (hown : s.vm.findClass own = some m.cls) (hK : va_K D cl tys s) {fs : List Value} (hP : t_OB a (D.1 ci) N (D.2 ci) H (vp_V fs)) (hc : cl[ci]? = some (C, T, N)) (k : Nat) (hk : k < N) (hlink : (Cond.fieldLink own index ref (T k).2.1 (T k).2.2.1).before args s = true) (hsame : ∀ x, s.fieldFound? (T k).1 (T k).2.1 (T k).2.2.1 = some x → s.fieldFound? ref (T k).2.1 (T k).2.2.1 = some x) (hfin : (T k).2.2.2 = true → meth.name = "<init>" ∧ (T k).1 = own) {ty : FieldType} {v : Value} (hd : parseFieldDescriptor (T k).2.2.1 = some ty) (hn : narrow ty v = v) (hfit : fits ty v = true) (hl : k < fs.length)
    (hdg : decode cc pc = .ok (.putfield index, 3)) (kk : ∀ (H1 : Heap) (j : Nat), t_OB a (D.1 ci) N (D.2 ci) H1 (vp_V (fs.set k v)) → H1.size = H.size → (∀ q : Nat, q ≠ a → H1[q]? = H[q]?) → W p l e R s m args below meth c H1 (locs ++ [⟨a, j⟩]) cells slots Q (F0 m (pc + 3) ls rest)) : W p l e R s m args below meth c H locs cells slots Q (F0 m pc ls (v :: .ref a :: rest)) := by
  have hap := va_apart (own := own) hts hin ty0 hty hnm hK hc
  obtain ⟨cell, q1, q2, q3, q4⟩ := hP
  obtain ⟨hS, hfc, kC, hkC, hkind⟩ := hK.1 ci _ hc
  obtain ⟨cf, kf, fi, f, hi, hsl⟩ := hS k hk
  have hlay := hts _ (hin _ (u_in_lay hk))
  have hst := (u_facts hfc hkC (u_lays hts hin hk) hi).1
  have fin1 : ∀ (H' : Heap), H'[a]? = some (cell.setSlot f.slot v) → H'.size = H.size → (∀ q, q ≠ a → H'[q]? = H[q]?) → W p l e R s m args below meth c H' (locs ++ [⟨a, f.slot⟩]) cells slots Q (F0 m (pc + 3) ls rest) := by
    intro H' e1 e2 e3
    rw [hsl] at e1 ⊢
    exact kk H' _ (t_OB.to (V := updV (vp_V fs) k v) ⟨_, e1, q2, q3, t_set q4 hap hk v⟩ (fun j _ => vp_updV_set hl v j)) e2 e3
  unfold u_lay at hlay
  by_cases hf : (T k).2.2.2 = true
  · rw [if_pos hf] at hlay
    obtain ⟨hin2, hdecl⟩ := hfin hf
    have hcf : m.cls = cf := by
      obtain ⟨_, _, c', _, _, _, -, -, hf', -, -, -, hown2, -⟩ := Cond.laysFinal_spec hlay
      have e1 : c' = cf := by have := hi.symm.trans hf'; simp at this; exact this.1.symm
      rw [hdecl] at hown2
      rw [← e1]; exact Option.some.inj (hown.symm.trans hown2)
    have h6 := u_fits hfc hkC hkind (Or.inr hlay) hi hd hn hfit
    exact W.putFinK hexec hb hown hlink (hsame _ hi) hst hcf hin2 (by rw [q2]; exact h6) q1 q3 (by rw [hsl]; exact k2_hasslot (q4 k hk)) rfl rfl hdg fin1
  · rw [if_neg hf] at hlay
    have h6 := u_store hfc hkC hkind hlay hi hd hn hfit
    exact W.putK hexec hb (f := f) ⟨hown, hlink, ⟨_, _, _, hsame _ hi⟩, hst⟩ (by rw [q2]; exact h6) q1 q3 (by rw [hsl]; exact k2_hasslot (q4 k hk)) rfl rfl hdg fin1
theorem q_copy {cc : ByteArray} (hexec : p.tables.exec = Jvm.exec) (hb : c.code = cc) (hml : c.maxLocals = ls.size) {own : String} {index : Nat} (hown : s.vm.findClass own = some m.cls) (hlink : (Cond.methodLink own index arraycopyName).before args s = true) (hnat : (Cond.native arraycopyName).before args s = true) (hstat : (Cond.static arraycopyName).before args s = true) (hini : (Cond.initialized "java/lang/System").before args s = true)
    {a0 : Nat} {c0 c1 : ClassId} {n0 n1 : Nat} {f g : Nat → Int32} {ty : FieldType} (hA0 : ArrOfT s c0 ty) (hA1 : ArrOfT s c1 ty) (hc0 : H[a0]? = some (arrV c0 n0 (fun j => .int (f j)))) (hc1 : H[a]? = some (arrV c1 n1 (fun j => .int (g j)))) (hprim : refKind ty = false)
    {sp dp n : Int32} (h1 : ¬ sp < 0) (h2 : ¬ dp < 0) (h3 : ¬ n < 0) (h4 : sp.toNatClampNeg + n.toNatClampNeg ≤ n0) (h5 : dp.toNatClampNeg + n.toNatClampNeg ≤ n1) (hfit : ∀ i, i < n.toNatClampNeg → fits ty (.int (f (sp.toNatClampNeg + i))) = true)
    (hframes : 1 ≤ R.frames) (hlocals : (rest.map fun v => v.category).sum + (nativeFrameWords "java/lang/System" "arraycopy" 5 + 11) ≤ R.locals) (hdg : decode cc pc = .ok (.invokestatic index, 3))
    (kk : ∀ (H1 : Heap) (l1 : List Loc), H1[a]? = some (arrV c1 n1 (fun j => .int (va_cpy f g sp.toNatClampNeg dp.toNatClampNeg n.toNatClampNeg j))) → H1.size = H.size → (∀ q : Nat, q ≠ a → H1[q]? = H[q]?) → (∀ q ∈ l1, q.base = a) → W p l e R s m args below meth c H1 (locs ++ l1) cells slots Q (F0 m (pc + 3) ls rest)) : W p l e R s m args below meth c H locs cells slots Q (F0 m pc ls (.int n :: .int dp :: .ref a :: .int sp :: .ref a0 :: rest)) := by
  have nn : ∀ z : Int32, ¬ z < 0 → z.toInt = (z.toNatClampNeg : Int) := by
    intro z hz
    have hz0 : (0 : Int) ≤ z.toInt := by
      have := Int32.not_lt.mp hz
      simpa using Int32.le_iff_toInt_le.mp this
    show z.toInt = ((z.toInt.toNat : Nat) : Int)
    omega
  intro T hT X
  obtain ⟨-, k0, hk0, cm0, hkk0⟩ := hA0 n0 (fun j => .int (f j))
  obtain ⟨-, k1, hk1, cm1, hkk1⟩ := hA1 n1 (fun j => .int (g j))
  obtain ⟨vm', X', step⟩ := X.arraycopy hexec hown hlink hnat hstat hini (src := a0) (dst := a) (cs := arrV c0 n0 (fun j => .int (f j))) (cd := arrV c1 n1 (fun j => .int (g j))) (srcPos := sp) (destPos := dp) (n := n) (by rw [hT]; exact hc0) (by rw [hT]; exact hc1)
    (fun _ h => by cases h) (fun _ h => by cases h) (fun h => by cases h) (fun h => by cases h) hk0 hk1 hkk0 hkk1 (by simp [hprim]) h1 h2 h3
    (by rw [nn sp h1, nn n h3, arrV_size]; omega)
    (by rw [nn dp h2, nn n h3, arrV_size]; omega)
    (fun vm₁ _ i hi => by
      have e : (arrV c0 n0 (fun j => .int (f j))).slots.getD (sp.toNatClampNeg + i) .null = .int (f (sp.toNatClampNeg + i)) := by
        rw [Array.getD_eq_getD_getElem?, arrV_read _ _ (by omega)]
        rfl
      refine ⟨?_, ?_⟩
      · rw [e]
        exact hfit i hi
      · rw [e]
        exact trivial)
    (g := F0 m pc ls (.int n :: .int dp :: .ref a :: .int sp :: .ref a0 :: rest)) rfl (by rw [hml]) (rest := rest) rfl (by rw [hb]; exact hdg) hframes (by show 2 * 0 + _ + _ ≤ _; omega)
  have e1 : copied (arrV c0 n0 (fun j => .int (f j))) (arrV c1 n1 (fun j => .int (g j))) sp dp n = arrV c1 n1 (fun j => .int (va_cpy f g sp.toNatClampNeg dp.toNatClampNeg n.toNatClampNeg j)) := va_copied (fun z => .int z) c0 c1 f g h4
  rw [e1] at X' step
  have hl : a < H.size := (Array.getElem?_eq_some_iff.mp hc1).1
  have hheap : ((T.setVm vm').setCell a (arrV c1 n1 (fun j => .int (va_cpy f g sp.toNatClampNeg dp.toNatClampNeg n.toNatClampNeg j)))).heap = H.setIfInBounds a (arrV c1 n1 (fun j => .int (va_cpy f g sp.toNatClampNeg dp.toNatClampNeg n.toNatClampNeg j))) := by rw [← hT]; rfl
  have oq : ∀ q : Nat, q ≠ a → (H.setIfInBounds a (arrV c1 n1 (fun j => .int (va_cpy f g sp.toNatClampNeg dp.toNatClampNeg n.toNatClampNeg j))))[q]? = H[q]? := fun q hq => by simp [Array.getElem?_setIfInBounds, Ne.symm hq]
  obtain ⟨t, a1, b1⟩ := kk _ _ (show (H.setIfInBounds a _)[a]? = some _ by simp [Array.getElem?_setIfInBounds, hl]) (by simp) oq (fun q hq => by
      obtain ⟨z, -, hz⟩ := List.mem_map.mp hq
      rw [← hz]) _ hheap X'
  exact ⟨t, step t a1, b1⟩
theorem qS_put {H1 : Heap} {k : Nat} (hS : va_S (gA G) s.heap H locs) (hz : H1.size = H.size) (ho : ∀ q : Nat, q ≠ a → H1[q]? = H[q]?) (ha : gA G a) : va_S (gA G) s.heap H1 (locs ++ [⟨a, k⟩]) := hS.put hz ho ha
theorem sd_getfield {i k : Nat} {L : qLo} {st : List Value} {M : qHp} {f : qCf} (C : qCx G p R s m args meth c z) (h : qStepI z (.getfield i) k pc L st M = some (.inl f)) (hdg : decode (qB z) pc = .ok (.getfield i, k)) (kk : qWp G p l e R s m args below meth c Q N0 S0 f) : qWp G p l e R s m args below meth c Q N0 S0 (pc, L, st, M) := by
  obtain ⟨hx, hb, hml, hown, hts, hTab, hin, hRm, hbase⟩ := C
  simp only [qStepI] at h
  split at h
  rotate_left
  · cases h
  rename_i hk
  subst hk
  split at h
  rotate_left
  · cases h
  obtain ⟨⟨ci, k⟩, hq, h⟩ := Option.bind_eq_some_iff.mp h
  obtain ⟨v, hv, h⟩ := Option.bind_eq_some_iff.mp h
  cases h
  obtain ⟨vs, hM, hvs⟩ := hG_some hv
  obtain ⟨h8, hkn, hlk⟩ := q_fld hq
  intro H locs ls hR hS hL hll
  have hc := hR.at hM
  unfold qCell at hc
  rw [if_pos h8] at hc
  refine va_get (D := G.2.1) (C := qR ci) (T := qT ci) (N := qN ci) (ci := ci) hx hb hts (q_lay _ h8) hown hTab.1 (va_P1 (x := (adr G _, .inr (ci, vs.map (cv G)))) ⟨_, qCl_at _ h8, hc.2⟩) 0 rfl (qCl_at _ h8) k hkn (hts _ hlk) (fun x h9 => by rw [q_dc _ h8 _ hkn] at h9; exact h9) (v := cv G v) (by rw [List.getElem?_map, hvs]; rfl) hdg (kk H locs ls hR hS hL hll)
theorem sd_putfield {i k : Nat} {L : qLo} {st : List Value} {M : qHp} {f : qCf} (C : qCx G p R s m args meth c z) (h : qStepI z (.putfield i) k pc L st M = some (.inl f)) (hdg : decode (qB z) pc = .ok (.putfield i, k)) (kk : qWp G p l e R s m args below meth c Q N0 S0 f) : qWp G p l e R s m args below meth c Q N0 S0 (pc, L, st, M) := by
  obtain ⟨hx, hb, hml, hown, hts, hTab, hin, hRm, hbase⟩ := C
  simp only [qStepI] at h
  split at h
  rotate_left
  · cases h
  rename_i hk
  subst hk
  split at h
  rotate_left
  · cases h
  obtain ⟨⟨ci, k⟩, hq, h⟩ := Option.bind_eq_some_iff.mp h
  simp only at h
  split at h
  · cases h
  rename_i hfin
  obtain ⟨M1, hM1, h⟩ := Option.bind_eq_some_iff.mp h
  cases h
  obtain ⟨vs, hM, hkl, hfit, rfl⟩ := hP_some hM1
  obtain ⟨h8, hkn, hlk⟩ := q_fld hq
  intro H locs ls hR hS hL hll
  have hc := hR.at hM
  unfold qCell at hc
  rw [if_pos h8] at hc
  have h4 := hR.four hM (by show ci ≠ 14; omega)
  have hfo := qFit_ok (G := G) hfit
  refine q_put (D := G.2.1) (C := qR ci) (T := qT ci) (N := qN ci) (ci := ci) hx hb hts (q_lay _ h8) (qV ci) (q_ty _ h8) (q_nm _ h8) hown hTab.1 hc.2 (qCl_at _ h8) k hkn (hts _ hlk) (fun x h9 => by rw [q_dc _ h8 _ hkn] at h9; exact h9) (fun hf => ?_) (q_ty _ h8 _ hkn) hfo.1 hfo.2 (by simpa using hkl) hdg (fun H1 j o1 o2 o3 => ?_)
  · have h2 : qK z = 2 ∧ qO z = ci := Classical.byContradiction fun q => hfin ⟨hf, q⟩
    exact ⟨hin h2.1, by rw [q_dc _ h8 _ hkn, h2.2]⟩
  · refine kk H1 _ ls (hR.set hM rfl h4 o2 o3 ?_) (qS_put hS o2 o3 (adr_A h4)) hL hll
    unfold qCell
    rw [if_pos h8]
    refine ⟨by rw [List.length_set]; exact hc.1, ?_⟩
    rw [List.map_set]
    exact o1
theorem sd_getstatic {i k : Nat} {L : qLo} {st : List Value} {M : qHp} {f : qCf} (C : qCx G p R s m args meth c z) (h : qStepI z (.getstatic i) k pc L st M = some (.inl f)) (hdg : decode (qB z) pc = .ok (.getstatic i, k)) (kk : qWp G p l e R s m args below meth c Q N0 S0 f) : qWp G p l e R s m args below meth c Q N0 S0 (pc, L, st, M) := by
  obtain ⟨hx, hb, hml, hown, hts, hTab, hin, hRm, hbase⟩ := C
  simp only [qStepI] at h
  split at h
  rotate_left
  · cases h
  rename_i hk
  subst hk
  obtain ⟨⟨b, t⟩, hq, h⟩ := Option.bind_eq_some_iff.mp h
  cases h
  intro H locs ls hR hS hL hll
  cases b with
  | false =>
    obtain ⟨h14, hlk⟩ := q_sta hq
    exact va_gets hx hb (hTab.2.2.2.2.1 t h14.1 h14.2) hS hown (hts _ hlk) (fun _ h9 => h9) hdg (kk H locs ls hR hS hL hll)
  | true =>
    unfold qSta at hq
    split at hq
    · cases hq
    · obtain ⟨q, hq1, he⟩ := Option.map_eq_some_iff.mp hq
      have hp := List.find?_some hq1
      simp only [Bool.and_eq_true, beq_iff_eq] at hp
      obtain ⟨e1, e2⟩ := hp
      have hmem := List.mem_of_find?_eq_some hq1
      have ht : q.2.2.1 = t := by simpa using he
      have h14 : 1 ≤ q.2.2.1 ∧ q.2.2.1 < 4 := by
        have : qSlN.all (fun q => decide (1 ≤ q.2.2.1 ∧ q.2.2.1 < 4)) = true := by decide +kernel
        simpa using List.all_eq_true.mp this q hmem
      have hn := hTab.2.2.1 q hmem
      rw [e1, e2] at hn
      subst ht
      exact va_getsN hx hb (hTab.2.2.2.2.1 _ h14.1 h14.2) hS hown (va_Nw.use rfl hn) (fun _ h9 => h9) hdg (kk H locs ls hR hS hL hll)
theorem sd_iaload {k : Nat} {L : qLo} {st : List Value} {M : qHp} {f : qCf} (C : qCx G p R s m args meth c z) (h : qStepI z .iaload k pc L st M = some (.inl f)) (hdg : decode (qB z) pc = .ok (.iaload, k)) (kk : qWp G p l e R s m args below meth c Q N0 S0 f) : qWp G p l e R s m args below meth c Q N0 S0 (pc, L, st, M) := by
  obtain ⟨hx, hb, hml, hown, hts, hTab, hin, hRm, hbase⟩ := C
  simp only [qStepI] at h
  split at h
  rotate_left
  · cases h
  rename_i hk
  subst hk
  split at h
  rotate_left
  · cases h
  obtain ⟨v, hv, h⟩ := Option.bind_eq_some_iff.mp h
  cases h
  obtain ⟨t, vs, ht, hM, hi, hvs⟩ := hLI_some hv
  intro H locs ls hR hS hL hll
  have hc := hR.at hM
  unfold qCell at hc
  have hlt := (List.getElem?_eq_some_iff.mp hvs).1
  rcases ht with rfl | rfl
  · rw [if_neg (by show ¬ 8 < 8; omega), if_neg (by show ¬ 8 = 14; omega)] at hc
    exact W.iald (v := cv G v) hx hb hc ((hTab.1.2 0 _ rfl).1 _ _) (fun q => by cases q) (by rw [arrV_size]; exact fun q => q.elim hi (fun q => absurd hlt (Nat.not_lt.mpr q))) (by rw [arrV_read _ _ hlt, qVf_at hvs]) rfl rfl hdg (kk H locs ls hR hS hL hll)
  · rw [if_neg (by show ¬ 14 < 8; omega), if_pos rfl] at hc
    obtain ⟨ha4, he⟩ := hc
    simp only at he
    subst he
    obtain ⟨x, rfl⟩ := qInts_at (hTab.2.2.2.2.2.2 _ ha4) hvs
    exact va_ti (v := .int x) hx hb (hTab.2.2.2.2.2.1 _ ha4) hS (fun q => q.elim hi (fun q => absurd hlt (Nat.not_lt.mpr q))) (by simp [hvs]) hdg (kk H locs ls hR hS hL hll)
theorem sd_arraylength {k : Nat} {L : qLo} {st : List Value} {M : qHp} {f : qCf} (C : qCx G p R s m args meth c z) (h : qStepI z .arraylength k pc L st M = some (.inl f)) (hdg : decode (qB z) pc = .ok (.arraylength, k)) (kk : qWp G p l e R s m args below meth c Q N0 S0 f) : qWp G p l e R s m args below meth c Q N0 S0 (pc, L, st, M) := by
  obtain ⟨hx, hb, hml, hown, hts, hTab, hin, hRm, hbase⟩ := C
  simp only [qStepI] at h
  split at h
  rotate_left
  · cases h
  rename_i hk
  subst hk
  split at h
  rotate_left
  · cases h
  obtain ⟨⟨t, vs⟩, hM, h⟩ := Option.bind_eq_some_iff.mp h
  simp only at h
  split at h
  rotate_left
  · cases h
  rename_i ht
  subst ht
  cases h
  intro H locs ls hR hS hL hll
  have hc := hR.at hM
  unfold qCell at hc
  rw [if_neg (by show ¬ 14 < 8; omega), if_pos rfl] at hc
  obtain ⟨ha4, he⟩ := hc
  simp only at he
  subst he
  exact va_tlen hx hb (hTab.2.2.2.2.2.1 _ ha4) hS rfl hdg (kk H locs ls hR hS hL hll)
theorem sd_baload {k : Nat} {L : qLo} {st : List Value} {M : qHp} {f : qCf} (C : qCx G p R s m args meth c z) (h : qStepI z .baload k pc L st M = some (.inl f)) (hdg : decode (qB z) pc = .ok (.baload, k)) (kk : qWp G p l e R s m args below meth c Q N0 S0 f) : qWp G p l e R s m args below meth c Q N0 S0 (pc, L, st, M) := by
  obtain ⟨hx, hb, hml, hown, hts, hTab, hin, hRm, hbase⟩ := C
  simp only [qStepI] at h
  split at h
  rotate_left
  · cases h
  rename_i hk
  subst hk
  split at h
  rotate_left
  · cases h
  obtain ⟨v, hv, h⟩ := Option.bind_eq_some_iff.mp h
  cases h
  obtain ⟨vs, hM, hi, hvs⟩ := hL_some hv
  intro H locs ls hR hS hL hll
  have hc := hR.at hM
  unfold qCell at hc
  have hlt := (List.getElem?_eq_some_iff.mp hvs).1
  rw [if_neg (by show ¬ 9 < 8; omega), if_neg (by show ¬ 9 = 14; omega)] at hc
  exact W.zald (v := cv G v) hx hb hc ((hTab.1.2 1 _ rfl).1 _ _) (fun q => by cases q) (by rw [arrV_size]; exact fun q => q.elim hi (fun q => absurd hlt (Nat.not_lt.mpr q))) (by rw [arrV_read _ _ hlt, qVf_at hvs]) rfl rfl hdg (kk H locs ls hR hS hL hll)
theorem sd_caload {k : Nat} {L : qLo} {st : List Value} {M : qHp} {f : qCf} (C : qCx G p R s m args meth c z) (h : qStepI z .caload k pc L st M = some (.inl f)) (hdg : decode (qB z) pc = .ok (.caload, k)) (kk : qWp G p l e R s m args below meth c Q N0 S0 f) : qWp G p l e R s m args below meth c Q N0 S0 (pc, L, st, M) := by
  obtain ⟨hx, hb, hml, hown, hts, hTab, hin, hRm, hbase⟩ := C
  simp only [qStepI] at h
  split at h
  rotate_left
  · cases h
  rename_i hk
  subst hk
  split at h
  rotate_left
  · cases h
  obtain ⟨v, hv, h⟩ := Option.bind_eq_some_iff.mp h
  cases h
  obtain ⟨vs, hM, hi, hvs⟩ := hL_some hv
  intro H locs ls hR hS hL hll
  have hc := hR.at hM
  unfold qCell at hc
  have hlt := (List.getElem?_eq_some_iff.mp hvs).1
  rw [if_neg (by show ¬ 10 < 8; omega), if_neg (by show ¬ 10 = 14; omega)] at hc
  exact W.cald (v := cv G v) hx hb hc ((hTab.1.2 2 _ rfl).1 _ _) (fun q => by cases q) (by rw [arrV_size]; exact fun q => q.elim hi (fun q => absurd hlt (Nat.not_lt.mpr q))) (by rw [arrV_read _ _ hlt, qVf_at hvs]) rfl rfl hdg (kk H locs ls hR hS hL hll)
theorem sd_aaload {k : Nat} {L : qLo} {st : List Value} {M : qHp} {f : qCf} (C : qCx G p R s m args meth c z) (h : qStepI z .aaload k pc L st M = some (.inl f)) (hdg : decode (qB z) pc = .ok (.aaload, k)) (kk : qWp G p l e R s m args below meth c Q N0 S0 f) : qWp G p l e R s m args below meth c Q N0 S0 (pc, L, st, M) := by
  obtain ⟨hx, hb, hml, hown, hts, hTab, hin, hRm, hbase⟩ := C
  simp only [qStepI] at h
  split at h
  rotate_left
  · cases h
  rename_i hk
  subst hk
  split at h
  rotate_left
  · cases h
  obtain ⟨v, hv, h⟩ := Option.bind_eq_some_iff.mp h
  cases h
  obtain ⟨t, vs, ht, hM, hi, hvs⟩ := hLA_some hv
  intro H locs ls hR hS hL hll
  have hc := hR.at hM
  unfold qCell at hc
  have hlt := (List.getElem?_eq_some_iff.mp hvs).1
  rw [if_neg (by show ¬ t < 8; omega), if_neg (by show ¬ t = 14; omega)] at hc
  obtain ⟨ty, hA, hrf⟩ : ∃ ty, ArrOfT s (G.2.1.1 t) ty ∧ ty.isReference = true := by
    rcases (show t = 11 ∨ t = 12 ∨ t = 13 by omega) with rfl | rfl | rfl
    · exact ⟨_, (hTab.1.2 3 _ rfl).1, rfl⟩
    · exact ⟨_, (hTab.1.2 4 _ rfl).1, rfl⟩
    · exact ⟨_, (hTab.1.2 5 _ rfl).1, rfl⟩
  exact W.aald (v := cv G v) hx hb hc (hA _ _) hrf (fun q => by cases q) (by rw [arrV_size]; exact fun q => q.elim hi (fun q => absurd hlt (Nat.not_lt.mpr q))) (by rw [arrV_read _ _ hlt, qVf_at hvs]) rfl rfl hdg (kk H locs ls hR hS hL hll)
theorem qArr_set {M : qHp} {H1 : Heap} {t i : Nat} {vs : List Value} {v : Value} (hR : qRep G M H) (hM : M.2 a = some (t, vs)) (ht : 8 ≤ t ∧ t ≠ 14) (hi : i < vs.length) (he : H1[adr G a]? = some ((arrV (G.2.1.1 t) vs.length (qVf G vs)).setSlot i (cv G v))) (hz : H1.size = H.size) (ho : ∀ q, q ≠ adr G a → H1[q]? = H[q]?) : qRep G (hU M a (t, vs.set i v)) H1 := by
  refine hR.set hM rfl (hR.four hM ht.2) hz ho ?_
  unfold qCell
  rw [if_neg (by show ¬ t < 8; omega), if_neg (by show ¬ t = 14; exact ht.2)]
  rw [he, arrV_store, qVf_set hi]
  show _ = some (arrV (G.2.1.1 t) (vs.set i v).length _)
  rw [List.length_set]
theorem sd_iastore {k : Nat} {L : qLo} {st : List Value} {M : qHp} {f : qCf} (C : qCx G p R s m args meth c z) (h : qStepI z .iastore k pc L st M = some (.inl f)) (hdg : decode (qB z) pc = .ok (.iastore, k)) (kk : qWp G p l e R s m args below meth c Q N0 S0 f) : qWp G p l e R s m args below meth c Q N0 S0 (pc, L, st, M) := by
  obtain ⟨hx, hb, hml, hown, hts, hTab, hin, hRm, hbase⟩ := C
  simp only [qStepI] at h
  split at h
  rotate_left
  · cases h
  rename_i hk
  subst hk
  split at h
  rotate_left
  · cases h
  obtain ⟨M1, hM1, h⟩ := Option.bind_eq_some_iff.mp h
  cases h
  obtain ⟨vs, hM, hi, hlt, rfl⟩ := hS_some hM1
  intro H locs ls hR hS hL hll
  have hc := hR.at hM
  unfold qCell at hc
  rw [if_neg (by show ¬ 8 < 8; omega), if_neg (by show ¬ 8 = 14; omega)] at hc
  have h4 := hR.four hM (by show 8 ≠ 14; omega)
  exact W.iast hx hb hc ((hTab.1.2 0 _ rfl).1 _ _) (fun q => by cases q) (by rw [arrV_size]; exact fun q => q.elim hi (fun q => absurd hlt (Nat.not_lt.mpr q))) rfl rfl hdg (fun H1 o1 o2 o3 => kk H1 _ ls (qArr_set hR hM ⟨by omega, by omega⟩ hlt (v := .int _) o1 o2 o3) (qS_put hS o2 o3 (adr_A h4)) hL hll)
theorem sd_bastore {k : Nat} {L : qLo} {st : List Value} {M : qHp} {f : qCf} (C : qCx G p R s m args meth c z) (h : qStepI z .bastore k pc L st M = some (.inl f)) (hdg : decode (qB z) pc = .ok (.bastore, k)) (kk : qWp G p l e R s m args below meth c Q N0 S0 f) : qWp G p l e R s m args below meth c Q N0 S0 (pc, L, st, M) := by
  obtain ⟨hx, hb, hml, hown, hts, hTab, hin, hRm, hbase⟩ := C
  simp only [qStepI] at h
  split at h
  rotate_left
  · cases h
  rename_i hk
  subst hk
  split at h
  rotate_left
  · cases h
  split at h
  rotate_left
  · cases h
  rename_i hx01
  obtain ⟨M1, hM1, h⟩ := Option.bind_eq_some_iff.mp h
  cases h
  obtain ⟨vs, hM, hi, hlt, rfl⟩ := hS_some hM1
  intro H locs ls hR hS hL hll
  have hc := hR.at hM
  unfold qCell at hc
  rw [if_neg (by show ¬ 9 < 8; omega), if_neg (by show ¬ 9 = 14; omega)] at hc
  have h4 := hR.four hM (by show 9 ≠ 14; omega)
  exact W.zast hx hb hc ((hTab.1.2 1 _ rfl).1 _ _) (fun q => by cases q) (by rw [arrV_size]; exact fun q => q.elim hi (fun q => absurd hlt (Nat.not_lt.mpr q))) rfl rfl hdg (fun H1 o1 o2 o3 => kk H1 _ ls (qArr_set hR hM ⟨by omega, by omega⟩ hlt (v := .int _) (by rw [o1]; rcases hx01 with rfl | rfl <;> rfl) o2 o3) (qS_put hS o2 o3 (adr_A h4)) hL hll)
theorem sd_castore {k : Nat} {L : qLo} {st : List Value} {M : qHp} {f : qCf} (C : qCx G p R s m args meth c z) (h : qStepI z .castore k pc L st M = some (.inl f)) (hdg : decode (qB z) pc = .ok (.castore, k)) (kk : qWp G p l e R s m args below meth c Q N0 S0 f) : qWp G p l e R s m args below meth c Q N0 S0 (pc, L, st, M) := by
  obtain ⟨hx, hb, hml, hown, hts, hTab, hin, hRm, hbase⟩ := C
  simp only [qStepI] at h
  split at h
  rotate_left
  · cases h
  rename_i hk
  subst hk
  split at h
  rotate_left
  · cases h
  split at h
  rotate_left
  · cases h
  rename_i hx01
  obtain ⟨M1, hM1, h⟩ := Option.bind_eq_some_iff.mp h
  cases h
  obtain ⟨vs, hM, hi, hlt, rfl⟩ := hS_some hM1
  intro H locs ls hR hS hL hll
  have hc := hR.at hM
  unfold qCell at hc
  rw [if_neg (by show ¬ 10 < 8; omega), if_neg (by show ¬ 10 = 14; omega)] at hc
  have h4 := hR.four hM (by show 10 ≠ 14; omega)
  have hnc := (qFit_ok (G := G) (ty := .char) (v := .int _) (by unfold qFit; exact decide_eq_true hx01)).1
  exact W.cast hx hb hc ((hTab.1.2 2 _ rfl).1 _ _) (fun q => by cases q) (by rw [arrV_size]; exact fun q => q.elim hi (fun q => absurd hlt (Nat.not_lt.mpr q))) rfl rfl hdg (fun H1 o1 o2 o3 => kk H1 _ ls (qArr_set hR hM ⟨by omega, by omega⟩ hlt (v := .int _) (o1.trans (congrArg (fun w => some ((arrV _ _ _).setSlot _ w)) hnc)) o2 o3) (qS_put hS o2 o3 (adr_A h4)) hL hll)
theorem sd_aastore {k : Nat} {L : qLo} {st : List Value} {M : qHp} {f : qCf} (C : qCx G p R s m args meth c z) (h : qStepI z .aastore k pc L st M = some (.inl f)) (hdg : decode (qB z) pc = .ok (.aastore, k)) (kk : qWp G p l e R s m args below meth c Q N0 S0 f) : qWp G p l e R s m args below meth c Q N0 S0 (pc, L, st, M) := by
  obtain ⟨hx, hb, hml, hown, hts, hTab, hin, hRm, hbase⟩ := C
  simp only [qStepI] at h
  split at h
  rotate_left
  · cases h
  rename_i hk
  subst hk
  split at h
  rotate_left
  · cases h
  obtain ⟨M1, hM1, h⟩ := Option.bind_eq_some_iff.mp h
  cases h
  obtain ⟨t, vs, ci, ws, hM, hMb, hco, hi, hlt, rfl⟩ := hSA_some hM1
  intro H locs ls hR hS hL hll
  have hc := hR.at hM
  have hcb := hR.at hMb
  unfold qCell at hc hcb
  obtain ⟨h8, ht, hRA⟩ : ci < 8 ∧ (8 ≤ t ∧ t ≠ 14) ∧ va_RA s (G.2.1.1 t) (.object (qR ci)) := by
    rcases qCo2_some hco with ⟨rfl, rfl⟩ | ⟨rfl, rfl⟩ | ⟨rfl, rfl⟩
    · exact ⟨by omega, ⟨by omega, by omega⟩, (hTab.1.2 3 _ rfl).2⟩
    · exact ⟨by omega, ⟨by omega, by omega⟩, (hTab.1.2 4 _ rfl).2⟩
    · exact ⟨by omega, ⟨by omega, by omega⟩, (hTab.1.2 5 _ rfl).2⟩
  rw [if_neg (by show ¬ t < 8; omega), if_neg (by show ¬ t = 14; exact ht.2)] at hc
  rw [if_pos h8] at hcb
  obtain ⟨cellV, g1, g2, g3, -⟩ := hcb.2
  have hcls := (hTab.1.1 ci _ (qCl_at _ h8)).2
  obtain ⟨kA, comp, k1, k2, k3, -⟩ := hRA
  have hcomp : comp = G.2.1.1 ci := Option.some.inj (k3.symm.trans hcls.1)
  subst hcomp
  obtain ⟨kC, hkC, -⟩ := hcls.2
  have h4 := hR.four hM (by show t ≠ 14; exact ht.2)
  exact W.aast hx hb hc (fun q h => by cases h) (fun h => by cases h) k1 k2 rfl hkC ⟨hi, by rw [arrV_size]; exact hlt⟩ g1 (fun q h => by rw [g3] at h; cases h) (by rw [g2]; exact hkC) (by rw [g2]; exact va_assign hcls) rfl rfl hdg (fun H1 o1 o2 o3 => kk H1 _ ls (qArr_set hR hM ht hlt (v := .ref _) o1 o2 o3) (qS_put hS o2 o3 (adr_A h4)) hL hll)
end QH
