/-! the reference's minute, piece by piece: what each method makes of the day -/
theorem ld_now {M : qHp} {a : Nat} {s : Sg} : hLI (mW M a s) a (0) = some (.int (s (0) (0))) := ml (k := 0) (by omega) ⟨rfl, rfl⟩ rfl
theorem sv_now {M : qHp} {a : Nat} {s : Sg} {v : Int32} : hS (mW M a s) 8 a (0) (.int v) = some (mW M a (u2 s (0) (0) v)) := ms (k := 0) (by omega) ⟨rfl, rfl⟩ rfl
theorem ld_many {M : qHp} {a : Nat} {s : Sg} : hLI (mW M a s) a (1) = some (.int (s (0) (1))) := ml (k := 1) (by omega) ⟨rfl, rfl⟩ rfl
theorem sv_many {M : qHp} {a : Nat} {s : Sg} {v : Int32} : hS (mW M a s) 8 a (1) (.int v) = some (mW M a (u2 s (0) (1) v)) := ms (k := 1) (by omega) ⟨rfl, rfl⟩ rfl
theorem ld_set0 {M : qHp} {a : Nat} {s : Sg} : hLI (mW M a s) a (2) = some (.int (s (1) (0))) := ml (k := 2) (by omega) ⟨rfl, rfl⟩ rfl
theorem sv_set0 {M : qHp} {a : Nat} {s : Sg} {v : Int32} : hS (mW M a s) 8 a (2) (.int v) = some (mW M a (u2 s (1) (0) v)) := ms (k := 2) (by omega) ⟨rfl, rfl⟩ rfl
theorem ld_set1 {M : qHp} {a : Nat} {s : Sg} : hLI (mW M a s) a (3) = some (.int (s (1) (1))) := ml (k := 3) (by omega) ⟨rfl, rfl⟩ rfl
theorem sv_set1 {M : qHp} {a : Nat} {s : Sg} {v : Int32} : hS (mW M a s) 8 a (3) (.int v) = some (mW M a (u2 s (1) (1) v)) := ms (k := 3) (by omega) ⟨rfl, rfl⟩ rfl
theorem ld_set2 {M : qHp} {a : Nat} {s : Sg} : hLI (mW M a s) a (4) = some (.int (s (1) (2))) := ml (k := 4) (by omega) ⟨rfl, rfl⟩ rfl
theorem sv_set2 {M : qHp} {a : Nat} {s : Sg} {v : Int32} : hS (mW M a s) 8 a (4) (.int v) = some (mW M a (u2 s (1) (2) v)) := ms (k := 4) (by omega) ⟨rfl, rfl⟩ rfl
theorem ld_set3 {M : qHp} {a : Nat} {s : Sg} : hLI (mW M a s) a (5) = some (.int (s (1) (3))) := ml (k := 5) (by omega) ⟨rfl, rfl⟩ rfl
theorem sv_set3 {M : qHp} {a : Nat} {s : Sg} {v : Int32} : hS (mW M a s) 8 a (5) (.int v) = some (mW M a (u2 s (1) (3) v)) := ms (k := 5) (by omega) ⟨rfl, rfl⟩ rfl
theorem ld_set4 {M : qHp} {a : Nat} {s : Sg} : hLI (mW M a s) a (6) = some (.int (s (1) (4))) := ml (k := 6) (by omega) ⟨rfl, rfl⟩ rfl
theorem sv_set4 {M : qHp} {a : Nat} {s : Sg} {v : Int32} : hS (mW M a s) 8 a (6) (.int v) = some (mW M a (u2 s (1) (4) v)) := ms (k := 6) (by omega) ⟨rfl, rfl⟩ rfl
theorem ld_set5 {M : qHp} {a : Nat} {s : Sg} : hLI (mW M a s) a (7) = some (.int (s (1) (5))) := ml (k := 7) (by omega) ⟨rfl, rfl⟩ rfl
theorem sv_set5 {M : qHp} {a : Nat} {s : Sg} {v : Int32} : hS (mW M a s) 8 a (7) (.int v) = some (mW M a (u2 s (1) (5) v)) := ms (k := 7) (by omega) ⟨rfl, rfl⟩ rfl
theorem ld_set6 {M : qHp} {a : Nat} {s : Sg} : hLI (mW M a s) a (8) = some (.int (s (1) (6))) := ml (k := 8) (by omega) ⟨rfl, rfl⟩ rfl
theorem sv_set6 {M : qHp} {a : Nat} {s : Sg} {v : Int32} : hS (mW M a s) 8 a (8) (.int v) = some (mW M a (u2 s (1) (6) v)) := ms (k := 8) (by omega) ⟨rfl, rfl⟩ rfl
theorem ld_rej {M : qHp} {a : Nat} {s : Sg} : hLI (mW M a s) a (34) = some (.int (s (0) (2))) := ml (k := 34) (by omega) ⟨rfl, rfl⟩ rfl
theorem sv_rej {M : qHp} {a : Nat} {s : Sg} {v : Int32} : hS (mW M a s) 8 a (34) (.int v) = some (mW M a (u2 s (0) (2) v)) := ms (k := 34) (by omega) ⟨rfl, rfl⟩ rfl
theorem ld_cost {M : qHp} {a : Nat} {s : Sg} : hLI (mW M a s) a (35) = some (.int (s (0) (3))) := ml (k := 35) (by omega) ⟨rfl, rfl⟩ rfl
theorem sv_cost {M : qHp} {a : Nat} {s : Sg} {v : Int32} : hS (mW M a s) 8 a (35) (.int v) = some (mW M a (u2 s (0) (3) v)) := ms (k := 35) (by omega) ⟨rfl, rfl⟩ rfl
theorem ld_lined {M : qHp} {a : Nat} {s : Sg} : hLI (mW M a s) a (159) = some (.int (s (0) (4))) := ml (k := 159) (by omega) ⟨rfl, rfl⟩ rfl
theorem sv_lined {M : qHp} {a : Nat} {s : Sg} {v : Int32} : hS (mW M a s) 8 a (159) (.int v) = some (mW M a (u2 s (0) (4) v)) := ms (k := 159) (by omega) ⟨rfl, rfl⟩ rfl
theorem ld_line0 {M : qHp} {a : Nat} {s : Sg} : hLI (mW M a s) a (160) = some (.int (s (10) (0))) := ml (k := 160) (by omega) ⟨rfl, rfl⟩ rfl
theorem sv_line0 {M : qHp} {a : Nat} {s : Sg} {v : Int32} : hS (mW M a s) 8 a (160) (.int v) = some (mW M a (u2 s (10) (0) v)) := ms (k := 160) (by omega) ⟨rfl, rfl⟩ rfl
theorem ld_ran0 {M : qHp} {a : Nat} {s : Sg} : hLI (mW M a s) a (22) = some (.int (s (3) (3))) := ml (k := 22) (by omega) ⟨rfl, rfl⟩ rfl
theorem sv_ran0 {M : qHp} {a : Nat} {s : Sg} {v : Int32} : hS (mW M a s) 8 a (22) (.int v) = some (mW M a (u2 s (3) (3) v)) := ms (k := 22) (by omega) ⟨rfl, rfl⟩ rfl
theorem ld_ran1 {M : qHp} {a : Nat} {s : Sg} : hLI (mW M a s) a (27) = some (.int (s (4) (3))) := ml (k := 27) (by omega) ⟨rfl, rfl⟩ rfl
theorem sv_ran1 {M : qHp} {a : Nat} {s : Sg} {v : Int32} : hS (mW M a s) 8 a (27) (.int v) = some (mW M a (u2 s (4) (3) v)) := ms (k := 27) (by omega) ⟨rfl, rfl⟩ rfl
theorem ld_ran2 {M : qHp} {a : Nat} {s : Sg} : hLI (mW M a s) a (32) = some (.int (s (5) (3))) := ml (k := 32) (by omega) ⟨rfl, rfl⟩ rfl
theorem sv_ran2 {M : qHp} {a : Nat} {s : Sg} {v : Int32} : hS (mW M a s) 8 a (32) (.int v) = some (mW M a (u2 s (5) (3) v)) := ms (k := 32) (by omega) ⟨rfl, rfl⟩ rfl
theorem ld_speed {M : qHp} {a : Nat} {m : Nat} {s : Sg} (hm : m < 3) : hLI (mW M a s) a (8 + nI m) = some (.int (s (1) (6 + m))) := ml (k := 2 + (6 + m)) (by omega) (loc_set (by omega)) ((nI_add 8 m).trans (congrArg nI (by omega)))
theorem sv_speed {M : qHp} {a : Nat} {m : Nat} {s : Sg} {v : Int32} (hm : m < 3) : hS (mW M a s) 8 a (8 + nI m) (.int v) = some (mW M a (u2 s (1) (6 + m) v)) := ms (k := 2 + (6 + m)) (by omega) (loc_set (by omega)) ((nI_add 8 m).trans (congrArg nI (by omega)))
theorem ld_cut {M : qHp} {a : Nat} {r : Nat} {s : Sg} (hr : r < 8) : hLI (mW M a s) a (11 + nI r) = some (.int (s (2) (r))) := ml (k := 11 + r) (by omega) (loc_cut hr) (nI_add 11 r)
theorem sv_cut {M : qHp} {a : Nat} {r : Nat} {s : Sg} {v : Int32} (hr : r < 8) : hS (mW M a s) 8 a (11 + nI r) (.int v) = some (mW M a (u2 s (2) (r) v)) := ms (k := 11 + r) (by omega) (loc_cut hr) (nI_add 11 r)
theorem ld_setx {M : qHp} {a : Nat} {i : Nat} {s : Sg} (hi : i < 9) : hLI (mW M a s) a (2 + nI i) = some (.int (s (1) (i))) := ml (k := 2 + i) (by omega) (loc_set hi) (nI_add 2 i)
theorem sv_setx {M : qHp} {a : Nat} {i : Nat} {s : Sg} {v : Int32} (hi : i < 9) : hS (mW M a s) 8 a (2 + nI i) (.int v) = some (mW M a (u2 s (1) (i) v)) := ms (k := 2 + i) (by omega) (loc_set hi) (nI_add 2 i)
theorem ld_m0 {M : qHp} {a : Nat} {m : Nat} {s : Sg} (hm : m < 3) : hLI (mW M a s) a (19 + 5 * nI m) = some (.int (s (3 + m) (0))) := ml (k := 19 + 5 * m + 0) (by omega) (loc_mach hm (by omega)) (by rw [show (19 + 5 * nI m : Int32) = nI 19 + nI 5 * nI m from rfl, pk_mul, nI_add]; rfl)
theorem sv_m0 {M : qHp} {a : Nat} {m : Nat} {s : Sg} {v : Int32} (hm : m < 3) : hS (mW M a s) 8 a (19 + 5 * nI m) (.int v) = some (mW M a (u2 s (3 + m) (0) v)) := ms (k := 19 + 5 * m + 0) (by omega) (loc_mach hm (by omega)) (by rw [show (19 + 5 * nI m : Int32) = nI 19 + nI 5 * nI m from rfl, pk_mul, nI_add]; rfl)
theorem ld_m1 {M : qHp} {a : Nat} {m : Nat} {s : Sg} (hm : m < 3) : hLI (mW M a s) a (19 + 5 * nI m + 1) = some (.int (s (3 + m) (1))) := ml (k := 19 + 5 * m + 1) (by omega) (loc_mach hm (by omega)) (by rw [show (19 + 5 * nI m + 1 : Int32) = nI 19 + nI 5 * nI m + nI 1 from rfl, pk_mul, nI_add, nI_add])
theorem sv_m1 {M : qHp} {a : Nat} {m : Nat} {s : Sg} {v : Int32} (hm : m < 3) : hS (mW M a s) 8 a (19 + 5 * nI m + 1) (.int v) = some (mW M a (u2 s (3 + m) (1) v)) := ms (k := 19 + 5 * m + 1) (by omega) (loc_mach hm (by omega)) (by rw [show (19 + 5 * nI m + 1 : Int32) = nI 19 + nI 5 * nI m + nI 1 from rfl, pk_mul, nI_add, nI_add])
theorem ld_m2 {M : qHp} {a : Nat} {m : Nat} {s : Sg} (hm : m < 3) : hLI (mW M a s) a (19 + 5 * nI m + 2) = some (.int (s (3 + m) (2))) := ml (k := 19 + 5 * m + 2) (by omega) (loc_mach hm (by omega)) (by rw [show (19 + 5 * nI m + 2 : Int32) = nI 19 + nI 5 * nI m + nI 2 from rfl, pk_mul, nI_add, nI_add])
theorem sv_m2 {M : qHp} {a : Nat} {m : Nat} {s : Sg} {v : Int32} (hm : m < 3) : hS (mW M a s) 8 a (19 + 5 * nI m + 2) (.int v) = some (mW M a (u2 s (3 + m) (2) v)) := ms (k := 19 + 5 * m + 2) (by omega) (loc_mach hm (by omega)) (by rw [show (19 + 5 * nI m + 2 : Int32) = nI 19 + nI 5 * nI m + nI 2 from rfl, pk_mul, nI_add, nI_add])
theorem ld_m3 {M : qHp} {a : Nat} {m : Nat} {s : Sg} (hm : m < 3) : hLI (mW M a s) a (19 + 5 * nI m + 3) = some (.int (s (3 + m) (3))) := ml (k := 19 + 5 * m + 3) (by omega) (loc_mach hm (by omega)) (by rw [show (19 + 5 * nI m + 3 : Int32) = nI 19 + nI 5 * nI m + nI 3 from rfl, pk_mul, nI_add, nI_add])
theorem sv_m3 {M : qHp} {a : Nat} {m : Nat} {s : Sg} {v : Int32} (hm : m < 3) : hS (mW M a s) 8 a (19 + 5 * nI m + 3) (.int v) = some (mW M a (u2 s (3 + m) (3) v)) := ms (k := 19 + 5 * m + 3) (by omega) (loc_mach hm (by omega)) (by rw [show (19 + 5 * nI m + 3 : Int32) = nI 19 + nI 5 * nI m + nI 3 from rfl, pk_mul, nI_add, nI_add])
theorem ld_m4 {M : qHp} {a : Nat} {m : Nat} {s : Sg} (hm : m < 3) : hLI (mW M a s) a (19 + 5 * nI m + 4) = some (.int (s (3 + m) (4))) := ml (k := 19 + 5 * m + 4) (by omega) (loc_mach hm (by omega)) (by rw [show (19 + 5 * nI m + 4 : Int32) = nI 19 + nI 5 * nI m + nI 4 from rfl, pk_mul, nI_add, nI_add])
theorem sv_m4 {M : qHp} {a : Nat} {m : Nat} {s : Sg} {v : Int32} (hm : m < 3) : hS (mW M a s) 8 a (19 + 5 * nI m + 4) (.int v) = some (mW M a (u2 s (3 + m) (4) v)) := ms (k := 19 + 5 * m + 4) (by omega) (loc_mach hm (by omega)) (by rw [show (19 + 5 * nI m + 4 : Int32) = nI 19 + nI 5 * nI m + nI 4 from rfl, pk_mul, nI_add, nI_add])
theorem ld_qd {M : qHp} {a : Nat} {m : Nat} {s : Sg} (hm : m < 3) : hLI (mW M a s) a (36 + nI m) = some (.int (s (6) (m))) := ml (k := 36 + m) (by omega) (loc_qd hm) (nI_add 36 m)
theorem sv_qd {M : qHp} {a : Nat} {m : Nat} {s : Sg} {v : Int32} (hm : m < 3) : hS (mW M a s) 8 a (36 + nI m) (.int v) = some (mW M a (u2 s (6) (m) v)) := ms (k := 36 + m) (by omega) (loc_qd hm) (nI_add 36 m)
theorem ld_q0 {M : qHp} {a : Nat} {m : Nat} {s : Sg} (hm : m < 3) : hLI (mW M a s) a (39 + 40 * nI m) = some (.int (s (7 + m) (0))) := ml (k := 39 + 40 * m + 0) (by omega) (loc_q hm (by omega)) (by rw [show (39 + 40 * nI m : Int32) = nI 39 + nI 40 * nI m from rfl, pk_mul, nI_add]; rfl)
theorem sv_q0 {M : qHp} {a : Nat} {m : Nat} {s : Sg} {v : Int32} (hm : m < 3) : hS (mW M a s) 8 a (39 + 40 * nI m) (.int v) = some (mW M a (u2 s (7 + m) (0) v)) := ms (k := 39 + 40 * m + 0) (by omega) (loc_q hm (by omega)) (by rw [show (39 + 40 * nI m : Int32) = nI 39 + nI 40 * nI m from rfl, pk_mul, nI_add]; rfl)
theorem ld_q {M : qHp} {a : Nat} {m i : Nat} {s : Sg} (hm : m < 3) (hi : i < 40) : hLI (mW M a s) a (39 + 40 * nI m + nI i) = some (.int (s (7 + m) (i))) := ml (k := 39 + 40 * m + i) (by omega) (loc_q hm hi) (by rw [show (39 + 40 * nI m + nI i : Int32) = nI 39 + nI 40 * nI m + nI i from rfl, pk_mul, nI_add, nI_add])
theorem sv_q {M : qHp} {a : Nat} {m i : Nat} {s : Sg} {v : Int32} (hm : m < 3) (hi : i < 40) : hS (mW M a s) 8 a (39 + 40 * nI m + nI i) (.int v) = some (mW M a (u2 s (7 + m) (i) v)) := ms (k := 39 + 40 * m + i) (by omega) (loc_q hm hi) (by rw [show (39 + 40 * nI m + nI i : Int32) = nI 39 + nI 40 * nI m + nI i from rfl, pk_mul, nI_add, nI_add])
theorem ld_qn {M : qHp} {a : Nat} {m i : Nat} {s : Sg} (hm : m < 3) (hi : i < 40) : hLI (mW M a s) a (nI (39 + 40 * m + i)) = some (.int (s (7 + m) (i))) := ml (k := 39 + 40 * m + i) (by omega) (loc_q hm hi) rfl
theorem sv_qn {M : qHp} {a : Nat} {m i : Nat} {s : Sg} {v : Int32} (hm : m < 3) (hi : i < 40) : hS (mW M a s) 8 a (nI (39 + 40 * m + i)) (.int v) = some (mW M a (u2 s (7 + m) (i) v)) := ms (k := 39 + 40 * m + i) (by omega) (loc_q hm hi) rfl
theorem ld_qn1 {M : qHp} {a : Nat} {m i : Nat} {s : Sg} (hm : m < 3) (hi : i + 1 < 40) : hLI (mW M a s) a (nI (39 + 40 * m + i + 1)) = some (.int (s (7 + m) (i + 1))) := ml (k := 39 + 40 * m + (i + 1)) (by omega) (loc_q hm hi) rfl
theorem sv_qn1 {M : qHp} {a : Nat} {m i : Nat} {s : Sg} {v : Int32} (hm : m < 3) (hi : i + 1 < 40) : hS (mW M a s) 8 a (nI (39 + 40 * m + i + 1)) (.int v) = some (mW M a (u2 s (7 + m) (i + 1) v)) := ms (k := 39 + 40 * m + (i + 1)) (by omega) (loc_q hm hi) rfl
theorem ld_line {M : qHp} {a : Nat} {i : Nat} {s : Sg} (hi : i < 40) : hLI (mW M a s) a (160 + nI i) = some (.int (s (10) (i))) := ml (k := 160 + i) (by omega) (loc_line hi) (nI_add 160 i)
theorem sv_line {M : qHp} {a : Nat} {i : Nat} {s : Sg} {v : Int32} (hi : i < 40) : hS (mW M a s) 8 a (160 + nI i) (.int v) = some (mW M a (u2 s (10) (i) v)) := ms (k := 160 + i) (by omega) (loc_line hi) (nI_add 160 i)
theorem ld_linen {M : qHp} {a : Nat} {i : Nat} {s : Sg} (hi : i < 40) : hLI (mW M a s) a (nI (160 + i)) = some (.int (s (10) (i))) := ml (k := 160 + i) (by omega) (loc_line hi) rfl
theorem sv_linen {M : qHp} {a : Nat} {i : Nat} {s : Sg} {v : Int32} (hi : i < 40) : hS (mW M a s) 8 a (nI (160 + i)) (.int v) = some (mW M a (u2 s (10) (i) v)) := ms (k := 160 + i) (by omega) (loc_line hi) rfl
theorem ld_linen1 {M : qHp} {a : Nat} {i : Nat} {s : Sg} (hi : i + 1 < 40) : hLI (mW M a s) a (nI (160 + i + 1)) = some (.int (s (10) (i + 1))) := ml (k := 160 + (i + 1)) (by omega) (loc_line hi) rfl
theorem sv_linen1 {M : qHp} {a : Nat} {i : Nat} {s : Sg} {v : Int32} (hi : i + 1 < 40) : hS (mW M a s) 8 a (nI (160 + i + 1)) (.int v) = some (mW M a (u2 s (10) (i + 1) v)) := ms (k := 160 + (i + 1)) (by omega) (loc_line hi) rfl
theorem of_0 {M : qHp} {a b : Nat} {s : Sg} (hb : b < 40) : qRun 88 [.ref a, .int (nI b), .int 0] (mW M a s) = some (some (.int (s (11 + b) 0)), mW M a s) := s_88 (w := 0) hb (by omega)
theorem ps_0 {M : qHp} {a b : Nat} {s : Sg} {v : Int32} (hb : b < 40) : qRun 89 [.ref a, .int (nI b), .int 0, .int v] (mW M a s) = some (none, mW M a (u2 s (11 + b) 0 v)) := s_89 (w := 0) hb (by omega)
theorem of_1 {M : qHp} {a b : Nat} {s : Sg} (hb : b < 40) : qRun 88 [.ref a, .int (nI b), .int 1] (mW M a s) = some (some (.int (s (11 + b) 1)), mW M a s) := s_88 (w := 1) hb (by omega)
theorem ps_1 {M : qHp} {a b : Nat} {s : Sg} {v : Int32} (hb : b < 40) : qRun 89 [.ref a, .int (nI b), .int 1, .int v] (mW M a s) = some (none, mW M a (u2 s (11 + b) 1 v)) := s_89 (w := 1) hb (by omega)
theorem of_2 {M : qHp} {a b : Nat} {s : Sg} (hb : b < 40) : qRun 88 [.ref a, .int (nI b), .int 2] (mW M a s) = some (some (.int (s (11 + b) 2)), mW M a s) := s_88 (w := 2) hb (by omega)
theorem ps_2 {M : qHp} {a b : Nat} {s : Sg} {v : Int32} (hb : b < 40) : qRun 89 [.ref a, .int (nI b), .int 2, .int v] (mW M a s) = some (none, mW M a (u2 s (11 + b) 2 v)) := s_89 (w := 2) hb (by omega)
theorem of_3 {M : qHp} {a b : Nat} {s : Sg} (hb : b < 40) : qRun 88 [.ref a, .int (nI b), .int 3] (mW M a s) = some (some (.int (s (11 + b) 3)), mW M a s) := s_88 (w := 3) hb (by omega)
theorem ps_3 {M : qHp} {a b : Nat} {s : Sg} {v : Int32} (hb : b < 40) : qRun 89 [.ref a, .int (nI b), .int 3, .int v] (mW M a s) = some (none, mW M a (u2 s (11 + b) 3 v)) := s_89 (w := 3) hb (by omega)
theorem of_4 {M : qHp} {a b : Nat} {s : Sg} (hb : b < 40) : qRun 88 [.ref a, .int (nI b), .int 4] (mW M a s) = some (some (.int (s (11 + b) 4)), mW M a s) := s_88 (w := 4) hb (by omega)
theorem ps_4 {M : qHp} {a b : Nat} {s : Sg} {v : Int32} (hb : b < 40) : qRun 89 [.ref a, .int (nI b), .int 4, .int v] (mW M a s) = some (none, mW M a (u2 s (11 + b) 4 v)) := s_89 (w := 4) hb (by omega)
theorem of_5 {M : qHp} {a b : Nat} {s : Sg} (hb : b < 40) : qRun 88 [.ref a, .int (nI b), .int 5] (mW M a s) = some (some (.int (s (11 + b) 5)), mW M a s) := s_88 (w := 5) hb (by omega)
theorem ps_5 {M : qHp} {a b : Nat} {s : Sg} {v : Int32} (hb : b < 40) : qRun 89 [.ref a, .int (nI b), .int 5, .int v] (mW M a s) = some (none, mW M a (u2 s (11 + b) 5 v)) := s_89 (w := 5) hb (by omega)
theorem of_6 {M : qHp} {a b : Nat} {s : Sg} (hb : b < 40) : qRun 88 [.ref a, .int (nI b), .int 6] (mW M a s) = some (some (.int (s (11 + b) 6)), mW M a s) := s_88 (w := 6) hb (by omega)
theorem ps_6 {M : qHp} {a b : Nat} {s : Sg} {v : Int32} (hb : b < 40) : qRun 89 [.ref a, .int (nI b), .int 6, .int v] (mW M a s) = some (none, mW M a (u2 s (11 + b) 6 v)) := s_89 (w := 6) hb (by omega)
theorem of_7 {M : qHp} {a b : Nat} {s : Sg} (hb : b < 40) : qRun 88 [.ref a, .int (nI b), .int 7] (mW M a s) = some (some (.int (s (11 + b) 7)), mW M a s) := s_88 (w := 7) hb (by omega)
theorem ps_7 {M : qHp} {a b : Nat} {s : Sg} {v : Int32} (hb : b < 40) : qRun 89 [.ref a, .int (nI b), .int 7, .int v] (mW M a s) = some (none, mW M a (u2 s (11 + b) 7 v)) := s_89 (w := 7) hb (by omega)
theorem of_8 {M : qHp} {a b : Nat} {s : Sg} (hb : b < 40) : qRun 88 [.ref a, .int (nI b), .int 8] (mW M a s) = some (some (.int (s (11 + b) 8)), mW M a s) := s_88 (w := 8) hb (by omega)
theorem ps_8 {M : qHp} {a b : Nat} {s : Sg} {v : Int32} (hb : b < 40) : qRun 89 [.ref a, .int (nI b), .int 8, .int v] (mW M a s) = some (none, mW M a (u2 s (11 + b) 8 v)) := s_89 (w := 8) hb (by omega)
theorem of_9 {M : qHp} {a b : Nat} {s : Sg} (hb : b < 40) : qRun 88 [.ref a, .int (nI b), .int 9] (mW M a s) = some (some (.int (s (11 + b) 9)), mW M a s) := s_88 (w := 9) hb (by omega)
theorem ps_9 {M : qHp} {a b : Nat} {s : Sg} {v : Int32} (hb : b < 40) : qRun 89 [.ref a, .int (nI b), .int 9, .int v] (mW M a s) = some (none, mW M a (u2 s (11 + b) 9 v)) := s_89 (w := 9) hb (by omega)
theorem of_10 {M : qHp} {a b : Nat} {s : Sg} (hb : b < 40) : qRun 88 [.ref a, .int (nI b), .int 10] (mW M a s) = some (some (.int (s (11 + b) 10)), mW M a s) := s_88 (w := 10) hb (by omega)
theorem ps_10 {M : qHp} {a b : Nat} {s : Sg} {v : Int32} (hb : b < 40) : qRun 89 [.ref a, .int (nI b), .int 10, .int v] (mW M a s) = some (none, mW M a (u2 s (11 + b) 10 v)) := s_89 (w := 10) hb (by omega)
def nN (x : Int32) : Nat := x.toNatClampNeg
theorem nN_nI {n : Nat} (h : n < 100000) : nN (nI n) = n := nI_clamp (by omega)
def itF (f : Nat → Sg → Sg) : Nat → Sg → Sg
  | 0, s => s
  | k + 1, s => f k (itF f k s)
theorem nI_lt_iff {a b : Nat} (ha : a < 100000) (hb : b < 100000) : (nI a < nI b) = (a < b) := propext (nI_ltI (by omega) (by omega))
theorem nI_le_iff {a b : Nat} (ha : a < 100000) (hb : b < 100000) : (nI a ≤ nI b) = (a ≤ b) := propext (nI_leI (by omega) (by omega))
theorem nI_eq_iff {a b : Nat} (ha : a < 100000) (hb : b < 100000) : (nI a = nI b) = (a = b) := propext (nI_eq (by omega) (by omega))
def dlF (s : Sg) (b : Nat) (d : Int32) : Sg := if s (11 + b) 9 = 0 then u2 s (11 + b) 9 d else s
theorem s_98 {M : qHp} {a b : Nat} {d : Int32} {s : Sg} (hb : b < 40) : qRun 98 [.ref a, .int (nI b), .int d] (mW M a s) = some (none, mW M a (dlF s b d)) := by
  refine qRun_of ?_ rfl
  rw [en_98]
  unfold dlF
  by_cases h : s (11 + b) 9 = 0
  · simp only [x_98_0, x_98_1, x_98_2, x_98_4, x_98_7, x_98_10, x_98_11, x_98_12, x_98_14, x_98_15, x_98_18, Option.bind_some, Option.bind_none, Option.toList_some, Option.toList_none, List.cons_append, List.nil_append, pNl_i, pNl_r, pNl_u, pNl_n, bI_0, bI_1, nn_or, or_nn, not_false_eq_true, not_true_eq_false, i1000, i1e0, true_or, or_true, Decidable.not_not, if_true, if_false, Bool.false_eq_true, Int32.zero_add, true_and, and_true, ld_now, sv_now, ld_many, sv_many, ld_set0, sv_set0, ld_set1, sv_set1, ld_set2, sv_set2, ld_set3, sv_set3, ld_set4, sv_set4, ld_set5, sv_set5, ld_set6, sv_set6, ld_rej, sv_rej, ld_cost, sv_cost, ld_lined, sv_lined, ld_line0, sv_line0, ld_ran0, sv_ran0, ld_ran1, sv_ran1, ld_ran2, sv_ran2, ld_speed, sv_speed, ld_cut, sv_cut, ld_setx, sv_setx, ld_m0, sv_m0, ld_m1, sv_m1, ld_m2, sv_m2, ld_m3, sv_m3, ld_m4, sv_m4, ld_qd, sv_qd, ld_q0, sv_q0, ld_q, sv_q, ld_qn, sv_qn, ld_qn1, sv_qn1, ld_line, sv_line, ld_linen, sv_linen, ld_linen1, sv_linen1, of_0, of_1, of_2, of_3, of_4, of_5, of_6, of_7, of_8, of_9, of_10, ps_0, ps_1, ps_2, ps_3, ps_4, ps_5, ps_6, ps_7, ps_8, ps_9, ps_10, hb, h]
  · simp only [x_98_0, x_98_1, x_98_2, x_98_4, x_98_7, x_98_10, x_98_11, x_98_12, x_98_14, x_98_15, x_98_18, Option.bind_some, Option.bind_none, Option.toList_some, Option.toList_none, List.cons_append, List.nil_append, pNl_i, pNl_r, pNl_u, pNl_n, bI_0, bI_1, nn_or, or_nn, not_false_eq_true, not_true_eq_false, i1000, i1e0, true_or, or_true, Decidable.not_not, if_true, if_false, Bool.false_eq_true, Int32.zero_add, true_and, and_true, ld_now, sv_now, ld_many, sv_many, ld_set0, sv_set0, ld_set1, sv_set1, ld_set2, sv_set2, ld_set3, sv_set3, ld_set4, sv_set4, ld_set5, sv_set5, ld_set6, sv_set6, ld_rej, sv_rej, ld_cost, sv_cost, ld_lined, sv_lined, ld_line0, sv_line0, ld_ran0, sv_ran0, ld_ran1, sv_ran1, ld_ran2, sv_ran2, ld_speed, sv_speed, ld_cut, sv_cut, ld_setx, sv_setx, ld_m0, sv_m0, ld_m1, sv_m1, ld_m2, sv_m2, ld_m3, sv_m3, ld_m4, sv_m4, ld_qd, sv_qd, ld_q0, sv_q0, ld_q, sv_q, ld_qn, sv_qn, ld_qn1, sv_qn1, ld_line, sv_line, ld_linen, sv_linen, ld_linen1, sv_linen1, of_0, of_1, of_2, of_3, of_4, of_5, of_6, of_7, of_8, of_9, of_10, ps_0, ps_1, ps_2, ps_3, ps_4, ps_5, ps_6, ps_7, ps_8, ps_9, ps_10, hb, h]
def msF (s : Sg) (b : Nat) : Sg := if s (11 + b) 1 - s (11 + b) 7 ≤ s (11 + b) 8 then s else u2 s (11 + b) 8 (s (11 + b) 1 - s (11 + b) 7)
theorem s_99 {M : qHp} {a b : Nat} {s : Sg} (hb : b < 40) : qRun 99 [.ref a, .int (nI b)] (mW M a s) = some (none, mW M a (msF s b)) := by
  refine qRun_of ?_ rfl
  rw [en_99]
  unfold msF
  by_cases h : s (11 + b) 1 - s (11 + b) 7 ≤ s (11 + b) 8
  · simp only [x_99_0, x_99_1, x_99_2, x_99_3, x_99_6, x_99_7, x_99_8, x_99_10, x_99_13, x_99_14, x_99_15, x_99_16, x_99_17, x_99_18, x_99_20, x_99_23, x_99_26, x_99_27, x_99_28, x_99_30, x_99_31, x_99_34, Option.bind_some, Option.bind_none, Option.toList_some, Option.toList_none, List.cons_append, List.nil_append, pNl_i, pNl_r, pNl_u, pNl_n, bI_0, bI_1, nn_or, or_nn, not_false_eq_true, not_true_eq_false, i1000, i1e0, true_or, or_true, Decidable.not_not, if_true, if_false, Bool.false_eq_true, Int32.zero_add, true_and, and_true, ld_now, sv_now, ld_many, sv_many, ld_set0, sv_set0, ld_set1, sv_set1, ld_set2, sv_set2, ld_set3, sv_set3, ld_set4, sv_set4, ld_set5, sv_set5, ld_set6, sv_set6, ld_rej, sv_rej, ld_cost, sv_cost, ld_lined, sv_lined, ld_line0, sv_line0, ld_ran0, sv_ran0, ld_ran1, sv_ran1, ld_ran2, sv_ran2, ld_speed, sv_speed, ld_cut, sv_cut, ld_setx, sv_setx, ld_m0, sv_m0, ld_m1, sv_m1, ld_m2, sv_m2, ld_m3, sv_m3, ld_m4, sv_m4, ld_qd, sv_qd, ld_q0, sv_q0, ld_q, sv_q, ld_qn, sv_qn, ld_qn1, sv_qn1, ld_line, sv_line, ld_linen, sv_linen, ld_linen1, sv_linen1, of_0, of_1, of_2, of_3, of_4, of_5, of_6, of_7, of_8, of_9, of_10, ps_0, ps_1, ps_2, ps_3, ps_4, ps_5, ps_6, ps_7, ps_8, ps_9, ps_10, hb, h]
  · simp only [x_99_0, x_99_1, x_99_2, x_99_3, x_99_6, x_99_7, x_99_8, x_99_10, x_99_13, x_99_14, x_99_15, x_99_16, x_99_17, x_99_18, x_99_20, x_99_23, x_99_26, x_99_27, x_99_28, x_99_30, x_99_31, x_99_34, Option.bind_some, Option.bind_none, Option.toList_some, Option.toList_none, List.cons_append, List.nil_append, pNl_i, pNl_r, pNl_u, pNl_n, bI_0, bI_1, nn_or, or_nn, not_false_eq_true, not_true_eq_false, i1000, i1e0, true_or, or_true, Decidable.not_not, if_true, if_false, Bool.false_eq_true, Int32.zero_add, true_and, and_true, ld_now, sv_now, ld_many, sv_many, ld_set0, sv_set0, ld_set1, sv_set1, ld_set2, sv_set2, ld_set3, sv_set3, ld_set4, sv_set4, ld_set5, sv_set5, ld_set6, sv_set6, ld_rej, sv_rej, ld_cost, sv_cost, ld_lined, sv_lined, ld_line0, sv_line0, ld_ran0, sv_ran0, ld_ran1, sv_ran1, ld_ran2, sv_ran2, ld_speed, sv_speed, ld_cut, sv_cut, ld_setx, sv_setx, ld_m0, sv_m0, ld_m1, sv_m1, ld_m2, sv_m2, ld_m3, sv_m3, ld_m4, sv_m4, ld_qd, sv_qd, ld_q0, sv_q0, ld_q, sv_q, ld_qn, sv_qn, ld_qn1, sv_qn1, ld_line, sv_line, ld_linen, sv_linen, ld_linen1, sv_linen1, of_0, of_1, of_2, of_3, of_4, of_5, of_6, of_7, of_8, of_9, of_10, ps_0, ps_1, ps_2, ps_3, ps_4, ps_5, ps_6, ps_7, ps_8, ps_9, ps_10, hb, h]
def cmF (s : Sg) (b m r q : Nat) : Sg :=
  let s1 := u2 s (7 + m) q (nI b)
  let s2 := u2 s1 6 m (s1 6 m + 1)
  let s3 := if s2 0 0 < s 2 r then s2 else dlF s2 b 4
  if s3 0 0 ≤ s 2 r then s3 else msF s3 b
def cmS (b : Nat) (s : Sg) : Sg := if s (11 + b) 3 = s 0 0 then cmF s b (nN (s (11 + b) 0)) (nN (s (11 + b) 2)) (nN (s 6 (nN (s (11 + b) 0)))) else s
def cmOK (n : Nat) (s : Sg) (b : Nat) : Prop := s 0 1 = nI n ∧ (s (11 + b) 3 = s 0 0 → ∃ m r q, m < 3 ∧ r < 8 ∧ q < 40 ∧ s (11 + b) 0 = nI m ∧ s (11 + b) 2 = nI r ∧ s 6 m = nI q)
theorem s_100 {M : qHp} {a n : Nat} {s : Sg} (hn : n ≤ 40) (h1 : ∀ b, b ≤ n → cmOK n (itF cmS b s) b ∨ (b = n ∧ (itF cmS n s) 0 1 = nI n)) : qRun 100 [.ref a] (mW M a s) = some (none, mW M a (itF cmS n s)) := by
  have loop : ∀ (k b : Nat) (l2 l3 : Option Value), b + k = n → qEx 100 (2, [some (.ref a), some (.int (nI b)), l2, l3], [], mW M a (itF cmS b s)) = some (none, mW M a (itF cmS n s)) := by
    intro k
    induction k with
    | zero =>
      intro b l2 l3 hb
      have hbn : b = n := by omega
      subst hbn
      have hm : (itF cmS b s) 0 1 = nI b := by
        rcases h1 b (Nat.le_refl _) with h | h
        · exact h.1
        · exact h.2
      simp only [x_100_0, x_100_1, x_100_2, x_100_3, x_100_4, x_100_5, x_100_6, x_100_9, x_100_10, x_100_11, x_100_12, x_100_15, x_100_16, x_100_17, x_100_18, x_100_21, x_100_22, x_100_23, x_100_24, x_100_27, x_100_28, x_100_29, x_100_31, x_100_32, x_100_33, x_100_34, x_100_37, x_100_38, x_100_39, x_100_40, x_100_41, x_100_43, x_100_45, x_100_46, x_100_47, x_100_48, x_100_49, x_100_51, x_100_52, x_100_53, x_100_54, x_100_55, x_100_56, x_100_57, x_100_58, x_100_60, x_100_61, x_100_62, x_100_63, x_100_64, x_100_65, x_100_66, x_100_67, x_100_68, x_100_69, x_100_70, x_100_71, x_100_74, x_100_75, x_100_76, x_100_77, x_100_80, x_100_81, x_100_82, x_100_83, x_100_84, x_100_87, x_100_88, x_100_89, x_100_92, x_100_95, x_100_98, Option.bind_some, Option.bind_none, Option.toList_some, Option.toList_none, List.cons_append, List.nil_append, pNl_i, pNl_r, pNl_u, pNl_n, bI_0, bI_1, nn_or, or_nn, not_false_eq_true, not_true_eq_false, i1000, i1e0, true_or, or_true, Decidable.not_not, if_true, if_false, Bool.false_eq_true, Int32.zero_add, true_and, and_true, ld_now, sv_now, ld_many, sv_many, ld_set0, sv_set0, ld_set1, sv_set1, ld_set2, sv_set2, ld_set3, sv_set3, ld_set4, sv_set4, ld_set5, sv_set5, ld_set6, sv_set6, ld_rej, sv_rej, ld_cost, sv_cost, ld_lined, sv_lined, ld_line0, sv_line0, ld_ran0, sv_ran0, ld_ran1, sv_ran1, ld_ran2, sv_ran2, ld_speed, sv_speed, ld_cut, sv_cut, ld_setx, sv_setx, ld_m0, sv_m0, ld_m1, sv_m1, ld_m2, sv_m2, ld_m3, sv_m3, ld_m4, sv_m4, ld_qd, sv_qd, ld_q0, sv_q0, ld_q, sv_q, ld_qn, sv_qn, ld_qn1, sv_qn1, ld_line, sv_line, ld_linen, sv_linen, ld_linen1, sv_linen1, of_0, of_1, of_2, of_3, of_4, of_5, of_6, of_7, of_8, of_9, of_10, ps_0, ps_1, ps_2, ps_3, ps_4, ps_5, ps_6, ps_7, ps_8, ps_9, ps_10, hm, Int32.le_refl]
    | succ k ih =>
      intro b l2 l3 hb
      have hb40 : b < 40 := by omega
      obtain ⟨hm, hc⟩ : cmOK n (itF cmS b s) b := by
        rcases h1 b (by omega) with h | h
        · exact h
        · omega
      have hlt : (nI n ≤ nI b) = False := by rw [nI_le_iff (by omega) (by omega)]; simp; omega
      have ih2 := fun l2 l3 => ih (b + 1) l2 l3 (by omega)
      have hst : itF cmS (b + 1) s = cmS b (itF cmS b s) := rfl
      rw [hst] at ih2
      generalize itF cmS b s = t at hm hc ih2 ⊢
      by_cases he : t (11 + b) 3 = t 0 0
      · obtain ⟨m, r, q, hm3, hr8, hq40, e0, e2, e6⟩ := hc he
        have hcm : cmS b t = cmF t b m r q := by
          unfold cmS
          rw [if_pos he, e0, e2, nN_nI (by omega), nN_nI (by omega), e6, nN_nI (by omega)]
        rw [hcm] at ih2
        unfold cmF at ih2
        dsimp only at ih2
        rw [x_100_2]
        simp only [x_100_0, x_100_1, x_100_3, x_100_4, x_100_5, x_100_6, x_100_9, x_100_10, x_100_11, x_100_12, x_100_15, x_100_16, x_100_17, x_100_18, x_100_21, x_100_22, x_100_23, x_100_24, x_100_27, x_100_28, x_100_29, x_100_31, x_100_32, x_100_33, x_100_34, x_100_37, x_100_38, x_100_39, x_100_40, x_100_41, x_100_43, x_100_45, x_100_46, x_100_47, x_100_48, x_100_49, x_100_51, x_100_52, x_100_53, x_100_54, x_100_55, x_100_56, x_100_57, x_100_58, x_100_60, x_100_61, x_100_62, x_100_63, x_100_64, x_100_65, x_100_66, x_100_67, x_100_68, x_100_69, x_100_70, x_100_71, x_100_74, x_100_75, x_100_76, x_100_77, x_100_80, x_100_81, x_100_82, x_100_83, x_100_84, x_100_87, x_100_88, x_100_89, x_100_92, x_100_95, x_100_98, Option.bind_some, Option.bind_none, Option.toList_some, Option.toList_none, List.cons_append, List.nil_append, pNl_i, pNl_r, pNl_u, pNl_n, bI_0, bI_1, nn_or, or_nn, not_false_eq_true, not_true_eq_false, i1000, i1e0, true_or, or_true, Decidable.not_not, if_true, if_false, Bool.false_eq_true, Int32.zero_add, true_and, and_true, ld_now, sv_now, ld_many, sv_many, ld_set0, sv_set0, ld_set1, sv_set1, ld_set2, sv_set2, ld_set3, sv_set3, ld_set4, sv_set4, ld_set5, sv_set5, ld_set6, sv_set6, ld_rej, sv_rej, ld_cost, sv_cost, ld_lined, sv_lined, ld_line0, sv_line0, ld_ran0, sv_ran0, ld_ran1, sv_ran1, ld_ran2, sv_ran2, ld_speed, sv_speed, ld_cut, sv_cut, ld_setx, sv_setx, ld_m0, sv_m0, ld_m1, sv_m1, ld_m2, sv_m2, ld_m3, sv_m3, ld_m4, sv_m4, ld_qd, sv_qd, ld_q0, sv_q0, ld_q, sv_q, ld_qn, sv_qn, ld_qn1, sv_qn1, ld_line, sv_line, ld_linen, sv_linen, ld_linen1, sv_linen1, of_0, of_1, of_2, of_3, of_4, of_5, of_6, of_7, of_8, of_9, of_10, ps_0, ps_1, ps_2, ps_3, ps_4, ps_5, ps_6, ps_7, ps_8, ps_9, ps_10, hm, hlt, hb40, he, e0, e2, e6, hm3, hr8, hq40, s_98, s_99, nI_1]
        by_cases c1 : (u2 (u2 t (7 + m) q (nI b)) 6 m (u2 t (7 + m) q (nI b) 6 m + 1)) 0 0 < t 2 r
        · simp only [c1, if_true] at ih2 ⊢
          by_cases c2 : (u2 (u2 t (7 + m) q (nI b)) 6 m (u2 t (7 + m) q (nI b) 6 m + 1)) 0 0 ≤ t 2 r
          · simp only [c2, if_true] at ih2 ⊢
            exact ih2 _ _
          · simp only [c2, if_false] at ih2 ⊢
            exact ih2 _ _
        · simp only [c1, if_false] at ih2 ⊢
          by_cases c2 : (dlF (u2 (u2 t (7 + m) q (nI b)) 6 m (u2 t (7 + m) q (nI b) 6 m + 1)) b 4) 0 0 ≤ t 2 r
          · simp only [c2, if_true] at ih2 ⊢
            exact ih2 _ _
          · simp only [c2, if_false] at ih2 ⊢
            exact ih2 _ _
      · have hcm : cmS b t = t := by unfold cmS; rw [if_neg he]
        rw [hcm] at ih2
        rw [x_100_2]
        simp only [x_100_0, x_100_1, x_100_3, x_100_4, x_100_5, x_100_6, x_100_9, x_100_10, x_100_11, x_100_12, x_100_15, x_100_16, x_100_17, x_100_18, x_100_21, x_100_22, x_100_23, x_100_24, x_100_27, x_100_28, x_100_29, x_100_31, x_100_32, x_100_33, x_100_34, x_100_37, x_100_38, x_100_39, x_100_40, x_100_41, x_100_43, x_100_45, x_100_46, x_100_47, x_100_48, x_100_49, x_100_51, x_100_52, x_100_53, x_100_54, x_100_55, x_100_56, x_100_57, x_100_58, x_100_60, x_100_61, x_100_62, x_100_63, x_100_64, x_100_65, x_100_66, x_100_67, x_100_68, x_100_69, x_100_70, x_100_71, x_100_74, x_100_75, x_100_76, x_100_77, x_100_80, x_100_81, x_100_82, x_100_83, x_100_84, x_100_87, x_100_88, x_100_89, x_100_92, x_100_95, x_100_98, Option.bind_some, Option.bind_none, Option.toList_some, Option.toList_none, List.cons_append, List.nil_append, pNl_i, pNl_r, pNl_u, pNl_n, bI_0, bI_1, nn_or, or_nn, not_false_eq_true, not_true_eq_false, i1000, i1e0, true_or, or_true, Decidable.not_not, if_true, if_false, Bool.false_eq_true, Int32.zero_add, true_and, and_true, ld_now, sv_now, ld_many, sv_many, ld_set0, sv_set0, ld_set1, sv_set1, ld_set2, sv_set2, ld_set3, sv_set3, ld_set4, sv_set4, ld_set5, sv_set5, ld_set6, sv_set6, ld_rej, sv_rej, ld_cost, sv_cost, ld_lined, sv_lined, ld_line0, sv_line0, ld_ran0, sv_ran0, ld_ran1, sv_ran1, ld_ran2, sv_ran2, ld_speed, sv_speed, ld_cut, sv_cut, ld_setx, sv_setx, ld_m0, sv_m0, ld_m1, sv_m1, ld_m2, sv_m2, ld_m3, sv_m3, ld_m4, sv_m4, ld_qd, sv_qd, ld_q0, sv_q0, ld_q, sv_q, ld_qn, sv_qn, ld_qn1, sv_qn1, ld_line, sv_line, ld_linen, sv_linen, ld_linen1, sv_linen1, of_0, of_1, of_2, of_3, of_4, of_5, of_6, of_7, of_8, of_9, of_10, ps_0, ps_1, ps_2, ps_3, ps_4, ps_5, ps_6, ps_7, ps_8, ps_9, ps_10, hm, hlt, hb40, he, nI_1]
        exact ih2 _ _
  refine qRun_of ?_ rfl
  rw [en_100]
  rw [x_100_0, x_100_1 pNl_r]
  exact loop n 0 none none (by omega)
