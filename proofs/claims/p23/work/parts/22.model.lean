/-! the reference's minute, piece by piece: what each method makes of the day -/
theorem ld_now {M : qHp} {a : Nat} {s : Sg} : hLI (mW M a s) a (0) = some (.int (s (0) (0))) := ml (k := 0) (by omega) ⟨rfl, rfl⟩ rfl
theorem sv_now {M : qHp} {a : Nat} {s : Sg} {v : Int32} : hS (mW M a s) 8 a (0) (.int v) = some (mW M a (u2 s (0) (0) v)) := ms (k := 0) (by omega) ⟨rfl, rfl⟩ rfl
theorem ld_many {M : qHp} {a : Nat} {s : Sg} : hLI (mW M a s) a (1) = some (.int (s (0) (1))) := ml (k := 1) (by omega) ⟨rfl, rfl⟩ rfl
theorem sv_many {M : qHp} {a : Nat} {s : Sg} {v : Int32} : hS (mW M a s) 8 a (1) (.int v) = some (mW M a (u2 s (0) (1) v)) := ms (k := 1) (by omega) ⟨rfl, rfl⟩ rfl
theorem ld_set0 {M : qHp} {a : Nat} {s : Sg} : hLI (mW M a s) a (2) = some (.int (s (1) (0))) := ml (k := 2) (by omega) ⟨rfl, rfl⟩ rfl
theorem sv_set0 {M : qHp} {a : Nat} {s : Sg} {v : Int32} : hS (mW M a s) 8 a (2) (.int v) = some (mW M a (u2 s (1) (0) v)) := ms (k := 2) (by omega) ⟨rfl, rfl⟩ rfl
theorem ld_set1 {M : qHp} {a : Nat} {s : Sg} : hLI (mW M a s) a (3) = some (.int (s (1) (1))) := ml (k := 3) (by omega) ⟨rfl, rfl⟩ rfl
theorem sv_set1 {M : qHp} {a : Nat} {s : Sg} {v : Int32} : hS (mW M a s) 8 a (3) (.int v) = some (mW M a (u2 s (1) (1) v)) := ms (k := 3) (by omega) ⟨rfl, rfl⟩ rfl
theorem ld_set2 {M : qHp} {a : Nat} {s : Sg} : hLI (mW M a s) a (4) = some (.int (s (1) (2))) := ml (k := 4) (by omega) ⟨rfl, rfl⟩ rfl
theorem sv_set2 {M : qHp} {a : Nat} {s : Sg} {v : Int32} : hS (mW M a s) 8 a (4) (.int v) = some (mW M a (u2 s (1) (2) v)) := ms (k := 4) (by omega) ⟨rfl, rfl⟩ rfl
theorem ld_set3 {M : qHp} {a : Nat} {s : Sg} : hLI (mW M a s) a (5) = some (.int (s (1) (3))) := ml (k := 5) (by omega) ⟨rfl, rfl⟩ rfl
theorem sv_set3 {M : qHp} {a : Nat} {s : Sg} {v : Int32} : hS (mW M a s) 8 a (5) (.int v) = some (mW M a (u2 s (1) (3) v)) := ms (k := 5) (by omega) ⟨rfl, rfl⟩ rfl
theorem ld_set4 {M : qHp} {a : Nat} {s : Sg} : hLI (mW M a s) a (6) = some (.int (s (1) (4))) := ml (k := 6) (by omega) ⟨rfl, rfl⟩ rfl
theorem sv_set4 {M : qHp} {a : Nat} {s : Sg} {v : Int32} : hS (mW M a s) 8 a (6) (.int v) = some (mW M a (u2 s (1) (4) v)) := ms (k := 6) (by omega) ⟨rfl, rfl⟩ rfl
theorem ld_set5 {M : qHp} {a : Nat} {s : Sg} : hLI (mW M a s) a (7) = some (.int (s (1) (5))) := ml (k := 7) (by omega) ⟨rfl, rfl⟩ rfl
theorem sv_set5 {M : qHp} {a : Nat} {s : Sg} {v : Int32} : hS (mW M a s) 8 a (7) (.int v) = some (mW M a (u2 s (1) (5) v)) := ms (k := 7) (by omega) ⟨rfl, rfl⟩ rfl
theorem ld_set6 {M : qHp} {a : Nat} {s : Sg} : hLI (mW M a s) a (8) = some (.int (s (1) (6))) := ml (k := 8) (by omega) ⟨rfl, rfl⟩ rfl
theorem sv_set6 {M : qHp} {a : Nat} {s : Sg} {v : Int32} : hS (mW M a s) 8 a (8) (.int v) = some (mW M a (u2 s (1) (6) v)) := ms (k := 8) (by omega) ⟨rfl, rfl⟩ rfl
theorem ld_rej {M : qHp} {a : Nat} {s : Sg} : hLI (mW M a s) a (34) = some (.int (s (0) (2))) := ml (k := 34) (by omega) ⟨rfl, rfl⟩ rfl
theorem sv_rej {M : qHp} {a : Nat} {s : Sg} {v : Int32} : hS (mW M a s) 8 a (34) (.int v) = some (mW M a (u2 s (0) (2) v)) := ms (k := 34) (by omega) ⟨rfl, rfl⟩ rfl
theorem ld_cost {M : qHp} {a : Nat} {s : Sg} : hLI (mW M a s) a (35) = some (.int (s (0) (3))) := ml (k := 35) (by omega) ⟨rfl, rfl⟩ rfl
theorem sv_cost {M : qHp} {a : Nat} {s : Sg} {v : Int32} : hS (mW M a s) 8 a (35) (.int v) = some (mW M a (u2 s (0) (3) v)) := ms (k := 35) (by omega) ⟨rfl, rfl⟩ rfl
theorem ld_lined {M : qHp} {a : Nat} {s : Sg} : hLI (mW M a s) a (159) = some (.int (s (0) (4))) := ml (k := 159) (by omega) ⟨rfl, rfl⟩ rfl
theorem sv_lined {M : qHp} {a : Nat} {s : Sg} {v : Int32} : hS (mW M a s) 8 a (159) (.int v) = some (mW M a (u2 s (0) (4) v)) := ms (k := 159) (by omega) ⟨rfl, rfl⟩ rfl
theorem ld_line0 {M : qHp} {a : Nat} {s : Sg} : hLI (mW M a s) a (160) = some (.int (s (10) (0))) := ml (k := 160) (by omega) ⟨rfl, rfl⟩ rfl
theorem sv_line0 {M : qHp} {a : Nat} {s : Sg} {v : Int32} : hS (mW M a s) 8 a (160) (.int v) = some (mW M a (u2 s (10) (0) v)) := ms (k := 160) (by omega) ⟨rfl, rfl⟩ rfl
theorem ld_ran0 {M : qHp} {a : Nat} {s : Sg} : hLI (mW M a s) a (22) = some (.int (s (3) (3))) := ml (k := 22) (by omega) ⟨rfl, rfl⟩ rfl
theorem sv_ran0 {M : qHp} {a : Nat} {s : Sg} {v : Int32} : hS (mW M a s) 8 a (22) (.int v) = some (mW M a (u2 s (3) (3) v)) := ms (k := 22) (by omega) ⟨rfl, rfl⟩ rfl
theorem ld_ran1 {M : qHp} {a : Nat} {s : Sg} : hLI (mW M a s) a (27) = some (.int (s (4) (3))) := ml (k := 27) (by omega) ⟨rfl, rfl⟩ rfl
theorem sv_ran1 {M : qHp} {a : Nat} {s : Sg} {v : Int32} : hS (mW M a s) 8 a (27) (.int v) = some (mW M a (u2 s (4) (3) v)) := ms (k := 27) (by omega) ⟨rfl, rfl⟩ rfl
theorem ld_ran2 {M : qHp} {a : Nat} {s : Sg} : hLI (mW M a s) a (32) = some (.int (s (5) (3))) := ml (k := 32) (by omega) ⟨rfl, rfl⟩ rfl
theorem sv_ran2 {M : qHp} {a : Nat} {s : Sg} {v : Int32} : hS (mW M a s) 8 a (32) (.int v) = some (mW M a (u2 s (5) (3) v)) := ms (k := 32) (by omega) ⟨rfl, rfl⟩ rfl
theorem ld_speed {M : qHp} {a : Nat} {m : Nat} {s : Sg} (hm : m < 3) : hLI (mW M a s) a (8 + nI m) = some (.int (s (1) (6 + m))) := ml (k := 2 + (6 + m)) (by omega) (loc_set (by omega)) ((nI_add 8 m).trans (congrArg nI (by omega)))
theorem sv_speed {M : qHp} {a : Nat} {m : Nat} {s : Sg} {v : Int32} (hm : m < 3) : hS (mW M a s) 8 a (8 + nI m) (.int v) = some (mW M a (u2 s (1) (6 + m) v)) := ms (k := 2 + (6 + m)) (by omega) (loc_set (by omega)) ((nI_add 8 m).trans (congrArg nI (by omega)))
theorem ld_cut {M : qHp} {a : Nat} {r : Nat} {s : Sg} (hr : r < 8) : hLI (mW M a s) a (11 + nI r) = some (.int (s (2) (r))) := ml (k := 11 + r) (by omega) (loc_cut hr) (nI_add 11 r)
theorem sv_cut {M : qHp} {a : Nat} {r : Nat} {s : Sg} {v : Int32} (hr : r < 8) : hS (mW M a s) 8 a (11 + nI r) (.int v) = some (mW M a (u2 s (2) (r) v)) := ms (k := 11 + r) (by omega) (loc_cut hr) (nI_add 11 r)
theorem ld_setx {M : qHp} {a : Nat} {i : Nat} {s : Sg} (hi : i < 9) : hLI (mW M a s) a (2 + nI i) = some (.int (s (1) (i))) := ml (k := 2 + i) (by omega) (loc_set hi) (nI_add 2 i)
theorem sv_setx {M : qHp} {a : Nat} {i : Nat} {s : Sg} {v : Int32} (hi : i < 9) : hS (mW M a s) 8 a (2 + nI i) (.int v) = some (mW M a (u2 s (1) (i) v)) := ms (k := 2 + i) (by omega) (loc_set hi) (nI_add 2 i)
theorem ld_m0 {M : qHp} {a : Nat} {m : Nat} {s : Sg} (hm : m < 3) : hLI (mW M a s) a (19 + 5 * nI m) = some (.int (s (3 + m) (0))) := ml (k := 19 + 5 * m + 0) (by omega) (loc_mach hm (by omega)) (by rw [show (19 + 5 * nI m : Int32) = nI 19 + nI 5 * nI m from rfl, pk_mul, nI_add]; rfl)
theorem sv_m0 {M : qHp} {a : Nat} {m : Nat} {s : Sg} {v : Int32} (hm : m < 3) : hS (mW M a s) 8 a (19 + 5 * nI m) (.int v) = some (mW M a (u2 s (3 + m) (0) v)) := ms (k := 19 + 5 * m + 0) (by omega) (loc_mach hm (by omega)) (by rw [show (19 + 5 * nI m : Int32) = nI 19 + nI 5 * nI m from rfl, pk_mul, nI_add]; rfl)
theorem ld_m1 {M : qHp} {a : Nat} {m : Nat} {s : Sg} (hm : m < 3) : hLI (mW M a s) a (19 + 5 * nI m + 1) = some (.int (s (3 + m) (1))) := ml (k := 19 + 5 * m + 1) (by omega) (loc_mach hm (by omega)) (by rw [show (19 + 5 * nI m + 1 : Int32) = nI 19 + nI 5 * nI m + nI 1 from rfl, pk_mul, nI_add, nI_add])
theorem sv_m1 {M : qHp} {a : Nat} {m : Nat} {s : Sg} {v : Int32} (hm : m < 3) : hS (mW M a s) 8 a (19 + 5 * nI m + 1) (.int v) = some (mW M a (u2 s (3 + m) (1) v)) := ms (k := 19 + 5 * m + 1) (by omega) (loc_mach hm (by omega)) (by rw [show (19 + 5 * nI m + 1 : Int32) = nI 19 + nI 5 * nI m + nI 1 from rfl, pk_mul, nI_add, nI_add])
theorem ld_m2 {M : qHp} {a : Nat} {m : Nat} {s : Sg} (hm : m < 3) : hLI (mW M a s) a (19 + 5 * nI m + 2) = some (.int (s (3 + m) (2))) := ml (k := 19 + 5 * m + 2) (by omega) (loc_mach hm (by omega)) (by rw [show (19 + 5 * nI m + 2 : Int32) = nI 19 + nI 5 * nI m + nI 2 from rfl, pk_mul, nI_add, nI_add])
theorem sv_m2 {M : qHp} {a : Nat} {m : Nat} {s : Sg} {v : Int32} (hm : m < 3) : hS (mW M a s) 8 a (19 + 5 * nI m + 2) (.int v) = some (mW M a (u2 s (3 + m) (2) v)) := ms (k := 19 + 5 * m + 2) (by omega) (loc_mach hm (by omega)) (by rw [show (19 + 5 * nI m + 2 : Int32) = nI 19 + nI 5 * nI m + nI 2 from rfl, pk_mul, nI_add, nI_add])
theorem ld_m3 {M : qHp} {a : Nat} {m : Nat} {s : Sg} (hm : m < 3) : hLI (mW M a s) a (19 + 5 * nI m + 3) = some (.int (s (3 + m) (3))) := ml (k := 19 + 5 * m + 3) (by omega) (loc_mach hm (by omega)) (by rw [show (19 + 5 * nI m + 3 : Int32) = nI 19 + nI 5 * nI m + nI 3 from rfl, pk_mul, nI_add, nI_add])
theorem sv_m3 {M : qHp} {a : Nat} {m : Nat} {s : Sg} {v : Int32} (hm : m < 3) : hS (mW M a s) 8 a (19 + 5 * nI m + 3) (.int v) = some (mW M a (u2 s (3 + m) (3) v)) := ms (k := 19 + 5 * m + 3) (by omega) (loc_mach hm (by omega)) (by rw [show (19 + 5 * nI m + 3 : Int32) = nI 19 + nI 5 * nI m + nI 3 from rfl, pk_mul, nI_add, nI_add])
theorem ld_m4 {M : qHp} {a : Nat} {m : Nat} {s : Sg} (hm : m < 3) : hLI (mW M a s) a (19 + 5 * nI m + 4) = some (.int (s (3 + m) (4))) := ml (k := 19 + 5 * m + 4) (by omega) (loc_mach hm (by omega)) (by rw [show (19 + 5 * nI m + 4 : Int32) = nI 19 + nI 5 * nI m + nI 4 from rfl, pk_mul, nI_add, nI_add])
theorem sv_m4 {M : qHp} {a : Nat} {m : Nat} {s : Sg} {v : Int32} (hm : m < 3) : hS (mW M a s) 8 a (19 + 5 * nI m + 4) (.int v) = some (mW M a (u2 s (3 + m) (4) v)) := ms (k := 19 + 5 * m + 4) (by omega) (loc_mach hm (by omega)) (by rw [show (19 + 5 * nI m + 4 : Int32) = nI 19 + nI 5 * nI m + nI 4 from rfl, pk_mul, nI_add, nI_add])
theorem ld_qd {M : qHp} {a : Nat} {m : Nat} {s : Sg} (hm : m < 3) : hLI (mW M a s) a (36 + nI m) = some (.int (s (6) (m))) := ml (k := 36 + m) (by omega) (loc_qd hm) (nI_add 36 m)
theorem sv_qd {M : qHp} {a : Nat} {m : Nat} {s : Sg} {v : Int32} (hm : m < 3) : hS (mW M a s) 8 a (36 + nI m) (.int v) = some (mW M a (u2 s (6) (m) v)) := ms (k := 36 + m) (by omega) (loc_qd hm) (nI_add 36 m)
theorem ld_q0 {M : qHp} {a : Nat} {m : Nat} {s : Sg} (hm : m < 3) : hLI (mW M a s) a (39 + 40 * nI m) = some (.int (s (7 + m) (0))) := ml (k := 39 + 40 * m + 0) (by omega) (loc_q hm (by omega)) (by rw [show (39 + 40 * nI m : Int32) = nI 39 + nI 40 * nI m from rfl, pk_mul, nI_add]; rfl)
theorem sv_q0 {M : qHp} {a : Nat} {m : Nat} {s : Sg} {v : Int32} (hm : m < 3) : hS (mW M a s) 8 a (39 + 40 * nI m) (.int v) = some (mW M a (u2 s (7 + m) (0) v)) := ms (k := 39 + 40 * m + 0) (by omega) (loc_q hm (by omega)) (by rw [show (39 + 40 * nI m : Int32) = nI 39 + nI 40 * nI m from rfl, pk_mul, nI_add]; rfl)
theorem ld_q {M : qHp} {a : Nat} {m i : Nat} {s : Sg} (hm : m < 3) (hi : i < 40) : hLI (mW M a s) a (39 + 40 * nI m + nI i) = some (.int (s (7 + m) (i))) := ml (k := 39 + 40 * m + i) (by omega) (loc_q hm hi) (by rw [show (39 + 40 * nI m + nI i : Int32) = nI 39 + nI 40 * nI m + nI i from rfl, pk_mul, nI_add, nI_add])
theorem sv_q {M : qHp} {a : Nat} {m i : Nat} {s : Sg} {v : Int32} (hm : m < 3) (hi : i < 40) : hS (mW M a s) 8 a (39 + 40 * nI m + nI i) (.int v) = some (mW M a (u2 s (7 + m) (i) v)) := ms (k := 39 + 40 * m + i) (by omega) (loc_q hm hi) (by rw [show (39 + 40 * nI m + nI i : Int32) = nI 39 + nI 40 * nI m + nI i from rfl, pk_mul, nI_add, nI_add])
theorem ld_qn {M : qHp} {a : Nat} {m i : Nat} {s : Sg} (hm : m < 3) (hi : i < 40) : hLI (mW M a s) a (nI (39 + 40 * m + i)) = some (.int (s (7 + m) (i))) := ml (k := 39 + 40 * m + i) (by omega) (loc_q hm hi) rfl
theorem sv_qn {M : qHp} {a : Nat} {m i : Nat} {s : Sg} {v : Int32} (hm : m < 3) (hi : i < 40) : hS (mW M a s) 8 a (nI (39 + 40 * m + i)) (.int v) = some (mW M a (u2 s (7 + m) (i) v)) := ms (k := 39 + 40 * m + i) (by omega) (loc_q hm hi) rfl
theorem ld_qn1 {M : qHp} {a : Nat} {m i : Nat} {s : Sg} (hm : m < 3) (hi : i + 1 < 40) : hLI (mW M a s) a (nI (39 + 40 * m + i + 1)) = some (.int (s (7 + m) (i + 1))) := ml (k := 39 + 40 * m + (i + 1)) (by omega) (loc_q hm hi) rfl
theorem sv_qn1 {M : qHp} {a : Nat} {m i : Nat} {s : Sg} {v : Int32} (hm : m < 3) (hi : i + 1 < 40) : hS (mW M a s) 8 a (nI (39 + 40 * m + i + 1)) (.int v) = some (mW M a (u2 s (7 + m) (i + 1) v)) := ms (k := 39 + 40 * m + (i + 1)) (by omega) (loc_q hm hi) rfl
theorem ld_line {M : qHp} {a : Nat} {i : Nat} {s : Sg} (hi : i < 40) : hLI (mW M a s) a (160 + nI i) = some (.int (s (10) (i))) := ml (k := 160 + i) (by omega) (loc_line hi) (nI_add 160 i)
theorem sv_line {M : qHp} {a : Nat} {i : Nat} {s : Sg} {v : Int32} (hi : i < 40) : hS (mW M a s) 8 a (160 + nI i) (.int v) = some (mW M a (u2 s (10) (i) v)) := ms (k := 160 + i) (by omega) (loc_line hi) (nI_add 160 i)
theorem ld_linen {M : qHp} {a : Nat} {i : Nat} {s : Sg} (hi : i < 40) : hLI (mW M a s) a (nI (160 + i)) = some (.int (s (10) (i))) := ml (k := 160 + i) (by omega) (loc_line hi) rfl
theorem sv_linen {M : qHp} {a : Nat} {i : Nat} {s : Sg} {v : Int32} (hi : i < 40) : hS (mW M a s) 8 a (nI (160 + i)) (.int v) = some (mW M a (u2 s (10) (i) v)) := ms (k := 160 + i) (by omega) (loc_line hi) rfl
theorem ld_linen1 {M : qHp} {a : Nat} {i : Nat} {s : Sg} (hi : i + 1 < 40) : hLI (mW M a s) a (nI (160 + i + 1)) = some (.int (s (10) (i + 1))) := ml (k := 160 + (i + 1)) (by omega) (loc_line hi) rfl
theorem sv_linen1 {M : qHp} {a : Nat} {i : Nat} {s : Sg} {v : Int32} (hi : i + 1 < 40) : hS (mW M a s) 8 a (nI (160 + i + 1)) (.int v) = some (mW M a (u2 s (10) (i + 1) v)) := ms (k := 160 + (i + 1)) (by omega) (loc_line hi) rfl
def nN (x : Int32) : Nat := x.toNatClampNeg
theorem nN_nI {n : Nat} (h : n < 100000) : nN (nI n) = n := nI_clamp (by omega)
def itF (f : Nat → Sg → Sg) : Nat → Sg → Sg
  | 0, s => s
  | k + 1, s => f k (itF f k s)
theorem nI_lt_iff {a b : Nat} (ha : a < 100000) (hb : b < 100000) : (nI a < nI b) = (a < b) := propext (nI_ltI (by omega) (by omega))
theorem nI_le_iff {a b : Nat} (ha : a < 100000) (hb : b < 100000) : (nI a ≤ nI b) = (a ≤ b) := propext (nI_leI (by omega) (by omega))
theorem nI_eq_iff {a b : Nat} (ha : a < 100000) (hb : b < 100000) : (nI a = nI b) = (a = b) := propext (nI_eq (by omega) (by omega))
def dlF (s : Sg) (b : Nat) (d : Int32) : Sg := if s (11 + b) 9 = 0 then u2 s (11 + b) 9 d else s
def msF (s : Sg) (b : Nat) : Sg := if s (11 + b) 1 - s (11 + b) 7 ≤ s (11 + b) 8 then s else u2 s (11 + b) 8 (s (11 + b) 1 - s (11 + b) 7)
def cmF (s : Sg) (b m r q : Nat) : Sg :=
  let s1 := u2 s (7 + m) q (nI b)
  let s2 := u2 s1 6 m (s1 6 m + 1)
  let s3 := if s2 0 0 < s 2 r then s2 else dlF s2 b 4
  if s3 0 0 ≤ s 2 r then s3 else msF s3 b
def cmS (b : Nat) (s : Sg) : Sg := if s (11 + b) 3 = s 0 0 then cmF s b (nN (s (11 + b) 0)) (nN (s (11 + b) 2)) (nN (s 6 (nN (s (11 + b) 0)))) else s
def cmOK (n : Nat) (s : Sg) (b : Nat) : Prop := s 0 1 = nI n ∧ (s (11 + b) 3 = s 0 0 → ∃ m r q, m < 3 ∧ r < 8 ∧ q < 40 ∧ s (11 + b) 0 = nI m ∧ s (11 + b) 2 = nI r ∧ s 6 m = nI q)