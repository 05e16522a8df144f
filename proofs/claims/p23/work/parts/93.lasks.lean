/-! the law asks: batches, counts, routes, machines -/
section AQ
variable {N : qHp} {K : Nat → Sg} {d v x : Nat → Int32} {n u b m r : Nat}
theorem bq_0 (hn : K 0 0 1 = nI n) (h40 : n ≤ 40) (hb : b < n) : qRun 69 [.ref 4, .int (nI b), .int 0] (kW N K d v x) = some (some (.int (K 0 (11 + b) 0)), kW N K d v x) := s_69 (w := 0) hn h40 hb (by omega)
theorem bq_1 (hn : K 0 0 1 = nI n) (h40 : n ≤ 40) (hb : b < n) : qRun 69 [.ref 4, .int (nI b), .int 1] (kW N K d v x) = some (some (.int (K 0 (11 + b) 1)), kW N K d v x) := s_69 (w := 1) hn h40 hb (by omega)
theorem bq_2 (hn : K 0 0 1 = nI n) (h40 : n ≤ 40) (hb : b < n) : qRun 69 [.ref 4, .int (nI b), .int 2] (kW N K d v x) = some (some (.int (K 0 (11 + b) 2)), kW N K d v x) := s_69 (w := 2) hn h40 hb (by omega)
theorem bq_3 (hn : K 0 0 1 = nI n) (h40 : n ≤ 40) (hb : b < n) : qRun 69 [.ref 4, .int (nI b), .int 3] (kW N K d v x) = some (some (.int (K 0 (11 + b) 3)), kW N K d v x) := s_69 (w := 3) hn h40 hb (by omega)
theorem bq_4 (hn : K 0 0 1 = nI n) (h40 : n ≤ 40) (hb : b < n) : qRun 69 [.ref 4, .int (nI b), .int 4] (kW N K d v x) = some (some (.int (K 0 (11 + b) 4)), kW N K d v x) := s_69 (w := 4) hn h40 hb (by omega)
theorem bq_5 (hn : K 0 0 1 = nI n) (h40 : n ≤ 40) (hb : b < n) : qRun 69 [.ref 4, .int (nI b), .int 5] (kW N K d v x) = some (some (.int (K 0 (11 + b) 5)), kW N K d v x) := s_69 (w := 5) hn h40 hb (by omega)
theorem bq_6 (hn : K 0 0 1 = nI n) (h40 : n ≤ 40) (hb : b < n) : qRun 69 [.ref 4, .int (nI b), .int 6] (kW N K d v x) = some (some (.int (K 0 (11 + b) 6)), kW N K d v x) := s_69 (w := 6) hn h40 hb (by omega)
theorem bq_7 (hn : K 0 0 1 = nI n) (h40 : n ≤ 40) (hb : b < n) : qRun 69 [.ref 4, .int (nI b), .int 7] (kW N K d v x) = some (some (.int (K 0 (11 + b) 7)), kW N K d v x) := s_69 (w := 7) hn h40 hb (by omega)
theorem bq_8 (hn : K 0 0 1 = nI n) (h40 : n ≤ 40) (hb : b < n) : qRun 69 [.ref 4, .int (nI b), .int 8] (kW N K d v x) = some (some (.int (K 0 (11 + b) 8)), kW N K d v x) := s_69 (w := 8) hn h40 hb (by omega)
theorem bq_9 (hn : K 0 0 1 = nI n) (h40 : n ≤ 40) (hb : b < n) : qRun 69 [.ref 4, .int (nI b), .int 9] (kW N K d v x) = some (some (.int (K 0 (11 + b) 9)), kW N K d v x) := s_69 (w := 9) hn h40 hb (by omega)
theorem bq_10 (hn : K 0 0 1 = nI n) (h40 : n ≤ 40) (hb : b < n) : qRun 69 [.ref 4, .int (nI b), .int 10] (kW N K d v x) = some (some (.int (K 0 (11 + b) 10)), kW N K d v x) := s_69 (w := 10) hn h40 hb (by omega)
theorem cq_0 (hn : K 0 0 1 = nI n) (h40 : n ≤ 40) : qRun 72 [.ref 4, .int 0] (kW N K d v x) = some (some (.int (K 0 0 0)), kW N K d v x) := (s_72 (y := 0) hn h40).trans (by unfold cnV; simp)
theorem cq_1 (hn : K 0 0 1 = nI n) (h40 : n ≤ 40) : qRun 72 [.ref 4, .int 1] (kW N K d v x) = some (some (.int (K 0 0 1)), kW N K d v x) := (s_72 (y := 1) hn h40).trans (by unfold cnV; simp)
theorem cq_2 (hn : K 0 0 1 = nI n) (h40 : n ≤ 40) : qRun 72 [.ref 4, .int 2] (kW N K d v x) = some (some (.int (smF (K 0) 1 (-6) n)), kW N K d v x) := (s_72 (y := 2) hn h40).trans (by unfold cnV; simp)
theorem cq_3 (hn : K 0 0 1 = nI n) (h40 : n ≤ 40) : qRun 72 [.ref 4, .int 3] (kW N K d v x) = some (some (.int (K 0 0 2)), kW N K d v x) := (s_72 (y := 3) hn h40).trans (by unfold cnV; simp)
theorem cq_4 (hn : K 0 0 1 = nI n) (h40 : n ≤ 40) : qRun 72 [.ref 4, .int 4] (kW N K d v x) = some (some (.int (smF (K 0) 5 (-6) n)), kW N K d v x) := (s_72 (y := 4) hn h40).trans (by unfold cnV; simp)
theorem cq_5 (hn : K 0 0 1 = nI n) (h40 : n ≤ 40) : qRun 72 [.ref 4, .int 5] (kW N K d v x) = some (some (.int (K 0 0 3)), kW N K d v x) := (s_72 (y := 5) hn h40).trans (by unfold cnV; simp)
theorem cq_6 (hn : K 0 0 1 = nI n) (h40 : n ≤ 40) : qRun 72 [.ref 4, .int 6] (kW N K d v x) = some (some (.int (smF (K 0) 7 (-6) n)), kW N K d v x) := (s_72 (y := 6) hn h40).trans (by unfold cnV; simp)
theorem cq_7 (hn : K 0 0 1 = nI n) (h40 : n ≤ 40) : qRun 72 [.ref 4, .int 7] (kW N K d v x) = some (some (.int (smF (K 0) 8 (-6) n)), kW N K d v x) := (s_72 (y := 7) hn h40).trans (by unfold cnV; simp)
theorem cq_18 (hn : K 0 0 1 = nI n) (h40 : n ≤ 40) : qRun 72 [.ref 4, .int 18] (kW N K d v x) = some (some (.int (d 1)), kW N K d v x) := (s_72 (y := 18) hn h40).trans (by unfold cnV; simp)
theorem rq_1 (hn : K 0 0 1 = nI n) (h40 : n ≤ 40) (hr : r < 8) : qRun 71 [.ref 4, .int (nI r), .int 1] (kW N K d v x) = some (some (.int (smF (K 0) 7 (nI r) n)), kW N K d v x) := s_71 (w := 1) hr (by omega) hn h40
theorem rq_2 (hn : K 0 0 1 = nI n) (h40 : n ≤ 40) (hr : r < 8) : qRun 71 [.ref 4, .int (nI r), .int 2] (kW N K d v x) = some (some (.int (smF (K 0) 8 (nI r) n)), kW N K d v x) := s_71 (w := 2) hr (by omega) hn h40
theorem rq_4 (hn : K 0 0 1 = nI n) (h40 : n ≤ 40) (hr : r < 8) : qRun 71 [.ref 4, .int (nI r), .int 4] (kW N K d v x) = some (some (.int (smF (K 0) 1 (nI r) n)), kW N K d v x) := s_71 (w := 4) hr (by omega) hn h40
theorem mq_0 (hm : m < 3) : qRun 70 [.ref 4, .int (nI m), .int 0] (kW N K d v x) = some (some (.int (K 0 (3 + m) 0)), kW N K d v x) := s_70 (w := 0) hm (by omega)
theorem mq_1 (hm : m < 3) : qRun 70 [.ref 4, .int (nI m), .int 1] (kW N K d v x) = some (some (.int (K 0 6 m)), kW N K d v x) := s_70 (w := 1) hm (by omega)
theorem mq_2 (hm : m < 3) : qRun 70 [.ref 4, .int (nI m), .int 2] (kW N K d v x) = some (some (.int (K 0 (3 + m) 1)), kW N K d v x) := s_70 (w := 2) hm (by omega)
theorem mq_3 (hm : m < 3) : qRun 70 [.ref 4, .int (nI m), .int 3] (kW N K d v x) = some (some (.int (K 0 (3 + m) 2)), kW N K d v x) := s_70 (w := 3) hm (by omega)
theorem mq_4 (hm : m < 3) : qRun 70 [.ref 4, .int (nI m), .int 4] (kW N K d v x) = some (some (.int (K 0 (3 + m) 3)), kW N K d v x) := s_70 (w := 4) hm (by omega)
theorem lg_e {a : Int64} : (lg_cmp a a = 0) = True := eq_true (by unfold lg_cmp; simp)
theorem i_tt : ((1 : Int32) = 1) = True := eq_true rfl
theorem i_10 : ((1 : Int32) = 0) = False := eq_false (by decide)
theorem i_00 : ((0 : Int32) = 0) = True := eq_true rfl
end AQ
