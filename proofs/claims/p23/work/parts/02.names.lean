/-! tables of the program: classes 0 to 9, fields, methods 0 to 150 by number, links; by program out of the task's listing (wip/whole/gen02.py) -/
def qRL : List String := ["LetterRuns$Batch", "LetterRuns$Centre", "LetterRuns$History", "LetterRuns$Machine", "LetterRuns$Pad", "LetterRuns$Row", "LetterRuns", "LetterRuns$Batch", "LetterRunsLaw", "java/lang/Math"]
def qR (c : Nat) : String := qRL.getD c ""
def qT0 : u_T := fun k => match k with
  | 0 => ("LetterRuns$Batch", "shape", "I", false)
  | 1 => ("LetterRuns$Batch", "pieces", "I", false)
  | 2 => ("LetterRuns$Batch", "route", "I", false)
  | 3 => ("LetterRuns$Batch", "minute", "I", false)
  | 4 => ("LetterRuns$Batch", "withMachine", "I", false)
  | 5 => ("LetterRuns$Batch", "withHands", "I", false)
  | 6 => ("LetterRuns$Batch", "sorted", "I", false)
  | 7 => ("LetterRuns$Batch", "gone", "I", false)
  | 8 => ("LetterRuns$Batch", "missed", "I", false)
  | 9 => ("LetterRuns$Batch", "delay", "I", false)
  | _ => ("LetterRuns$Batch", "sortedAt", "I", false)
def qV0 : Nat → FieldType := fun k => match k with
  | 0 => .int
  | 1 => .int
  | 2 => .int
  | 3 => .int
  | 4 => .int
  | 5 => .int
  | 6 => .int
  | 7 => .int
  | 8 => .int
  | 9 => .int
  | _ => .int
def qT1 : u_T := fun k => match k with
  | 0 => ("LetterRuns$Centre", "settings", "[I", true)
  | 1 => ("LetterRuns$Centre", "cutoffs", "[I", true)
  | 2 => ("LetterRuns$Centre", "batches", "[LLetterRuns$Batch;", true)
  | 3 => ("LetterRuns$Centre", "machines", "[LLetterRuns$Machine;", true)
  | 4 => ("LetterRuns$Centre", "hands", "LLetterRuns$Row;", true)
  | 5 => ("LetterRuns$Centre", "batchCount", "I", false)
  | 6 => ("LetterRuns$Centre", "now", "I", false)
  | 7 => ("LetterRuns$Centre", "machineSorted", "I", false)
  | 8 => ("LetterRuns$Centre", "rejects", "I", false)
  | 9 => ("LetterRuns$Centre", "costs", "I", false)
  | _ => ("LetterRuns$Centre", "nextEvent", "I", false)
def qV1 : Nat → FieldType := fun k => match k with
  | 0 => (.array .int)
  | 1 => (.array .int)
  | 2 => (.array (.object "LetterRuns$Batch"))
  | 3 => (.array (.object "LetterRuns$Machine"))
  | 4 => (.object "LetterRuns$Row")
  | 5 => .int
  | 6 => .int
  | 7 => .int
  | 8 => .int
  | 9 => .int
  | _ => .int
def qT2 : u_T := fun k => match k with
  | 0 => ("LetterRuns$History", "states", "[LLetterRuns$Centre;", true)
  | 1 => ("LetterRuns$History", "first", "I", false)
  | _ => ("LetterRuns$History", "size", "I", false)
def qV2 : Nat → FieldType := fun k => match k with
  | 0 => (.array (.object "LetterRuns$Centre"))
  | 1 => .int
  | _ => .int
def qT3 : u_T := fun k => match k with
  | 0 => ("LetterRuns$Machine", "queue", "LLetterRuns$Row;", true)
  | 1 => ("LetterRuns$Machine", "batch", "I", false)
  | 2 => ("LetterRuns$Machine", "setupLeft", "I", false)
  | 3 => ("LetterRuns$Machine", "lastRoute", "I", false)
  | 4 => ("LetterRuns$Machine", "sorted", "I", false)
  | _ => ("LetterRuns$Machine", "setups", "I", false)
def qV3 : Nat → FieldType := fun k => match k with
  | 0 => (.object "LetterRuns$Row")
  | 1 => .int
  | 2 => .int
  | 3 => .int
  | 4 => .int
  | _ => .int
def qT4 : u_T := fun k => match k with
  | 0 => ("LetterRuns$Pad", "text", "[C", true)
  | 1 => ("LetterRuns$Pad", "length", "I", false)
  | 2 => ("LetterRuns$Pad", "place", "I", false)
  | 3 => ("LetterRuns$Pad", "order", "C", false)
  | 4 => ("LetterRuns$Pad", "pieces", "I", false)
  | 5 => ("LetterRuns$Pad", "route", "I", false)
  | _ => ("LetterRuns$Pad", "number", "I", false)
def qV4 : Nat → FieldType := fun k => match k with
  | 0 => (.array .char)
  | 1 => .int
  | 2 => .int
  | 3 => .char
  | 4 => .int
  | 5 => .int
  | _ => .int
def qT5 : u_T := fun k => match k with
  | 0 => ("LetterRuns$Row", "numbers", "[I", true)
  | _ => ("LetterRuns$Row", "size", "I", false)
def qV5 : Nat → FieldType := fun k => match k with
  | 0 => (.array .int)
  | _ => .int
def qT6 : u_T := fun k => match k with
  | 0 => ("LetterRuns", "centre", "LLetterRuns$Centre;", true)
  | 1 => ("LetterRuns", "trial", "LLetterRuns$Centre;", true)
  | 2 => ("LetterRuns", "slots", "[LLetterRuns$Centre;", true)
  | 3 => ("LetterRuns", "saved", "[Z", true)
  | 4 => ("LetterRuns", "history", "LLetterRuns$History;", true)
  | _ => ("LetterRuns", "pad", "LLetterRuns$Pad;", true)
def qV6 : Nat → FieldType := fun k => match k with
  | 0 => (.object "LetterRuns$Centre")
  | 1 => (.object "LetterRuns$Centre")
  | 2 => (.array (.object "LetterRuns$Centre"))
  | 3 => (.array .boolean)
  | 4 => (.object "LetterRuns$History")
  | _ => (.object "LetterRuns$Pad")
def qT7 : u_T := fun k => match k with
  | 0 => ("LetterRuns$Batch", "shape", "I", false)
  | 1 => ("LetterRuns$Batch", "pieces", "I", false)
  | 2 => ("LetterRuns$Batch", "route", "I", false)
  | 3 => ("LetterRuns$Batch", "minute", "I", false)
  | 4 => ("LetterRuns$Batch", "withMachine", "I", false)
  | 5 => ("LetterRuns$Batch", "withHands", "I", false)
  | 6 => ("LetterRuns$Batch", "sorted", "I", false)
  | 7 => ("LetterRuns$Batch", "gone", "I", false)
  | 8 => ("LetterRuns$Batch", "missed", "I", false)
  | 9 => ("LetterRuns$Batch", "delay", "I", false)
  | _ => ("LetterRuns$Batch", "sortedAt", "I", false)
def qV7 : Nat → FieldType := fun k => match k with
  | 0 => .int
  | 1 => .int
  | 2 => .int
  | 3 => .int
  | 4 => .int
  | 5 => .int
  | 6 => .int
  | 7 => .int
  | 8 => .int
  | 9 => .int
  | _ => .int
def qT (c : Nat) : u_T := match c with
  | 0 => qT0
  | 1 => qT1
  | 2 => qT2
  | 3 => qT3
  | 4 => qT4
  | 5 => qT5
  | 6 => qT6
  | _ => qT7
def qV (c : Nat) : Nat → FieldType := match c with
  | 0 => qV0
  | 1 => qV1
  | 2 => qV2
  | 3 => qV3
  | 4 => qV4
  | 5 => qV5
  | 6 => qV6
  | _ => qV7
def qNL : List Nat := [11, 11, 3, 6, 7, 2, 6, 11]
def qN (c : Nat) : Nat := qNL.getD c 0
def qCl : List vw_C := [(qR 0, qT 0, qN 0), (qR 1, qT 1, qN 1), (qR 2, qT 2, qN 2), (qR 3, qT 3, qN 3), (qR 4, qT 4, qN 4), (qR 5, qT 5, qN 5), (qR 6, qT 6, qN 6), (qR 7, qT 7, qN 7)]
theorem qCl_at : ∀ c, c < 8 → qCl[c]? = some (qR c, qT c, qN c) := fun c h => by
  match c, h with
  | 0, _ => rfl
  | 1, _ => rfl
  | 2, _ => rfl
  | 3, _ => rfl
  | 4, _ => rfl
  | 5, _ => rfl
  | 6, _ => rfl
  | 7, _ => rfl
theorem qnm0 : ∀ a, a < 11 → ∀ b, b < 11 → a ≠ b → (qT0 a).2.1 ≠ (qT0 b).2.1 := by decide +kernel
theorem qty0 : ∀ k, k < 11 → parseFieldDescriptor (qT0 k).2.2.1 = some (qV0 k) := by decide +kernel
theorem qdc0 : ∀ k, k < 11 → (qT0 k).1 = "LetterRuns$Batch" := by decide +kernel
theorem qnm1 : ∀ a, a < 11 → ∀ b, b < 11 → a ≠ b → (qT1 a).2.1 ≠ (qT1 b).2.1 := by decide +kernel
theorem qty1 : ∀ k, k < 11 → parseFieldDescriptor (qT1 k).2.2.1 = some (qV1 k) := by decide +kernel
theorem qdc1 : ∀ k, k < 11 → (qT1 k).1 = "LetterRuns$Centre" := by decide +kernel
theorem qnm2 : ∀ a, a < 3 → ∀ b, b < 3 → a ≠ b → (qT2 a).2.1 ≠ (qT2 b).2.1 := by decide +kernel
theorem qty2 : ∀ k, k < 3 → parseFieldDescriptor (qT2 k).2.2.1 = some (qV2 k) := by decide +kernel
theorem qdc2 : ∀ k, k < 3 → (qT2 k).1 = "LetterRuns$History" := by decide +kernel
theorem qnm3 : ∀ a, a < 6 → ∀ b, b < 6 → a ≠ b → (qT3 a).2.1 ≠ (qT3 b).2.1 := by decide +kernel
theorem qty3 : ∀ k, k < 6 → parseFieldDescriptor (qT3 k).2.2.1 = some (qV3 k) := by decide +kernel
theorem qdc3 : ∀ k, k < 6 → (qT3 k).1 = "LetterRuns$Machine" := by decide +kernel
theorem qnm4 : ∀ a, a < 7 → ∀ b, b < 7 → a ≠ b → (qT4 a).2.1 ≠ (qT4 b).2.1 := by decide +kernel
theorem qty4 : ∀ k, k < 7 → parseFieldDescriptor (qT4 k).2.2.1 = some (qV4 k) := by decide +kernel
theorem qdc4 : ∀ k, k < 7 → (qT4 k).1 = "LetterRuns$Pad" := by decide +kernel
theorem qnm5 : ∀ a, a < 2 → ∀ b, b < 2 → a ≠ b → (qT5 a).2.1 ≠ (qT5 b).2.1 := by decide +kernel
theorem qty5 : ∀ k, k < 2 → parseFieldDescriptor (qT5 k).2.2.1 = some (qV5 k) := by decide +kernel
theorem qdc5 : ∀ k, k < 2 → (qT5 k).1 = "LetterRuns$Row" := by decide +kernel
theorem qnm6 : ∀ a, a < 6 → ∀ b, b < 6 → a ≠ b → (qT6 a).2.1 ≠ (qT6 b).2.1 := by decide +kernel
theorem qty6 : ∀ k, k < 6 → parseFieldDescriptor (qT6 k).2.2.1 = some (qV6 k) := by decide +kernel
theorem qdc6 : ∀ k, k < 6 → (qT6 k).1 = "LetterRuns" := by decide +kernel
theorem qnm7 : ∀ a, a < 11 → ∀ b, b < 11 → a ≠ b → (qT7 a).2.1 ≠ (qT7 b).2.1 := by decide +kernel
theorem qty7 : ∀ k, k < 11 → parseFieldDescriptor (qT7 k).2.2.1 = some (qV7 k) := by decide +kernel
theorem qdc7 : ∀ k, k < 11 → (qT7 k).1 = "LetterRuns$Batch" := by decide +kernel
theorem q_nm : ∀ c, c < 8 → ∀ a, a < qN c → ∀ b, b < qN c → a ≠ b → (qT c a).2.1 ≠ (qT c b).2.1 := fun c h => by
  match c, h with
  | 0, _ => exact qnm0
  | 1, _ => exact qnm1
  | 2, _ => exact qnm2
  | 3, _ => exact qnm3
  | 4, _ => exact qnm4
  | 5, _ => exact qnm5
  | 6, _ => exact qnm6
  | 7, _ => exact qnm7
theorem q_ty : ∀ c, c < 8 → ∀ k, k < qN c → parseFieldDescriptor (qT c k).2.2.1 = some (qV c k) := fun c h => by
  match c, h with
  | 0, _ => exact qty0
  | 1, _ => exact qty1
  | 2, _ => exact qty2
  | 3, _ => exact qty3
  | 4, _ => exact qty4
  | 5, _ => exact qty5
  | 6, _ => exact qty6
  | 7, _ => exact qty7
theorem q_dc : ∀ c, c < 8 → ∀ k, k < qN c → (qT c k).1 = qR c := fun c h => by
  match c, h with
  | 0, _ => exact qdc0
  | 1, _ => exact qdc1
  | 2, _ => exact qdc2
  | 3, _ => exact qdc3
  | 4, _ => exact qdc4
  | 5, _ => exact qdc5
  | 6, _ => exact qdc6
  | 7, _ => exact qdc7
def qW : List Jvm.Cond := lw_tbl.filter goodWord
def qAt (i : Nat) (w : Jvm.Cond) : Bool := decide (lw_tbl[i]? = some w) && goodWord w
theorem qAt_in {i : Nat} {w : Jvm.Cond} (h : qAt i w = true) : w ∈ qW := by
  simp only [qAt, Bool.and_eq_true, decide_eq_true_eq] at h
  exact List.mem_filter.mpr ⟨List.mem_of_getElem? h.1, h.2⟩
theorem qW_good {w : Jvm.Cond} (h : w ∈ qW) : (w.onTables && w.keeps) = true ∨ ∃ ty, w = .arrayClass ty := good_of_word (List.mem_filter.mp h).2
theorem qW_tbl {w : Jvm.Cond} (h : w ∈ qW) : w ∈ lw_tbl := (List.mem_filter.mp h).1
def qLp0 : List Nat := [85, 87, 89, 91, 93, 95, 97, 99, 101, 103, 105]
theorem qlay0 : (List.range 11).all (fun k => qAt (qLp0.getD k 0) (u_lay "LetterRuns$Batch" qT0 k)) = true := by decide +kernel
def qLp1 : List Nat := [155, 157, 159, 161, 163, 165, 167, 169, 171, 173, 175]
theorem qlay1 : (List.range 11).all (fun k => qAt (qLp1.getD k 0) (u_lay "LetterRuns$Centre" qT1 k)) = true := by decide +kernel
def qLp2 : List Nat := [191, 193, 195]
theorem qlay2 : (List.range 3).all (fun k => qAt (qLp2.getD k 0) (u_lay "LetterRuns$History" qT2 k)) = true := by decide +kernel
def qLp3 : List Nat := [126, 128, 130, 132, 134, 136]
theorem qlay3 : (List.range 6).all (fun k => qAt (qLp3.getD k 0) (u_lay "LetterRuns$Machine" qT3 k)) = true := by decide +kernel
def qLp4 : List Nat := [207, 209, 211, 213, 215, 217, 219]
theorem qlay4 : (List.range 7).all (fun k => qAt (qLp4.getD k 0) (u_lay "LetterRuns$Pad" qT4 k)) = true := by decide +kernel
def qLp5 : List Nat := [55, 57]
theorem qlay5 : (List.range 2).all (fun k => qAt (qLp5.getD k 0) (u_lay "LetterRuns$Row" qT5 k)) = true := by decide +kernel
def qLp6 : List Nat := [229, 231, 233, 235, 237, 239]
theorem qlay6 : (List.range 6).all (fun k => qAt (qLp6.getD k 0) (u_lay "LetterRuns" qT6 k)) = true := by decide +kernel
def qLp7 : List Nat := [85, 87, 89, 91, 93, 95, 97, 99, 101, 103, 105]
theorem qlay7 : (List.range 11).all (fun k => qAt (qLp7.getD k 0) (u_lay "LetterRuns$Batch" qT7 k)) = true := by decide +kernel
theorem q_lay_of {C : String} {T : u_T} {N : Nat} {f : Nat → Nat} (h : (List.range N).all (fun k => qAt (f k) (u_lay C T k)) = true) : ∀ w ∈ u_ws C T N, w ∈ qW := by
  intro w hw
  obtain ⟨k, hk, rfl⟩ := List.mem_map.mp hw
  exact qAt_in (List.all_eq_true.mp h k hk)
theorem q_lay : ∀ c, c < 8 → ∀ w ∈ u_ws (qR c) (qT c) (qN c), w ∈ qW := fun c h => by
  match c, h with
  | 0, _ => exact q_lay_of qlay0
  | 1, _ => exact q_lay_of qlay1
  | 2, _ => exact q_lay_of qlay2
  | 3, _ => exact q_lay_of qlay3
  | 4, _ => exact q_lay_of qlay4
  | 5, _ => exact q_lay_of qlay5
  | 6, _ => exact q_lay_of qlay6
  | 7, _ => exact q_lay_of qlay7
def qInstP : List Nat := [63, 35, 180, 108, 200, 45, 27, 63]
def qIniP : List Nat := [20, 18, 22, 21, 23, 19, 17, 20, 16, 25]
theorem q_inst : ∀ c, c < 8 → Jvm.Cond.instantiable (qR c) (qN c) ∈ qW := by
  have h : (List.range 8).all (fun c => qAt (qInstP.getD c 0) (.instantiable (qR c) (qN c))) = true := by decide +kernel
  exact fun c hc => qAt_in (List.all_eq_true.mp h c (List.mem_range.mpr hc))
theorem q_ini : ∀ c, c < 10 → Jvm.Cond.initialized (qR c) ∈ qW := by
  have h : (List.range 10).all (fun c => qAt (qIniP.getD c 0) (.initialized (qR c))) = true := by decide +kernel
  exact fun c hc => qAt_in (List.all_eq_true.mp h c (List.mem_range.mpr hc))
def qFl : List (Nat × Nat × Nat × Nat × Nat) := [(5, 9, 5, 0, 50), (5, 21, 5, 1, 51), (3, 38, 5, 1, 52), (6, 121, 5, 1, 53), (1, 136, 5, 1, 54), (0, 9, 0, 0, 68), (1, 165, 0, 0, 69), (0, 15, 0, 1, 70), (0, 18, 0, 2, 71), (1, 108, 0, 2, 72), (0, 21, 0, 3, 73), (1, 172, 0, 3, 74), (0, 24, 0, 4, 75), (1, 205, 0, 4, 76), (0, 27, 0, 5, 77), (1, 218, 0, 5, 78), (0, 30, 0, 6, 79), (0, 33, 0, 7, 80), (0, 36, 0, 8, 81), (0, 39, 0, 9, 82), (1, 115, 0, 9, 83), (0, 42, 0, 10, 84), (3, 12, 3, 0, 115), (6, 117, 3, 0, 116), (1, 133, 3, 0, 117), (3, 18, 3, 1, 118), (1, 130, 3, 1, 119), (3, 29, 3, 2, 120), (1, 202, 3, 2, 121), (3, 22, 3, 3, 122), (3, 32, 3, 4, 123), (1, 215, 3, 4, 124), (3, 35, 3, 5, 125), (1, 9, 1, 0, 139), (6, 88, 1, 0, 140), (1, 15, 1, 1, 141), (1, 20, 1, 2, 142), (1, 26, 1, 3, 143), (1, 33, 1, 4, 144), (1, 48, 1, 5, 145), (6, 96, 1, 5, 146), (1, 62, 1, 6, 147), (6, 92, 1, 6, 148), (1, 65, 1, 7, 149), (1, 68, 1, 8, 150), (6, 99, 1, 8, 151), (1, 71, 1, 9, 152), (6, 102, 1, 9, 153), (1, 74, 1, 10, 154), (2, 11, 2, 0, 187), (2, 30, 2, 1, 188), (2, 26, 2, 2, 189), (6, 108, 2, 2, 190), (4, 9, 4, 0, 205), (6, 105, 4, 1, 206), (6, 10, 6, 0, 223), (6, 16, 6, 1, 224), (6, 19, 6, 2, 225), (6, 23, 6, 3, 226), (6, 30, 6, 4, 227), (6, 37, 6, 5, 228)]
def qFld (own idx : Nat) : Option (Nat × Nat) := (qFl.find? (fun q => q.1 == own && q.2.1 == idx)).map (fun q => (q.2.2.1, q.2.2.2.1))
theorem qFl_ok : qFl.all (fun q => decide (q.2.2.1 < 8) && (decide (q.2.2.2.1 < qN q.2.2.1) && qAt q.2.2.2.2 (.fieldLink (qR q.1) q.2.1 (qR q.2.2.1) (qT q.2.2.1 q.2.2.2.1).2.1 (qT q.2.2.1 q.2.2.2.1).2.2.1))) = true := by decide +kernel
theorem q_fld {own idx c k : Nat} (h : qFld own idx = some (c, k)) : c < 8 ∧ k < qN c ∧ Jvm.Cond.fieldLink (qR own) idx (qR c) (qT c k).2.1 (qT c k).2.2.1 ∈ qW := by
  unfold qFld at h
  obtain ⟨q, hq, he⟩ := Option.map_eq_some_iff.mp h
  have hm := List.all_eq_true.mp qFl_ok q (List.mem_of_find?_eq_some hq)
  have hp := List.find?_some hq
  simp only [Bool.and_eq_true, beq_iff_eq, decide_eq_true_eq] at hm hp
  obtain ⟨rfl, rfl⟩ := hp
  obtain ⟨rfl, rfl⟩ := Prod.mk.inj he
  exact ⟨hm.1, hm.2.1, qAt_in hm.2.2⟩
def qSnL : List String := ["", "FIRST_VALUES", "LOWEST_VALUES", "HIGHEST_VALUES"]
def qSn (t : Nat) : String := qSnL.getD t ""
def qSl : List (Nat × Nat × Nat × Nat) := []
def qSlN : List (Nat × Nat × Nat × Nat) := [(1, 37, 1, 61), (1, 77, 2, 509), (1, 80, 3, 511)]
def qSta (own idx : Nat) : Option (Bool × Nat) := match qSl.find? (fun q => q.1 == own && q.2.1 == idx) with
  | some q => some (false, q.2.2.1)
  | none => (qSlN.find? (fun q => q.1 == own && q.2.1 == idx)).map (fun q => (true, q.2.2.1))
theorem qSl_ok : qSl.all (fun q => decide (1 ≤ q.2.2.1) && (decide (q.2.2.1 < 4) && qAt q.2.2.2 (.fieldLink (qR q.1) q.2.1 "LetterRuns" (qSn q.2.2.1) "[I"))) = true := by decide +kernel
theorem q_sta {own idx t : Nat} (h : qSta own idx = some (false, t)) : (1 ≤ t ∧ t < 4) ∧ Jvm.Cond.fieldLink (qR own) idx "LetterRuns" (qSn t) "[I" ∈ qW := by
  unfold qSta at h
  split at h
  · rename_i q hq
    have hm := List.all_eq_true.mp qSl_ok q (List.mem_of_find?_eq_some hq)
    have hp := List.find?_some hq
    simp only [Bool.and_eq_true, beq_iff_eq, decide_eq_true_eq] at hm hp
    obtain ⟨rfl, rfl⟩ := hp
    cases h
    exact ⟨⟨hm.1, hm.2.1⟩, qAt_in hm.2.2⟩
  · obtain ⟨q, hq, he⟩ := Option.map_eq_some_iff.mp h
    cases he
def qMnL : List (Nat × Nat × Nat) := [(1, 32, 58), (1, 40, 0), (1, 41, 42), (3, 11, 58), (6, 36, 46)]
def qYL : List MethodName := [⟨"LetterRuns$Batch", "<init>", "()V"⟩,
  ⟨"LetterRuns$Batch", "begin", "(IIII)V"⟩,
  ⟨"LetterRuns$Batch", "takeOver", "(LLetterRuns$Batch;)V"⟩,
  ⟨"LetterRuns$Batch", "about", "(I)I"⟩,
  ⟨"LetterRuns$Batch", "isSorted", "()Z"⟩,
  ⟨"LetterRuns$Batch", "delayBy", "(I)V"⟩,
  ⟨"LetterRuns$Batch", "come", "(I)V"⟩,
  ⟨"LetterRuns$Batch", "letGo", "()V"⟩,
  ⟨"LetterRuns$Batch", "leaveMachine", "(III)V"⟩,
  ⟨"LetterRuns$Batch", "leaveHands", "(II)V"⟩,
  ⟨"LetterRuns$Centre", "<init>", "()V"⟩,
  ⟨"LetterRuns$Centre", "takeOver", "(LLetterRuns$Centre;)V"⟩,
  ⟨"LetterRuns$Centre", "changeSetting", "(II)I"⟩,
  ⟨"LetterRuns$Centre", "changeCutoff", "(II)I"⟩,
  ⟨"LetterRuns$Centre", "tell", "(IIII)I"⟩,
  ⟨"LetterRuns$Centre", "letPass", "(I)I"⟩,
  ⟨"LetterRuns$Centre", "isToCome", "(I)Z"⟩,
  ⟨"LetterRuns$Centre", "batchAt", "(I)LLetterRuns$Batch;"⟩,
  ⟨"LetterRuns$Centre", "machineAt", "(I)LLetterRuns$Machine;"⟩,
  ⟨"LetterRuns$Centre", "cutoffOf", "(I)I"⟩,
  ⟨"LetterRuns$Centre", "sum", "(II)I"⟩,
  ⟨"LetterRuns$Centre", "withDelay", "(I)J"⟩,
  ⟨"LetterRuns$Centre", "allSorted", "()Z"⟩,
  ⟨"LetterRuns$Centre", "minuteAllSorted", "()I"⟩,
  ⟨"LetterRuns$Centre", "missedInTheEnd", "(I)I"⟩,
  ⟨"LetterRuns$Centre", "isIdle", "()Z"⟩,
  ⟨"LetterRuns$Centre", "skipTo", "(I)V"⟩,
  ⟨"LetterRuns$Centre", "passMinute", "()V"⟩,
  ⟨"LetterRuns$Centre", "letCome", "()V"⟩,
  ⟨"LetterRuns$Centre", "letGo", "()V"⟩,
  ⟨"LetterRuns$Centre", "findNextEvent", "()I"⟩,
  ⟨"LetterRuns$Centre", "takeNext", "(LLetterRuns$Machine;)V"⟩,
  ⟨"LetterRuns$Centre", "delayQueue", "(LLetterRuns$Row;)V"⟩,
  ⟨"LetterRuns$Centre", "runMachine", "(LLetterRuns$Machine;I)V"⟩,
  ⟨"LetterRuns$Centre", "sortBatch", "(LLetterRuns$Machine;LLetterRuns$Batch;I)V"⟩,
  ⟨"LetterRuns$Centre", "rejectsOf", "(I)I"⟩,
  ⟨"LetterRuns$Centre", "sortByHand", "()V"⟩,
  ⟨"LetterRuns$History", "<init>", "()V"⟩,
  ⟨"LetterRuns$History", "note", "(LLetterRuns$Centre;)V"⟩,
  ⟨"LetterRuns$History", "keep", "()V"⟩,
  ⟨"LetterRuns$History", "takeLatest", "()LLetterRuns$Centre;"⟩,
  ⟨"LetterRuns$History", "behindLast", "()LLetterRuns$Centre;"⟩,
  ⟨"LetterRuns$Machine", "<init>", "()V"⟩,
  ⟨"LetterRuns$Machine", "takeOver", "(LLetterRuns$Machine;)V"⟩,
  ⟨"LetterRuns$Machine", "about", "(I)I"⟩,
  ⟨"LetterRuns$Machine", "take", "(III)V"⟩,
  ⟨"LetterRuns$Pad", "<init>", "()V"⟩,
  ⟨"LetterRuns$Batch", "<init>", "()V"⟩,
  ⟨"LetterRuns$Batch", "<init>", "()V"⟩,
  ⟨"LetterRuns$Batch", "<init>", "()V"⟩,
  ⟨"LetterRuns$Batch", "<init>", "()V"⟩,
  ⟨"LetterRuns$Batch", "<init>", "()V"⟩,
  ⟨"LetterRuns$Batch", "<init>", "()V"⟩,
  ⟨"LetterRuns$Batch", "<init>", "()V"⟩,
  ⟨"LetterRuns$Batch", "<init>", "()V"⟩,
  ⟨"LetterRuns$Batch", "<init>", "()V"⟩,
  ⟨"LetterRuns$Batch", "<init>", "()V"⟩,
  ⟨"LetterRuns$Batch", "<init>", "()V"⟩,
  ⟨"LetterRuns$Row", "<init>", "()V"⟩,
  ⟨"LetterRuns$Row", "takeOver", "(LLetterRuns$Row;)V"⟩,
  ⟨"LetterRuns$Row", "at", "(I)I"⟩,
  ⟨"LetterRuns$Row", "append", "(I)V"⟩,
  ⟨"LetterRuns$Row", "removeFirst", "()V"⟩,
  ⟨"LetterRuns", "<init>", "()V"⟩,
  ⟨"LetterRuns", "set", "(II)I"⟩,
  ⟨"LetterRuns", "cutoff", "(II)I"⟩,
  ⟨"LetterRuns", "mail", "(IIII)I"⟩,
  ⟨"LetterRuns", "pass", "(I)I"⟩,
  ⟨"LetterRuns", "recorded", "(I)I"⟩,
  ⟨"LetterRuns", "batch", "(II)I"⟩,
  ⟨"LetterRuns", "machine", "(II)I"⟩,
  ⟨"LetterRuns", "route", "(II)I"⟩,
  ⟨"LetterRuns", "count", "(I)I"⟩,
  ⟨"LetterRuns", "delayed", "(I)J"⟩,
  ⟨"LetterRuns", "queued", "(II)I"⟩,
  ⟨"LetterRuns", "sortedAt", "()I"⟩,
  ⟨"LetterRuns", "wouldMiss", "()I"⟩,
  ⟨"LetterRuns$Batch", "<init>", "()V"⟩,
  ⟨"LetterRuns$Batch", "<init>", "()V"⟩,
  ⟨"LetterRuns$Batch", "<init>", "()V"⟩,
  ⟨"LetterRuns$Batch", "<init>", "()V"⟩,
  ⟨"LetterRuns$Batch", "<init>", "()V"⟩,
  ⟨"LetterRuns$Batch", "<init>", "()V"⟩,
  ⟨"LetterRuns", "undo", "()I"⟩,
  ⟨"LetterRuns$Batch", "<init>", "()V"⟩,
  ⟨"LetterRuns$Batch", "<init>", "()V"⟩,
  ⟨"LetterRunsLaw", "low", "(II)I"⟩,
  ⟨"LetterRunsLaw", "cell", "([II)I"⟩,
  ⟨"LetterRunsLaw", "mail", "(LLetterRuns;)Z"⟩,
  ⟨"LetterRunsLaw", "machines", "(LLetterRuns;)Z"⟩,
  ⟨"LetterRunsLaw", "act", "(LLetterRuns;[II)I"⟩,
  ⟨"LetterRuns$Batch", "<init>", "()V"⟩,
  ⟨"LetterRuns$Batch", "<init>", "()V"⟩,
  ⟨"LetterRuns$Batch", "<init>", "()V"⟩,
  ⟨"LetterRuns$Batch", "<init>", "()V"⟩,
  ⟨"LetterRuns$Batch", "<init>", "()V"⟩,
  ⟨"LetterRuns$Batch", "<init>", "()V"⟩,
  ⟨"LetterRuns$Batch", "<init>", "()V"⟩,
  ⟨"LetterRuns$Batch", "<init>", "()V"⟩,
  ⟨"LetterRuns$Batch", "<init>", "()V"⟩,
  ⟨"LetterRuns$Batch", "<init>", "()V"⟩,
  ⟨"LetterRuns$Batch", "<init>", "()V"⟩,
  ⟨"LetterRuns$Batch", "<init>", "()V"⟩,
  ⟨"LetterRuns$Batch", "<init>", "()V"⟩,
  ⟨"LetterRuns$Batch", "<init>", "()V"⟩,
  ⟨"LetterRuns$Batch", "<init>", "()V"⟩,
  ⟨"LetterRuns$Batch", "<init>", "()V"⟩,
  ⟨"LetterRuns$Batch", "<init>", "()V"⟩,
  ⟨"LetterRuns$Batch", "<init>", "()V"⟩,
  ⟨"LetterRuns$Batch", "<init>", "()V"⟩,
  ⟨"LetterRuns$Batch", "<init>", "()V"⟩,
  ⟨"LetterRuns$Batch", "<init>", "()V"⟩,
  ⟨"LetterRuns$Batch", "<init>", "()V"⟩,
  ⟨"LetterRuns$Batch", "<init>", "()V"⟩,
  ⟨"LetterRuns$Batch", "<init>", "()V"⟩,
  ⟨"LetterRuns$Batch", "<init>", "()V"⟩,
  ⟨"LetterRuns$Batch", "<init>", "()V"⟩,
  ⟨"LetterRuns$Batch", "<init>", "()V"⟩,
  ⟨"LetterRuns$Batch", "<init>", "()V"⟩,
  ⟨"LetterRuns$Batch", "<init>", "()V"⟩,
  ⟨"LetterRuns$Batch", "<init>", "()V"⟩,
  ⟨"LetterRuns$Batch", "<init>", "()V"⟩,
  ⟨"LetterRuns$Batch", "<init>", "()V"⟩,
  ⟨"LetterRuns$Batch", "<init>", "()V"⟩,
  ⟨"LetterRuns$Batch", "<init>", "()V"⟩,
  ⟨"LetterRuns$Batch", "<init>", "()V"⟩,
  ⟨"LetterRuns$Batch", "<init>", "()V"⟩,
  ⟨"LetterRuns$Batch", "<init>", "()V"⟩,
  ⟨"LetterRuns$Batch", "<init>", "()V"⟩,
  ⟨"LetterRuns$Batch", "<init>", "()V"⟩,
  ⟨"LetterRuns$Batch", "<init>", "()V"⟩,
  ⟨"LetterRuns$Batch", "<init>", "()V"⟩,
  ⟨"LetterRuns$Batch", "<init>", "()V"⟩,
  ⟨"LetterRuns$Batch", "<init>", "()V"⟩,
  ⟨"LetterRuns$Batch", "<init>", "()V"⟩,
  ⟨"LetterRuns$Batch", "<init>", "()V"⟩,
  ⟨"LetterRuns$Batch", "<init>", "()V"⟩,
  ⟨"LetterRuns$Batch", "<init>", "()V"⟩,
  ⟨"LetterRuns$Batch", "<init>", "()V"⟩,
  ⟨"LetterRuns$Batch", "<init>", "()V"⟩,
  ⟨"LetterRuns$Batch", "<init>", "()V"⟩,
  ⟨"LetterRuns$Batch", "<init>", "()V"⟩,
  ⟨"LetterRuns$Batch", "<init>", "()V"⟩,
  ⟨"LetterRuns$Batch", "<init>", "()V"⟩,
  ⟨"LetterRuns$Batch", "<init>", "()V"⟩,
  ⟨"LetterRuns$Batch", "<init>", "()V"⟩,
  ⟨"LetterRuns$Batch", "<init>", "()V"⟩,
  ⟨"LetterRuns$Batch", "<init>", "()V"⟩,
  ⟨"java/lang/Math", "max", "(II)I"⟩,
  ⟨"java/lang/Math", "min", "(II)I"⟩,
  ⟨"LetterRunsLaw", "law", "([I)Z"⟩]
def qY (z : Nat) : MethodName := qYL.getD z ⟨"", "", ""⟩
def qBL : List ByteArray := [prog_2_method_1_code, prog_2_method_2_code, prog_2_method_3_code, prog_2_method_4_code, prog_2_method_5_code, prog_2_method_6_code, prog_2_method_7_code, prog_2_method_8_code, prog_2_method_9_code, prog_2_method_10_code, prog_3_method_1_code, prog_3_method_2_code, prog_3_method_3_code, prog_3_method_4_code, prog_3_method_5_code, prog_3_method_6_code, prog_3_method_7_code, prog_3_method_8_code, prog_3_method_9_code, prog_3_method_10_code, prog_3_method_11_code, prog_3_method_12_code, prog_3_method_13_code, prog_3_method_14_code, prog_3_method_15_code, prog_3_method_16_code, prog_3_method_17_code, prog_3_method_18_code, prog_3_method_19_code, prog_3_method_20_code, prog_3_method_21_code, prog_3_method_22_code, prog_3_method_23_code, prog_3_method_24_code, prog_3_method_25_code, prog_3_method_26_code, prog_3_method_27_code, prog_4_method_1_code, prog_4_method_2_code, prog_4_method_3_code, prog_4_method_4_code, prog_4_method_5_code, prog_5_method_1_code, prog_5_method_2_code, prog_5_method_3_code, prog_5_method_4_code, prog_6_method_1_code, prog_2_method_1_code, prog_2_method_1_code, prog_2_method_1_code, prog_2_method_1_code, prog_2_method_1_code, prog_2_method_1_code, prog_2_method_1_code, prog_2_method_1_code, prog_2_method_1_code, prog_2_method_1_code, prog_2_method_1_code, prog_7_method_1_code, prog_7_method_2_code, prog_7_method_3_code, prog_7_method_4_code, prog_7_method_5_code, prog_1_method_1_code, prog_1_method_2_code, prog_1_method_3_code, prog_1_method_4_code, prog_1_method_5_code, prog_1_method_6_code, prog_1_method_7_code, prog_1_method_8_code, prog_1_method_9_code, prog_1_method_10_code, prog_1_method_11_code, prog_1_method_12_code, prog_1_method_13_code, prog_1_method_14_code, prog_2_method_1_code, prog_2_method_1_code, prog_2_method_1_code, prog_2_method_1_code, prog_2_method_1_code, prog_2_method_1_code, prog_1_method_21_code, prog_2_method_1_code, prog_2_method_1_code, method_2_code, method_3_code, method_4_code, method_5_code, method_6_code, prog_2_method_1_code, prog_2_method_1_code, prog_2_method_1_code, prog_2_method_1_code, prog_2_method_1_code, prog_2_method_1_code, prog_2_method_1_code, prog_2_method_1_code, prog_2_method_1_code, prog_2_method_1_code, prog_2_method_1_code, prog_2_method_1_code, prog_2_method_1_code, prog_2_method_1_code, prog_2_method_1_code, prog_2_method_1_code, prog_2_method_1_code, prog_2_method_1_code, prog_2_method_1_code, prog_2_method_1_code, prog_2_method_1_code, prog_2_method_1_code, prog_2_method_1_code, prog_2_method_1_code, prog_2_method_1_code, prog_2_method_1_code, prog_2_method_1_code, prog_2_method_1_code, prog_2_method_1_code, prog_2_method_1_code, prog_2_method_1_code, prog_2_method_1_code, prog_2_method_1_code, prog_2_method_1_code, prog_2_method_1_code, prog_2_method_1_code, prog_2_method_1_code, prog_2_method_1_code, prog_2_method_1_code, prog_2_method_1_code, prog_2_method_1_code, prog_2_method_1_code, prog_2_method_1_code, prog_2_method_1_code, prog_2_method_1_code, prog_2_method_1_code, prog_2_method_1_code, prog_2_method_1_code, prog_2_method_1_code, prog_2_method_1_code, prog_2_method_1_code, prog_2_method_1_code, prog_2_method_1_code, prog_2_method_1_code, prog_2_method_1_code, prog_2_method_1_code, prog_2_method_1_code, prog_10_method_65_code, prog_10_method_69_code, code]
def qB (z : Nat) : ByteArray := qBL.getD z ByteArray.empty
def qLL : List Nat := [1, 5, 2, 2, 1, 2, 2, 1, 4, 3, 2, 3, 4, 4, 5, 4, 2, 2, 2, 2, 6, 5, 2, 2, 4, 2, 3, 3, 4, 3, 3, 4, 4, 4, 6, 2, 5, 2, 2, 1, 1, 1, 1, 2, 2, 4, 1, 1, 1, 1, 1, 1, 1, 1, 1, 1, 1, 1, 1, 2, 2, 2, 1, 2, 3, 3, 5, 2, 2, 4, 4, 3, 2, 2, 4, 1, 1, 1, 1, 1, 1, 1, 1, 1, 1, 1, 2, 2, 13, 9, 7, 1, 1, 1, 1, 1, 1, 1, 1, 1, 1, 1, 1, 1, 1, 1, 1, 1, 1, 1, 1, 1, 1, 1, 1, 1, 1, 1, 1, 1, 1, 1, 1, 1, 1, 1, 1, 1, 1, 1, 1, 1, 1, 1, 1, 1, 1, 1, 1, 1, 1, 1, 1, 1, 1, 1, 1, 1, 2, 2, 10]
def qL (z : Nat) : Nat := qLL.getD z 0
def qOL : List Nat := [0, 0, 0, 0, 0, 0, 0, 0, 0, 0, 1, 1, 1, 1, 1, 1, 1, 1, 1, 1, 1, 1, 1, 1, 1, 1, 1, 1, 1, 1, 1, 1, 1, 1, 1, 1, 1, 2, 2, 2, 2, 2, 3, 3, 3, 3, 4, 0, 0, 0, 0, 0, 0, 0, 0, 0, 0, 0, 5, 5, 5, 5, 5, 6, 6, 6, 6, 6, 6, 6, 6, 6, 6, 6, 6, 6, 6, 0, 0, 0, 0, 0, 0, 6, 0, 0, 8, 8, 8, 8, 8, 0, 0, 0, 0, 0, 0, 0, 0, 0, 0, 0, 0, 0, 0, 0, 0, 0, 0, 0, 0, 0, 0, 0, 0, 0, 0, 0, 0, 0, 0, 0, 0, 0, 0, 0, 0, 0, 0, 0, 0, 0, 0, 0, 0, 0, 0, 0, 0, 0, 0, 0, 0, 0, 0, 0, 0, 0, 9, 9, 8]
def qO (z : Nat) : Nat := qOL.getD z 0
def qKL : List Nat := [2, 0, 0, 0, 0, 0, 0, 0, 0, 0, 2, 0, 0, 0, 0, 0, 0, 0, 0, 0, 0, 0, 0, 0, 0, 0, 0, 0, 0, 0, 0, 0, 0, 0, 0, 0, 0, 2, 0, 0, 0, 0, 2, 0, 0, 0, 2, 2, 2, 2, 2, 2, 2, 2, 2, 2, 2, 2, 2, 0, 0, 0, 0, 2, 0, 0, 0, 0, 0, 0, 0, 0, 0, 0, 0, 0, 0, 2, 2, 2, 2, 2, 2, 0, 2, 2, 1, 1, 1, 1, 1, 2, 2, 2, 2, 2, 2, 2, 2, 2, 2, 2, 2, 2, 2, 2, 2, 2, 2, 2, 2, 2, 2, 2, 2, 2, 2, 2, 2, 2, 2, 2, 2, 2, 2, 2, 2, 2, 2, 2, 2, 2, 2, 2, 2, 2, 2, 2, 2, 2, 2, 2, 2, 2, 2, 2, 2, 2, 1, 1, 1]
def qK (z : Nat) : Nat := qKL.getD z 0
def qFrL : List Nat := [1, 0, 0, 0, 0, 0, 1, 1, 0, 0, 3, 3, 0, 1, 1, 4, 0, 0, 0, 0, 1, 0, 1, 4, 5, 0, 1, 3, 2, 2, 1, 2, 1, 2, 1, 0, 2, 4, 4, 0, 1, 0, 2, 2, 0, 0, 1, 1, 1, 1, 1, 1, 1, 1, 1, 1, 1, 1, 1, 1, 0, 0, 1, 5, 5, 5, 5, 5, 1, 1, 1, 2, 2, 1, 1, 5, 6, 1, 1, 1, 1, 1, 1, 4, 1, 1, 0, 0, 3, 3, 6, 1, 1, 1, 1, 1, 1, 1, 1, 1, 1, 1, 1, 1, 1, 1, 1, 1, 1, 1, 1, 1, 1, 1, 1, 1, 1, 1, 1, 1, 1, 1, 1, 1, 1, 1, 1, 1, 1, 1, 1, 1, 1, 1, 1, 1, 1, 1, 1, 1, 1, 1, 1, 1, 1, 1, 1, 1, 0, 0, 7]
def qFr (z : Nat) : Nat := qFrL.getD z 0
def qWdL : List Nat := [20, 0, 0, 0, 0, 0, 21, 21, 0, 0, 60, 86, 0, 21, 24, 110, 0, 0, 0, 0, 21, 0, 20, 110, 133, 0, 21, 88, 42, 41, 21, 64, 21, 48, 23, 0, 64, 81, 108, 0, 20, 0, 40, 65, 0, 0, 20, 20, 20, 20, 20, 20, 20, 20, 20, 20, 20, 20, 20, 44, 0, 0, 44, 102, 129, 129, 129, 133, 20, 21, 21, 46, 46, 24, 21, 131, 156, 20, 20, 20, 20, 20, 20, 108, 20, 20, 0, 0, 68, 67, 154, 20, 20, 20, 20, 20, 20, 20, 20, 20, 20, 20, 20, 20, 20, 20, 20, 20, 20, 20, 20, 20, 20, 20, 20, 20, 20, 20, 20, 20, 20, 20, 20, 20, 20, 20, 20, 20, 20, 20, 20, 20, 20, 20, 20, 20, 20, 20, 20, 20, 20, 20, 20, 20, 20, 20, 20, 20, 0, 0, 180]
def qWd (z : Nat) : Nat := qWdL.getD z 0
def qMcL : List Nat := [0, 0, 0, 0, 0, 0, 0, 0, 0, 0, 55, 0, 0, 0, 0, 0, 0, 0, 0, 0, 0, 0, 0, 0, 0, 0, 0, 0, 0, 0, 0, 0, 0, 0, 0, 0, 0, 393, 0, 0, 0, 0, 2, 0, 0, 0, 1, 0, 0, 0, 0, 0, 0, 0, 0, 0, 0, 0, 1, 0, 0, 0, 0, 622, 0, 0, 0, 0, 0, 0, 0, 0, 0, 0, 0, 0, 0, 0, 0, 0, 0, 0, 0, 0, 0, 0, 0, 0, 0, 0, 0, 0, 0, 0, 0, 0, 0, 0, 0, 0, 0, 0, 0, 0, 0, 0, 0, 0, 0, 0, 0, 0, 0, 0, 0, 0, 0, 0, 0, 0, 0, 0, 0, 0, 0, 0, 0, 0, 0, 0, 0, 0, 0, 0, 0, 0, 0, 0, 0, 0, 0, 0, 0, 0, 0, 0, 0, 0, 0, 0, 623]
def qMc (z : Nat) : Nat := qMcL.getD z 0
def qMsL : List Nat := [0, 0, 0, 0, 0, 0, 0, 0, 0, 0, 686, 0, 0, 0, 0, 0, 0, 0, 0, 0, 0, 0, 0, 0, 0, 0, 0, 0, 0, 0, 0, 0, 0, 0, 0, 0, 0, 4886, 0, 0, 0, 0, 42, 0, 0, 0, 80, 0, 0, 0, 0, 0, 0, 0, 0, 0, 0, 0, 40, 0, 0, 0, 0, 7768, 0, 0, 0, 0, 0, 0, 0, 0, 0, 0, 0, 0, 0, 0, 0, 0, 0, 0, 0, 0, 0, 0, 0, 0, 0, 0, 0, 0, 0, 0, 0, 0, 0, 0, 0, 0, 0, 0, 0, 0, 0, 0, 0, 0, 0, 0, 0, 0, 0, 0, 0, 0, 0, 0, 0, 0, 0, 0, 0, 0, 0, 0, 0, 0, 0, 0, 0, 0, 0, 0, 0, 0, 0, 0, 0, 0, 0, 0, 0, 0, 0, 0, 0, 0, 0, 0, 7774]
def qMs (z : Nat) : Nat := qMsL.getD z 0
def qAL : List Nat := [0, 4, 1, 1, 0, 1, 1, 0, 3, 2, 0, 1, 2, 2, 4, 1, 1, 1, 1, 1, 2, 1, 0, 0, 1, 0, 1, 0, 0, 0, 0, 1, 1, 2, 3, 1, 0, 0, 1, 0, 0, 0, 0, 1, 1, 3, 0, 0, 0, 0, 0, 0, 0, 0, 0, 0, 0, 0, 0, 1, 1, 1, 0, 0, 2, 2, 4, 1, 1, 2, 2, 2, 1, 1, 2, 0, 0, 0, 0, 0, 0, 0, 0, 0, 0, 0, 2, 2, 1, 1, 3, 0, 0, 0, 0, 0, 0, 0, 0, 0, 0, 0, 0, 0, 0, 0, 0, 0, 0, 0, 0, 0, 0, 0, 0, 0, 0, 0, 0, 0, 0, 0, 0, 0, 0, 0, 0, 0, 0, 0, 0, 0, 0, 0, 0, 0, 0, 0, 0, 0, 0, 0, 0, 0, 0, 0, 0, 0, 2, 2, 1]
def qA (z : Nat) : Nat := qAL.getD z 0
def qRtL : List (Option FieldType) := [none, none, none, some .int, some .boolean, none, none, none, none, none, none, none, some .int, some .int, some .int, some .int, some .boolean, some (.object "LetterRuns$Batch"), some (.object "LetterRuns$Machine"), some .int, some .int, some .long, some .boolean, some .int, some .int, some .boolean, none, none, none, none, some .int, none, none, none, none, some .int, none, none, none, none, some (.object "LetterRuns$Centre"), some (.object "LetterRuns$Centre"), none, none, some .int, none, none, none, none, none, none, none, none, none, none, none, none, none, none, none, some .int, none, none, none, some .int, some .int, some .int, some .int, some .int, some .int, some .int, some .int, some .int, some .long, some .int, some .int, some .int, none, none, none, none, none, none, some .int, none, none, some .int, some .int, some .boolean, some .boolean, some .int, none, none, none, none, none, none, none, none, none, none, none, none, none, none, none, none, none, none, none, none, none, none, none, none, none, none, none, none, none, none, none, none, none, none, none, none, none, none, none, none, none, none, none, none, none, none, none, none, none, none, none, none, none, none, none, none, none, some .int, some .int, some .boolean]
def qRt (z : Nat) : Option FieldType := qRtL.getD z none
def qCw (z : Nat) : Jvm.Cond := .code (qY z) (qB z) (qL z) (qRt z)
def qRm (z : Nat) : Room := { frames := qFr z, cells := qMc z, slots := qMs z, locals := qWd z }
def qCp : List Nat := [66, 484, 268, 253, 290, 318, 314, 326, 377, 385, 38, 261, 508, 500, 476, 399, 480, 348, 302, 310, 249, 426, 286, 282, 394, 403, 407, 294, 298, 322, 333, 340, 360, 365, 369, 373, 381, 183, 467, 492, 520, 471, 111, 272, 443, 352, 203, 66, 66, 66, 66, 66, 66, 66, 66, 66, 66, 66, 48, 276, 344, 306, 356, 30, 504, 496, 463, 524, 488, 415, 438, 430, 245, 421, 447, 257, 389, 66, 66, 66, 66, 66, 66, 516, 66, 66, 458, 454, 411, 434, 451, 66, 66, 66, 66, 66, 66, 66, 66, 66, 66, 66, 66, 66, 66, 66, 66, 66, 66, 66, 66, 66, 66, 66, 66, 66, 66, 66, 66, 66, 66, 66, 66, 66, 66, 66, 66, 66, 66, 66, 66, 66, 66, 66, 66, 66, 66, 66, 66, 66, 66, 66, 66, 66, 66, 66, 66, 66, 329, 336, 0]
set_option maxRecDepth 20000 in
theorem qcw_0 : qCw 0 ∈ qW := List.mem_filter.mpr ⟨List.mem_append_right _ (List.mem_append_left _ (List.mem_of_getElem? (i := 50) (rfl : tables_1_1[50]? = some (qCw 0)))), rfl⟩
set_option maxRecDepth 20000 in
theorem qcw_1 : qCw 1 ∈ qW := List.mem_filter.mpr ⟨List.mem_append_right _ (List.mem_append_right _ (List.mem_append_left _ (List.mem_of_getElem? (i := 228) (rfl : tables_1_2[228]? = some (qCw 1))))), rfl⟩
set_option maxRecDepth 20000 in
theorem qcw_2 : qCw 2 ∈ qW := List.mem_filter.mpr ⟨List.mem_append_right _ (List.mem_append_right _ (List.mem_append_left _ (List.mem_of_getElem? (i := 12) (rfl : tables_1_2[12]? = some (qCw 2))))), rfl⟩
set_option maxRecDepth 20000 in
theorem qcw_3 : qCw 3 ∈ qW := List.mem_filter.mpr ⟨List.mem_append_right _ (List.mem_append_left _ (List.mem_of_getElem? (i := 237) (rfl : tables_1_1[237]? = some (qCw 3)))), rfl⟩
set_option maxRecDepth 20000 in
theorem qcw_4 : qCw 4 ∈ qW := List.mem_filter.mpr ⟨List.mem_append_right _ (List.mem_append_right _ (List.mem_append_left _ (List.mem_of_getElem? (i := 34) (rfl : tables_1_2[34]? = some (qCw 4))))), rfl⟩
set_option maxRecDepth 20000 in
theorem qcw_5 : qCw 5 ∈ qW := List.mem_filter.mpr ⟨List.mem_append_right _ (List.mem_append_right _ (List.mem_append_left _ (List.mem_of_getElem? (i := 62) (rfl : tables_1_2[62]? = some (qCw 5))))), rfl⟩
set_option maxRecDepth 20000 in
theorem qcw_6 : qCw 6 ∈ qW := List.mem_filter.mpr ⟨List.mem_append_right _ (List.mem_append_right _ (List.mem_append_left _ (List.mem_of_getElem? (i := 58) (rfl : tables_1_2[58]? = some (qCw 6))))), rfl⟩
set_option maxRecDepth 20000 in
theorem qcw_7 : qCw 7 ∈ qW := List.mem_filter.mpr ⟨List.mem_append_right _ (List.mem_append_right _ (List.mem_append_left _ (List.mem_of_getElem? (i := 70) (rfl : tables_1_2[70]? = some (qCw 7))))), rfl⟩
set_option maxRecDepth 20000 in
theorem qcw_8 : qCw 8 ∈ qW := List.mem_filter.mpr ⟨List.mem_append_right _ (List.mem_append_right _ (List.mem_append_left _ (List.mem_of_getElem? (i := 121) (rfl : tables_1_2[121]? = some (qCw 8))))), rfl⟩
set_option maxRecDepth 20000 in
theorem qcw_9 : qCw 9 ∈ qW := List.mem_filter.mpr ⟨List.mem_append_right _ (List.mem_append_right _ (List.mem_append_left _ (List.mem_of_getElem? (i := 129) (rfl : tables_1_2[129]? = some (qCw 9))))), rfl⟩
set_option maxRecDepth 20000 in
theorem qcw_10 : qCw 10 ∈ qW := List.mem_filter.mpr ⟨List.mem_append_right _ (List.mem_append_left _ (List.mem_of_getElem? (i := 22) (rfl : tables_1_1[22]? = some (qCw 10)))), rfl⟩
set_option maxRecDepth 20000 in
theorem qcw_11 : qCw 11 ∈ qW := List.mem_filter.mpr ⟨List.mem_append_right _ (List.mem_append_right _ (List.mem_append_left _ (List.mem_of_getElem? (i := 5) (rfl : tables_1_2[5]? = some (qCw 11))))), rfl⟩
set_option maxRecDepth 20000 in
theorem qcw_12 : qCw 12 ∈ qW := List.mem_filter.mpr ⟨List.mem_append_right _ (List.mem_append_right _ (List.mem_append_right _ (List.mem_of_getElem? (i := 12) (rfl : tables_1_3[12]? = some (qCw 12))))), rfl⟩
set_option maxRecDepth 20000 in
theorem qcw_13 : qCw 13 ∈ qW := List.mem_filter.mpr ⟨List.mem_append_right _ (List.mem_append_right _ (List.mem_append_right _ (List.mem_of_getElem? (i := 4) (rfl : tables_1_3[4]? = some (qCw 13))))), rfl⟩
set_option maxRecDepth 20000 in
theorem qcw_14 : qCw 14 ∈ qW := List.mem_filter.mpr ⟨List.mem_append_right _ (List.mem_append_right _ (List.mem_append_left _ (List.mem_of_getElem? (i := 220) (rfl : tables_1_2[220]? = some (qCw 14))))), rfl⟩
set_option maxRecDepth 20000 in
theorem qcw_15 : qCw 15 ∈ qW := List.mem_filter.mpr ⟨List.mem_append_right _ (List.mem_append_right _ (List.mem_append_left _ (List.mem_of_getElem? (i := 143) (rfl : tables_1_2[143]? = some (qCw 15))))), rfl⟩
set_option maxRecDepth 20000 in
theorem qcw_16 : qCw 16 ∈ qW := List.mem_filter.mpr ⟨List.mem_append_right _ (List.mem_append_right _ (List.mem_append_left _ (List.mem_of_getElem? (i := 224) (rfl : tables_1_2[224]? = some (qCw 16))))), rfl⟩
set_option maxRecDepth 20000 in
theorem qcw_17 : qCw 17 ∈ qW := List.mem_filter.mpr ⟨List.mem_append_right _ (List.mem_append_right _ (List.mem_append_left _ (List.mem_of_getElem? (i := 92) (rfl : tables_1_2[92]? = some (qCw 17))))), rfl⟩
set_option maxRecDepth 20000 in
theorem qcw_18 : qCw 18 ∈ qW := List.mem_filter.mpr ⟨List.mem_append_right _ (List.mem_append_right _ (List.mem_append_left _ (List.mem_of_getElem? (i := 46) (rfl : tables_1_2[46]? = some (qCw 18))))), rfl⟩
set_option maxRecDepth 20000 in
theorem qcw_19 : qCw 19 ∈ qW := List.mem_filter.mpr ⟨List.mem_append_right _ (List.mem_append_right _ (List.mem_append_left _ (List.mem_of_getElem? (i := 54) (rfl : tables_1_2[54]? = some (qCw 19))))), rfl⟩
set_option maxRecDepth 20000 in
theorem qcw_20 : qCw 20 ∈ qW := List.mem_filter.mpr ⟨List.mem_append_right _ (List.mem_append_left _ (List.mem_of_getElem? (i := 233) (rfl : tables_1_1[233]? = some (qCw 20)))), rfl⟩
set_option maxRecDepth 20000 in
theorem qcw_21 : qCw 21 ∈ qW := List.mem_filter.mpr ⟨List.mem_append_right _ (List.mem_append_right _ (List.mem_append_left _ (List.mem_of_getElem? (i := 170) (rfl : tables_1_2[170]? = some (qCw 21))))), rfl⟩
set_option maxRecDepth 20000 in
theorem qcw_22 : qCw 22 ∈ qW := List.mem_filter.mpr ⟨List.mem_append_right _ (List.mem_append_right _ (List.mem_append_left _ (List.mem_of_getElem? (i := 30) (rfl : tables_1_2[30]? = some (qCw 22))))), rfl⟩
set_option maxRecDepth 20000 in
theorem qcw_23 : qCw 23 ∈ qW := List.mem_filter.mpr ⟨List.mem_append_right _ (List.mem_append_right _ (List.mem_append_left _ (List.mem_of_getElem? (i := 26) (rfl : tables_1_2[26]? = some (qCw 23))))), rfl⟩
set_option maxRecDepth 20000 in
theorem qcw_24 : qCw 24 ∈ qW := List.mem_filter.mpr ⟨List.mem_append_right _ (List.mem_append_right _ (List.mem_append_left _ (List.mem_of_getElem? (i := 138) (rfl : tables_1_2[138]? = some (qCw 24))))), rfl⟩
set_option maxRecDepth 20000 in
theorem qcw_25 : qCw 25 ∈ qW := List.mem_filter.mpr ⟨List.mem_append_right _ (List.mem_append_right _ (List.mem_append_left _ (List.mem_of_getElem? (i := 147) (rfl : tables_1_2[147]? = some (qCw 25))))), rfl⟩
set_option maxRecDepth 20000 in
theorem qcw_26 : qCw 26 ∈ qW := List.mem_filter.mpr ⟨List.mem_append_right _ (List.mem_append_right _ (List.mem_append_left _ (List.mem_of_getElem? (i := 151) (rfl : tables_1_2[151]? = some (qCw 26))))), rfl⟩
set_option maxRecDepth 20000 in
theorem qcw_27 : qCw 27 ∈ qW := List.mem_filter.mpr ⟨List.mem_append_right _ (List.mem_append_right _ (List.mem_append_left _ (List.mem_of_getElem? (i := 38) (rfl : tables_1_2[38]? = some (qCw 27))))), rfl⟩
set_option maxRecDepth 20000 in
theorem qcw_28 : qCw 28 ∈ qW := List.mem_filter.mpr ⟨List.mem_append_right _ (List.mem_append_right _ (List.mem_append_left _ (List.mem_of_getElem? (i := 42) (rfl : tables_1_2[42]? = some (qCw 28))))), rfl⟩
set_option maxRecDepth 20000 in
theorem qcw_29 : qCw 29 ∈ qW := List.mem_filter.mpr ⟨List.mem_append_right _ (List.mem_append_right _ (List.mem_append_left _ (List.mem_of_getElem? (i := 66) (rfl : tables_1_2[66]? = some (qCw 29))))), rfl⟩
set_option maxRecDepth 20000 in
theorem qcw_30 : qCw 30 ∈ qW := List.mem_filter.mpr ⟨List.mem_append_right _ (List.mem_append_right _ (List.mem_append_left _ (List.mem_of_getElem? (i := 77) (rfl : tables_1_2[77]? = some (qCw 30))))), rfl⟩
set_option maxRecDepth 20000 in
theorem qcw_31 : qCw 31 ∈ qW := List.mem_filter.mpr ⟨List.mem_append_right _ (List.mem_append_right _ (List.mem_append_left _ (List.mem_of_getElem? (i := 84) (rfl : tables_1_2[84]? = some (qCw 31))))), rfl⟩
set_option maxRecDepth 20000 in
theorem qcw_32 : qCw 32 ∈ qW := List.mem_filter.mpr ⟨List.mem_append_right _ (List.mem_append_right _ (List.mem_append_left _ (List.mem_of_getElem? (i := 104) (rfl : tables_1_2[104]? = some (qCw 32))))), rfl⟩
set_option maxRecDepth 20000 in
theorem qcw_33 : qCw 33 ∈ qW := List.mem_filter.mpr ⟨List.mem_append_right _ (List.mem_append_right _ (List.mem_append_left _ (List.mem_of_getElem? (i := 109) (rfl : tables_1_2[109]? = some (qCw 33))))), rfl⟩
set_option maxRecDepth 20000 in
theorem qcw_34 : qCw 34 ∈ qW := List.mem_filter.mpr ⟨List.mem_append_right _ (List.mem_append_right _ (List.mem_append_left _ (List.mem_of_getElem? (i := 113) (rfl : tables_1_2[113]? = some (qCw 34))))), rfl⟩
set_option maxRecDepth 20000 in
theorem qcw_35 : qCw 35 ∈ qW := List.mem_filter.mpr ⟨List.mem_append_right _ (List.mem_append_right _ (List.mem_append_left _ (List.mem_of_getElem? (i := 117) (rfl : tables_1_2[117]? = some (qCw 35))))), rfl⟩
set_option maxRecDepth 20000 in
theorem qcw_36 : qCw 36 ∈ qW := List.mem_filter.mpr ⟨List.mem_append_right _ (List.mem_append_right _ (List.mem_append_left _ (List.mem_of_getElem? (i := 125) (rfl : tables_1_2[125]? = some (qCw 36))))), rfl⟩
set_option maxRecDepth 20000 in
theorem qcw_37 : qCw 37 ∈ qW := List.mem_filter.mpr ⟨List.mem_append_right _ (List.mem_append_left _ (List.mem_of_getElem? (i := 167) (rfl : tables_1_1[167]? = some (qCw 37)))), rfl⟩
set_option maxRecDepth 20000 in
theorem qcw_38 : qCw 38 ∈ qW := List.mem_filter.mpr ⟨List.mem_append_right _ (List.mem_append_right _ (List.mem_append_left _ (List.mem_of_getElem? (i := 211) (rfl : tables_1_2[211]? = some (qCw 38))))), rfl⟩
set_option maxRecDepth 20000 in
theorem qcw_39 : qCw 39 ∈ qW := List.mem_filter.mpr ⟨List.mem_append_right _ (List.mem_append_right _ (List.mem_append_left _ (List.mem_of_getElem? (i := 236) (rfl : tables_1_2[236]? = some (qCw 39))))), rfl⟩
set_option maxRecDepth 20000 in
theorem qcw_40 : qCw 40 ∈ qW := List.mem_filter.mpr ⟨List.mem_append_right _ (List.mem_append_right _ (List.mem_append_right _ (List.mem_of_getElem? (i := 24) (rfl : tables_1_3[24]? = some (qCw 40))))), rfl⟩
set_option maxRecDepth 20000 in
theorem qcw_41 : qCw 41 ∈ qW := List.mem_filter.mpr ⟨List.mem_append_right _ (List.mem_append_right _ (List.mem_append_left _ (List.mem_of_getElem? (i := 215) (rfl : tables_1_2[215]? = some (qCw 41))))), rfl⟩
set_option maxRecDepth 20000 in
theorem qcw_42 : qCw 42 ∈ qW := List.mem_filter.mpr ⟨List.mem_append_right _ (List.mem_append_left _ (List.mem_of_getElem? (i := 95) (rfl : tables_1_1[95]? = some (qCw 42)))), rfl⟩
set_option maxRecDepth 20000 in
theorem qcw_43 : qCw 43 ∈ qW := List.mem_filter.mpr ⟨List.mem_append_right _ (List.mem_append_right _ (List.mem_append_left _ (List.mem_of_getElem? (i := 16) (rfl : tables_1_2[16]? = some (qCw 43))))), rfl⟩
set_option maxRecDepth 20000 in
theorem qcw_44 : qCw 44 ∈ qW := List.mem_filter.mpr ⟨List.mem_append_right _ (List.mem_append_right _ (List.mem_append_left _ (List.mem_of_getElem? (i := 187) (rfl : tables_1_2[187]? = some (qCw 44))))), rfl⟩
set_option maxRecDepth 20000 in
theorem qcw_45 : qCw 45 ∈ qW := List.mem_filter.mpr ⟨List.mem_append_right _ (List.mem_append_right _ (List.mem_append_left _ (List.mem_of_getElem? (i := 96) (rfl : tables_1_2[96]? = some (qCw 45))))), rfl⟩
set_option maxRecDepth 20000 in
theorem qcw_46 : qCw 46 ∈ qW := List.mem_filter.mpr ⟨List.mem_append_right _ (List.mem_append_left _ (List.mem_of_getElem? (i := 187) (rfl : tables_1_1[187]? = some (qCw 46)))), rfl⟩
set_option maxRecDepth 20000 in
theorem qcw_47 : qCw 47 ∈ qW := List.mem_filter.mpr ⟨List.mem_append_right _ (List.mem_append_left _ (List.mem_of_getElem? (i := 50) (rfl : tables_1_1[50]? = some (qCw 47)))), rfl⟩
set_option maxRecDepth 20000 in
theorem qcw_48 : qCw 48 ∈ qW := List.mem_filter.mpr ⟨List.mem_append_right _ (List.mem_append_left _ (List.mem_of_getElem? (i := 50) (rfl : tables_1_1[50]? = some (qCw 48)))), rfl⟩
set_option maxRecDepth 20000 in
theorem qcw_49 : qCw 49 ∈ qW := List.mem_filter.mpr ⟨List.mem_append_right _ (List.mem_append_left _ (List.mem_of_getElem? (i := 50) (rfl : tables_1_1[50]? = some (qCw 49)))), rfl⟩
set_option maxRecDepth 20000 in
theorem qcw_50 : qCw 50 ∈ qW := List.mem_filter.mpr ⟨List.mem_append_right _ (List.mem_append_left _ (List.mem_of_getElem? (i := 50) (rfl : tables_1_1[50]? = some (qCw 50)))), rfl⟩
set_option maxRecDepth 20000 in
theorem qcw_51 : qCw 51 ∈ qW := List.mem_filter.mpr ⟨List.mem_append_right _ (List.mem_append_left _ (List.mem_of_getElem? (i := 50) (rfl : tables_1_1[50]? = some (qCw 51)))), rfl⟩
set_option maxRecDepth 20000 in
theorem qcw_52 : qCw 52 ∈ qW := List.mem_filter.mpr ⟨List.mem_append_right _ (List.mem_append_left _ (List.mem_of_getElem? (i := 50) (rfl : tables_1_1[50]? = some (qCw 52)))), rfl⟩
set_option maxRecDepth 20000 in
theorem qcw_53 : qCw 53 ∈ qW := List.mem_filter.mpr ⟨List.mem_append_right _ (List.mem_append_left _ (List.mem_of_getElem? (i := 50) (rfl : tables_1_1[50]? = some (qCw 53)))), rfl⟩
set_option maxRecDepth 20000 in
theorem qcw_54 : qCw 54 ∈ qW := List.mem_filter.mpr ⟨List.mem_append_right _ (List.mem_append_left _ (List.mem_of_getElem? (i := 50) (rfl : tables_1_1[50]? = some (qCw 54)))), rfl⟩
set_option maxRecDepth 20000 in
theorem qcw_55 : qCw 55 ∈ qW := List.mem_filter.mpr ⟨List.mem_append_right _ (List.mem_append_left _ (List.mem_of_getElem? (i := 50) (rfl : tables_1_1[50]? = some (qCw 55)))), rfl⟩
set_option maxRecDepth 20000 in
theorem qcw_56 : qCw 56 ∈ qW := List.mem_filter.mpr ⟨List.mem_append_right _ (List.mem_append_left _ (List.mem_of_getElem? (i := 50) (rfl : tables_1_1[50]? = some (qCw 56)))), rfl⟩
set_option maxRecDepth 20000 in
theorem qcw_57 : qCw 57 ∈ qW := List.mem_filter.mpr ⟨List.mem_append_right _ (List.mem_append_left _ (List.mem_of_getElem? (i := 50) (rfl : tables_1_1[50]? = some (qCw 57)))), rfl⟩
set_option maxRecDepth 20000 in
theorem qcw_58 : qCw 58 ∈ qW := List.mem_filter.mpr ⟨List.mem_append_right _ (List.mem_append_left _ (List.mem_of_getElem? (i := 32) (rfl : tables_1_1[32]? = some (qCw 58)))), rfl⟩
set_option maxRecDepth 20000 in
theorem qcw_59 : qCw 59 ∈ qW := List.mem_filter.mpr ⟨List.mem_append_right _ (List.mem_append_right _ (List.mem_append_left _ (List.mem_of_getElem? (i := 20) (rfl : tables_1_2[20]? = some (qCw 59))))), rfl⟩
set_option maxRecDepth 20000 in
theorem qcw_60 : qCw 60 ∈ qW := List.mem_filter.mpr ⟨List.mem_append_right _ (List.mem_append_right _ (List.mem_append_left _ (List.mem_of_getElem? (i := 88) (rfl : tables_1_2[88]? = some (qCw 60))))), rfl⟩
set_option maxRecDepth 20000 in
theorem qcw_61 : qCw 61 ∈ qW := List.mem_filter.mpr ⟨List.mem_append_right _ (List.mem_append_right _ (List.mem_append_left _ (List.mem_of_getElem? (i := 50) (rfl : tables_1_2[50]? = some (qCw 61))))), rfl⟩
set_option maxRecDepth 20000 in
theorem qcw_62 : qCw 62 ∈ qW := List.mem_filter.mpr ⟨List.mem_append_right _ (List.mem_append_right _ (List.mem_append_left _ (List.mem_of_getElem? (i := 100) (rfl : tables_1_2[100]? = some (qCw 62))))), rfl⟩
set_option maxRecDepth 20000 in
theorem qcw_63 : qCw 63 ∈ qW := List.mem_filter.mpr ⟨List.mem_append_right _ (List.mem_append_left _ (List.mem_of_getElem? (i := 14) (rfl : tables_1_1[14]? = some (qCw 63)))), rfl⟩
set_option maxRecDepth 20000 in
theorem qcw_64 : qCw 64 ∈ qW := List.mem_filter.mpr ⟨List.mem_append_right _ (List.mem_append_right _ (List.mem_append_right _ (List.mem_of_getElem? (i := 8) (rfl : tables_1_3[8]? = some (qCw 64))))), rfl⟩
set_option maxRecDepth 20000 in
theorem qcw_65 : qCw 65 ∈ qW := List.mem_filter.mpr ⟨List.mem_append_right _ (List.mem_append_right _ (List.mem_append_right _ (List.mem_of_getElem? (i := 0) (rfl : tables_1_3[0]? = some (qCw 65))))), rfl⟩
set_option maxRecDepth 20000 in
theorem qcw_66 : qCw 66 ∈ qW := List.mem_filter.mpr ⟨List.mem_append_right _ (List.mem_append_right _ (List.mem_append_left _ (List.mem_of_getElem? (i := 207) (rfl : tables_1_2[207]? = some (qCw 66))))), rfl⟩
set_option maxRecDepth 20000 in
theorem qcw_67 : qCw 67 ∈ qW := List.mem_filter.mpr ⟨List.mem_append_right _ (List.mem_append_right _ (List.mem_append_right _ (List.mem_of_getElem? (i := 28) (rfl : tables_1_3[28]? = some (qCw 67))))), rfl⟩
set_option maxRecDepth 20000 in
theorem qcw_68 : qCw 68 ∈ qW := List.mem_filter.mpr ⟨List.mem_append_right _ (List.mem_append_right _ (List.mem_append_left _ (List.mem_of_getElem? (i := 232) (rfl : tables_1_2[232]? = some (qCw 68))))), rfl⟩
set_option maxRecDepth 20000 in
theorem qcw_69 : qCw 69 ∈ qW := List.mem_filter.mpr ⟨List.mem_append_right _ (List.mem_append_right _ (List.mem_append_left _ (List.mem_of_getElem? (i := 159) (rfl : tables_1_2[159]? = some (qCw 69))))), rfl⟩
set_option maxRecDepth 20000 in
theorem qcw_70 : qCw 70 ∈ qW := List.mem_filter.mpr ⟨List.mem_append_right _ (List.mem_append_right _ (List.mem_append_left _ (List.mem_of_getElem? (i := 182) (rfl : tables_1_2[182]? = some (qCw 70))))), rfl⟩
set_option maxRecDepth 20000 in
theorem qcw_71 : qCw 71 ∈ qW := List.mem_filter.mpr ⟨List.mem_append_right _ (List.mem_append_right _ (List.mem_append_left _ (List.mem_of_getElem? (i := 174) (rfl : tables_1_2[174]? = some (qCw 71))))), rfl⟩
set_option maxRecDepth 20000 in
theorem qcw_72 : qCw 72 ∈ qW := List.mem_filter.mpr ⟨List.mem_append_right _ (List.mem_append_left _ (List.mem_of_getElem? (i := 229) (rfl : tables_1_1[229]? = some (qCw 72)))), rfl⟩
set_option maxRecDepth 20000 in
theorem qcw_73 : qCw 73 ∈ qW := List.mem_filter.mpr ⟨List.mem_append_right _ (List.mem_append_right _ (List.mem_append_left _ (List.mem_of_getElem? (i := 165) (rfl : tables_1_2[165]? = some (qCw 73))))), rfl⟩
set_option maxRecDepth 20000 in
theorem qcw_74 : qCw 74 ∈ qW := List.mem_filter.mpr ⟨List.mem_append_right _ (List.mem_append_right _ (List.mem_append_left _ (List.mem_of_getElem? (i := 191) (rfl : tables_1_2[191]? = some (qCw 74))))), rfl⟩
set_option maxRecDepth 20000 in
theorem qcw_75 : qCw 75 ∈ qW := List.mem_filter.mpr ⟨List.mem_append_right _ (List.mem_append_right _ (List.mem_append_left _ (List.mem_of_getElem? (i := 1) (rfl : tables_1_2[1]? = some (qCw 75))))), rfl⟩
set_option maxRecDepth 20000 in
theorem qcw_76 : qCw 76 ∈ qW := List.mem_filter.mpr ⟨List.mem_append_right _ (List.mem_append_right _ (List.mem_append_left _ (List.mem_of_getElem? (i := 133) (rfl : tables_1_2[133]? = some (qCw 76))))), rfl⟩
set_option maxRecDepth 20000 in
theorem qcw_77 : qCw 77 ∈ qW := List.mem_filter.mpr ⟨List.mem_append_right _ (List.mem_append_left _ (List.mem_of_getElem? (i := 50) (rfl : tables_1_1[50]? = some (qCw 77)))), rfl⟩
set_option maxRecDepth 20000 in
theorem qcw_78 : qCw 78 ∈ qW := List.mem_filter.mpr ⟨List.mem_append_right _ (List.mem_append_left _ (List.mem_of_getElem? (i := 50) (rfl : tables_1_1[50]? = some (qCw 78)))), rfl⟩
set_option maxRecDepth 20000 in
theorem qcw_79 : qCw 79 ∈ qW := List.mem_filter.mpr ⟨List.mem_append_right _ (List.mem_append_left _ (List.mem_of_getElem? (i := 50) (rfl : tables_1_1[50]? = some (qCw 79)))), rfl⟩
set_option maxRecDepth 20000 in
theorem qcw_80 : qCw 80 ∈ qW := List.mem_filter.mpr ⟨List.mem_append_right _ (List.mem_append_left _ (List.mem_of_getElem? (i := 50) (rfl : tables_1_1[50]? = some (qCw 80)))), rfl⟩
set_option maxRecDepth 20000 in
theorem qcw_81 : qCw 81 ∈ qW := List.mem_filter.mpr ⟨List.mem_append_right _ (List.mem_append_left _ (List.mem_of_getElem? (i := 50) (rfl : tables_1_1[50]? = some (qCw 81)))), rfl⟩
set_option maxRecDepth 20000 in
theorem qcw_82 : qCw 82 ∈ qW := List.mem_filter.mpr ⟨List.mem_append_right _ (List.mem_append_left _ (List.mem_of_getElem? (i := 50) (rfl : tables_1_1[50]? = some (qCw 82)))), rfl⟩
set_option maxRecDepth 20000 in
theorem qcw_83 : qCw 83 ∈ qW := List.mem_filter.mpr ⟨List.mem_append_right _ (List.mem_append_right _ (List.mem_append_right _ (List.mem_of_getElem? (i := 20) (rfl : tables_1_3[20]? = some (qCw 83))))), rfl⟩
set_option maxRecDepth 20000 in
theorem qcw_84 : qCw 84 ∈ qW := List.mem_filter.mpr ⟨List.mem_append_right _ (List.mem_append_left _ (List.mem_of_getElem? (i := 50) (rfl : tables_1_1[50]? = some (qCw 84)))), rfl⟩
set_option maxRecDepth 20000 in
theorem qcw_85 : qCw 85 ∈ qW := List.mem_filter.mpr ⟨List.mem_append_right _ (List.mem_append_left _ (List.mem_of_getElem? (i := 50) (rfl : tables_1_1[50]? = some (qCw 85)))), rfl⟩
set_option maxRecDepth 20000 in
theorem qcw_86 : qCw 86 ∈ qW := List.mem_filter.mpr ⟨List.mem_append_right _ (List.mem_append_right _ (List.mem_append_left _ (List.mem_of_getElem? (i := 202) (rfl : tables_1_2[202]? = some (qCw 86))))), rfl⟩
set_option maxRecDepth 20000 in
theorem qcw_87 : qCw 87 ∈ qW := List.mem_filter.mpr ⟨List.mem_append_right _ (List.mem_append_right _ (List.mem_append_left _ (List.mem_of_getElem? (i := 198) (rfl : tables_1_2[198]? = some (qCw 87))))), rfl⟩
set_option maxRecDepth 20000 in
theorem qcw_88 : qCw 88 ∈ qW := List.mem_filter.mpr ⟨List.mem_append_right _ (List.mem_append_right _ (List.mem_append_left _ (List.mem_of_getElem? (i := 155) (rfl : tables_1_2[155]? = some (qCw 88))))), rfl⟩
set_option maxRecDepth 20000 in
theorem qcw_89 : qCw 89 ∈ qW := List.mem_filter.mpr ⟨List.mem_append_right _ (List.mem_append_right _ (List.mem_append_left _ (List.mem_of_getElem? (i := 178) (rfl : tables_1_2[178]? = some (qCw 89))))), rfl⟩
set_option maxRecDepth 20000 in
theorem qcw_90 : qCw 90 ∈ qW := List.mem_filter.mpr ⟨List.mem_append_right _ (List.mem_append_right _ (List.mem_append_left _ (List.mem_of_getElem? (i := 195) (rfl : tables_1_2[195]? = some (qCw 90))))), rfl⟩
set_option maxRecDepth 20000 in
theorem qcw_91 : qCw 91 ∈ qW := List.mem_filter.mpr ⟨List.mem_append_right _ (List.mem_append_left _ (List.mem_of_getElem? (i := 50) (rfl : tables_1_1[50]? = some (qCw 91)))), rfl⟩
set_option maxRecDepth 20000 in
theorem qcw_92 : qCw 92 ∈ qW := List.mem_filter.mpr ⟨List.mem_append_right _ (List.mem_append_left _ (List.mem_of_getElem? (i := 50) (rfl : tables_1_1[50]? = some (qCw 92)))), rfl⟩
set_option maxRecDepth 20000 in
theorem qcw_93 : qCw 93 ∈ qW := List.mem_filter.mpr ⟨List.mem_append_right _ (List.mem_append_left _ (List.mem_of_getElem? (i := 50) (rfl : tables_1_1[50]? = some (qCw 93)))), rfl⟩
set_option maxRecDepth 20000 in
theorem qcw_94 : qCw 94 ∈ qW := List.mem_filter.mpr ⟨List.mem_append_right _ (List.mem_append_left _ (List.mem_of_getElem? (i := 50) (rfl : tables_1_1[50]? = some (qCw 94)))), rfl⟩
set_option maxRecDepth 20000 in
theorem qcw_95 : qCw 95 ∈ qW := List.mem_filter.mpr ⟨List.mem_append_right _ (List.mem_append_left _ (List.mem_of_getElem? (i := 50) (rfl : tables_1_1[50]? = some (qCw 95)))), rfl⟩
set_option maxRecDepth 20000 in
theorem qcw_96 : qCw 96 ∈ qW := List.mem_filter.mpr ⟨List.mem_append_right _ (List.mem_append_left _ (List.mem_of_getElem? (i := 50) (rfl : tables_1_1[50]? = some (qCw 96)))), rfl⟩
set_option maxRecDepth 20000 in
theorem qcw_97 : qCw 97 ∈ qW := List.mem_filter.mpr ⟨List.mem_append_right _ (List.mem_append_left _ (List.mem_of_getElem? (i := 50) (rfl : tables_1_1[50]? = some (qCw 97)))), rfl⟩
set_option maxRecDepth 20000 in
theorem qcw_98 : qCw 98 ∈ qW := List.mem_filter.mpr ⟨List.mem_append_right _ (List.mem_append_left _ (List.mem_of_getElem? (i := 50) (rfl : tables_1_1[50]? = some (qCw 98)))), rfl⟩
set_option maxRecDepth 20000 in
theorem qcw_99 : qCw 99 ∈ qW := List.mem_filter.mpr ⟨List.mem_append_right _ (List.mem_append_left _ (List.mem_of_getElem? (i := 50) (rfl : tables_1_1[50]? = some (qCw 99)))), rfl⟩
set_option maxRecDepth 20000 in
theorem qcw_100 : qCw 100 ∈ qW := List.mem_filter.mpr ⟨List.mem_append_right _ (List.mem_append_left _ (List.mem_of_getElem? (i := 50) (rfl : tables_1_1[50]? = some (qCw 100)))), rfl⟩
set_option maxRecDepth 20000 in
theorem qcw_101 : qCw 101 ∈ qW := List.mem_filter.mpr ⟨List.mem_append_right _ (List.mem_append_left _ (List.mem_of_getElem? (i := 50) (rfl : tables_1_1[50]? = some (qCw 101)))), rfl⟩
set_option maxRecDepth 20000 in
theorem qcw_102 : qCw 102 ∈ qW := List.mem_filter.mpr ⟨List.mem_append_right _ (List.mem_append_left _ (List.mem_of_getElem? (i := 50) (rfl : tables_1_1[50]? = some (qCw 102)))), rfl⟩
set_option maxRecDepth 20000 in
theorem qcw_103 : qCw 103 ∈ qW := List.mem_filter.mpr ⟨List.mem_append_right _ (List.mem_append_left _ (List.mem_of_getElem? (i := 50) (rfl : tables_1_1[50]? = some (qCw 103)))), rfl⟩
set_option maxRecDepth 20000 in
theorem qcw_104 : qCw 104 ∈ qW := List.mem_filter.mpr ⟨List.mem_append_right _ (List.mem_append_left _ (List.mem_of_getElem? (i := 50) (rfl : tables_1_1[50]? = some (qCw 104)))), rfl⟩
set_option maxRecDepth 20000 in
theorem qcw_105 : qCw 105 ∈ qW := List.mem_filter.mpr ⟨List.mem_append_right _ (List.mem_append_left _ (List.mem_of_getElem? (i := 50) (rfl : tables_1_1[50]? = some (qCw 105)))), rfl⟩
set_option maxRecDepth 20000 in
theorem qcw_106 : qCw 106 ∈ qW := List.mem_filter.mpr ⟨List.mem_append_right _ (List.mem_append_left _ (List.mem_of_getElem? (i := 50) (rfl : tables_1_1[50]? = some (qCw 106)))), rfl⟩
set_option maxRecDepth 20000 in
theorem qcw_107 : qCw 107 ∈ qW := List.mem_filter.mpr ⟨List.mem_append_right _ (List.mem_append_left _ (List.mem_of_getElem? (i := 50) (rfl : tables_1_1[50]? = some (qCw 107)))), rfl⟩
set_option maxRecDepth 20000 in
theorem qcw_108 : qCw 108 ∈ qW := List.mem_filter.mpr ⟨List.mem_append_right _ (List.mem_append_left _ (List.mem_of_getElem? (i := 50) (rfl : tables_1_1[50]? = some (qCw 108)))), rfl⟩
set_option maxRecDepth 20000 in
theorem qcw_109 : qCw 109 ∈ qW := List.mem_filter.mpr ⟨List.mem_append_right _ (List.mem_append_left _ (List.mem_of_getElem? (i := 50) (rfl : tables_1_1[50]? = some (qCw 109)))), rfl⟩
set_option maxRecDepth 20000 in
theorem qcw_110 : qCw 110 ∈ qW := List.mem_filter.mpr ⟨List.mem_append_right _ (List.mem_append_left _ (List.mem_of_getElem? (i := 50) (rfl : tables_1_1[50]? = some (qCw 110)))), rfl⟩
set_option maxRecDepth 20000 in
theorem qcw_111 : qCw 111 ∈ qW := List.mem_filter.mpr ⟨List.mem_append_right _ (List.mem_append_left _ (List.mem_of_getElem? (i := 50) (rfl : tables_1_1[50]? = some (qCw 111)))), rfl⟩
set_option maxRecDepth 20000 in
theorem qcw_112 : qCw 112 ∈ qW := List.mem_filter.mpr ⟨List.mem_append_right _ (List.mem_append_left _ (List.mem_of_getElem? (i := 50) (rfl : tables_1_1[50]? = some (qCw 112)))), rfl⟩
set_option maxRecDepth 20000 in
theorem qcw_113 : qCw 113 ∈ qW := List.mem_filter.mpr ⟨List.mem_append_right _ (List.mem_append_left _ (List.mem_of_getElem? (i := 50) (rfl : tables_1_1[50]? = some (qCw 113)))), rfl⟩
set_option maxRecDepth 20000 in
theorem qcw_114 : qCw 114 ∈ qW := List.mem_filter.mpr ⟨List.mem_append_right _ (List.mem_append_left _ (List.mem_of_getElem? (i := 50) (rfl : tables_1_1[50]? = some (qCw 114)))), rfl⟩
set_option maxRecDepth 20000 in
theorem qcw_115 : qCw 115 ∈ qW := List.mem_filter.mpr ⟨List.mem_append_right _ (List.mem_append_left _ (List.mem_of_getElem? (i := 50) (rfl : tables_1_1[50]? = some (qCw 115)))), rfl⟩
set_option maxRecDepth 20000 in
theorem qcw_116 : qCw 116 ∈ qW := List.mem_filter.mpr ⟨List.mem_append_right _ (List.mem_append_left _ (List.mem_of_getElem? (i := 50) (rfl : tables_1_1[50]? = some (qCw 116)))), rfl⟩
set_option maxRecDepth 20000 in
theorem qcw_117 : qCw 117 ∈ qW := List.mem_filter.mpr ⟨List.mem_append_right _ (List.mem_append_left _ (List.mem_of_getElem? (i := 50) (rfl : tables_1_1[50]? = some (qCw 117)))), rfl⟩
set_option maxRecDepth 20000 in
theorem qcw_118 : qCw 118 ∈ qW := List.mem_filter.mpr ⟨List.mem_append_right _ (List.mem_append_left _ (List.mem_of_getElem? (i := 50) (rfl : tables_1_1[50]? = some (qCw 118)))), rfl⟩
set_option maxRecDepth 20000 in
theorem qcw_119 : qCw 119 ∈ qW := List.mem_filter.mpr ⟨List.mem_append_right _ (List.mem_append_left _ (List.mem_of_getElem? (i := 50) (rfl : tables_1_1[50]? = some (qCw 119)))), rfl⟩
set_option maxRecDepth 20000 in
theorem qcw_120 : qCw 120 ∈ qW := List.mem_filter.mpr ⟨List.mem_append_right _ (List.mem_append_left _ (List.mem_of_getElem? (i := 50) (rfl : tables_1_1[50]? = some (qCw 120)))), rfl⟩
set_option maxRecDepth 20000 in
theorem qcw_121 : qCw 121 ∈ qW := List.mem_filter.mpr ⟨List.mem_append_right _ (List.mem_append_left _ (List.mem_of_getElem? (i := 50) (rfl : tables_1_1[50]? = some (qCw 121)))), rfl⟩
set_option maxRecDepth 20000 in
theorem qcw_122 : qCw 122 ∈ qW := List.mem_filter.mpr ⟨List.mem_append_right _ (List.mem_append_left _ (List.mem_of_getElem? (i := 50) (rfl : tables_1_1[50]? = some (qCw 122)))), rfl⟩
set_option maxRecDepth 20000 in
theorem qcw_123 : qCw 123 ∈ qW := List.mem_filter.mpr ⟨List.mem_append_right _ (List.mem_append_left _ (List.mem_of_getElem? (i := 50) (rfl : tables_1_1[50]? = some (qCw 123)))), rfl⟩
set_option maxRecDepth 20000 in
theorem qcw_124 : qCw 124 ∈ qW := List.mem_filter.mpr ⟨List.mem_append_right _ (List.mem_append_left _ (List.mem_of_getElem? (i := 50) (rfl : tables_1_1[50]? = some (qCw 124)))), rfl⟩
set_option maxRecDepth 20000 in
theorem qcw_125 : qCw 125 ∈ qW := List.mem_filter.mpr ⟨List.mem_append_right _ (List.mem_append_left _ (List.mem_of_getElem? (i := 50) (rfl : tables_1_1[50]? = some (qCw 125)))), rfl⟩
set_option maxRecDepth 20000 in
theorem qcw_126 : qCw 126 ∈ qW := List.mem_filter.mpr ⟨List.mem_append_right _ (List.mem_append_left _ (List.mem_of_getElem? (i := 50) (rfl : tables_1_1[50]? = some (qCw 126)))), rfl⟩
set_option maxRecDepth 20000 in
theorem qcw_127 : qCw 127 ∈ qW := List.mem_filter.mpr ⟨List.mem_append_right _ (List.mem_append_left _ (List.mem_of_getElem? (i := 50) (rfl : tables_1_1[50]? = some (qCw 127)))), rfl⟩
set_option maxRecDepth 20000 in
theorem qcw_128 : qCw 128 ∈ qW := List.mem_filter.mpr ⟨List.mem_append_right _ (List.mem_append_left _ (List.mem_of_getElem? (i := 50) (rfl : tables_1_1[50]? = some (qCw 128)))), rfl⟩
set_option maxRecDepth 20000 in
theorem qcw_129 : qCw 129 ∈ qW := List.mem_filter.mpr ⟨List.mem_append_right _ (List.mem_append_left _ (List.mem_of_getElem? (i := 50) (rfl : tables_1_1[50]? = some (qCw 129)))), rfl⟩
set_option maxRecDepth 20000 in
theorem qcw_130 : qCw 130 ∈ qW := List.mem_filter.mpr ⟨List.mem_append_right _ (List.mem_append_left _ (List.mem_of_getElem? (i := 50) (rfl : tables_1_1[50]? = some (qCw 130)))), rfl⟩
set_option maxRecDepth 20000 in
theorem qcw_131 : qCw 131 ∈ qW := List.mem_filter.mpr ⟨List.mem_append_right _ (List.mem_append_left _ (List.mem_of_getElem? (i := 50) (rfl : tables_1_1[50]? = some (qCw 131)))), rfl⟩
set_option maxRecDepth 20000 in
theorem qcw_132 : qCw 132 ∈ qW := List.mem_filter.mpr ⟨List.mem_append_right _ (List.mem_append_left _ (List.mem_of_getElem? (i := 50) (rfl : tables_1_1[50]? = some (qCw 132)))), rfl⟩
set_option maxRecDepth 20000 in
theorem qcw_133 : qCw 133 ∈ qW := List.mem_filter.mpr ⟨List.mem_append_right _ (List.mem_append_left _ (List.mem_of_getElem? (i := 50) (rfl : tables_1_1[50]? = some (qCw 133)))), rfl⟩
set_option maxRecDepth 20000 in
theorem qcw_134 : qCw 134 ∈ qW := List.mem_filter.mpr ⟨List.mem_append_right _ (List.mem_append_left _ (List.mem_of_getElem? (i := 50) (rfl : tables_1_1[50]? = some (qCw 134)))), rfl⟩
set_option maxRecDepth 20000 in
theorem qcw_135 : qCw 135 ∈ qW := List.mem_filter.mpr ⟨List.mem_append_right _ (List.mem_append_left _ (List.mem_of_getElem? (i := 50) (rfl : tables_1_1[50]? = some (qCw 135)))), rfl⟩
set_option maxRecDepth 20000 in
theorem qcw_136 : qCw 136 ∈ qW := List.mem_filter.mpr ⟨List.mem_append_right _ (List.mem_append_left _ (List.mem_of_getElem? (i := 50) (rfl : tables_1_1[50]? = some (qCw 136)))), rfl⟩
set_option maxRecDepth 20000 in
theorem qcw_137 : qCw 137 ∈ qW := List.mem_filter.mpr ⟨List.mem_append_right _ (List.mem_append_left _ (List.mem_of_getElem? (i := 50) (rfl : tables_1_1[50]? = some (qCw 137)))), rfl⟩
set_option maxRecDepth 20000 in
theorem qcw_138 : qCw 138 ∈ qW := List.mem_filter.mpr ⟨List.mem_append_right _ (List.mem_append_left _ (List.mem_of_getElem? (i := 50) (rfl : tables_1_1[50]? = some (qCw 138)))), rfl⟩
set_option maxRecDepth 20000 in
theorem qcw_139 : qCw 139 ∈ qW := List.mem_filter.mpr ⟨List.mem_append_right _ (List.mem_append_left _ (List.mem_of_getElem? (i := 50) (rfl : tables_1_1[50]? = some (qCw 139)))), rfl⟩
set_option maxRecDepth 20000 in
theorem qcw_140 : qCw 140 ∈ qW := List.mem_filter.mpr ⟨List.mem_append_right _ (List.mem_append_left _ (List.mem_of_getElem? (i := 50) (rfl : tables_1_1[50]? = some (qCw 140)))), rfl⟩
set_option maxRecDepth 20000 in
theorem qcw_141 : qCw 141 ∈ qW := List.mem_filter.mpr ⟨List.mem_append_right _ (List.mem_append_left _ (List.mem_of_getElem? (i := 50) (rfl : tables_1_1[50]? = some (qCw 141)))), rfl⟩
set_option maxRecDepth 20000 in
theorem qcw_142 : qCw 142 ∈ qW := List.mem_filter.mpr ⟨List.mem_append_right _ (List.mem_append_left _ (List.mem_of_getElem? (i := 50) (rfl : tables_1_1[50]? = some (qCw 142)))), rfl⟩
set_option maxRecDepth 20000 in
theorem qcw_143 : qCw 143 ∈ qW := List.mem_filter.mpr ⟨List.mem_append_right _ (List.mem_append_left _ (List.mem_of_getElem? (i := 50) (rfl : tables_1_1[50]? = some (qCw 143)))), rfl⟩
set_option maxRecDepth 20000 in
theorem qcw_144 : qCw 144 ∈ qW := List.mem_filter.mpr ⟨List.mem_append_right _ (List.mem_append_left _ (List.mem_of_getElem? (i := 50) (rfl : tables_1_1[50]? = some (qCw 144)))), rfl⟩
set_option maxRecDepth 20000 in
theorem qcw_145 : qCw 145 ∈ qW := List.mem_filter.mpr ⟨List.mem_append_right _ (List.mem_append_left _ (List.mem_of_getElem? (i := 50) (rfl : tables_1_1[50]? = some (qCw 145)))), rfl⟩
set_option maxRecDepth 20000 in
theorem qcw_146 : qCw 146 ∈ qW := List.mem_filter.mpr ⟨List.mem_append_right _ (List.mem_append_left _ (List.mem_of_getElem? (i := 50) (rfl : tables_1_1[50]? = some (qCw 146)))), rfl⟩
set_option maxRecDepth 20000 in
theorem qcw_147 : qCw 147 ∈ qW := List.mem_filter.mpr ⟨List.mem_append_right _ (List.mem_append_left _ (List.mem_of_getElem? (i := 50) (rfl : tables_1_1[50]? = some (qCw 147)))), rfl⟩
theorem q_cw : ∀ z, z < 148 → qCw z ∈ qW := by
  refine lt_s ?_ qcw_147
  refine lt_s ?_ qcw_146
  refine lt_s ?_ qcw_145
  refine lt_s ?_ qcw_144
  refine lt_s ?_ qcw_143
  refine lt_s ?_ qcw_142
  refine lt_s ?_ qcw_141
  refine lt_s ?_ qcw_140
  refine lt_s ?_ qcw_139
  refine lt_s ?_ qcw_138
  refine lt_s ?_ qcw_137
  refine lt_s ?_ qcw_136
  refine lt_s ?_ qcw_135
  refine lt_s ?_ qcw_134
  refine lt_s ?_ qcw_133
  refine lt_s ?_ qcw_132
  refine lt_s ?_ qcw_131
  refine lt_s ?_ qcw_130
  refine lt_s ?_ qcw_129
  refine lt_s ?_ qcw_128
  refine lt_s ?_ qcw_127
  refine lt_s ?_ qcw_126
  refine lt_s ?_ qcw_125
  refine lt_s ?_ qcw_124
  refine lt_s ?_ qcw_123
  refine lt_s ?_ qcw_122
  refine lt_s ?_ qcw_121
  refine lt_s ?_ qcw_120
  refine lt_s ?_ qcw_119
  refine lt_s ?_ qcw_118
  refine lt_s ?_ qcw_117
  refine lt_s ?_ qcw_116
  refine lt_s ?_ qcw_115
  refine lt_s ?_ qcw_114
  refine lt_s ?_ qcw_113
  refine lt_s ?_ qcw_112
  refine lt_s ?_ qcw_111
  refine lt_s ?_ qcw_110
  refine lt_s ?_ qcw_109
  refine lt_s ?_ qcw_108
  refine lt_s ?_ qcw_107
  refine lt_s ?_ qcw_106
  refine lt_s ?_ qcw_105
  refine lt_s ?_ qcw_104
  refine lt_s ?_ qcw_103
  refine lt_s ?_ qcw_102
  refine lt_s ?_ qcw_101
  refine lt_s ?_ qcw_100
  refine lt_s ?_ qcw_99
  refine lt_s ?_ qcw_98
  refine lt_s ?_ qcw_97
  refine lt_s ?_ qcw_96
  refine lt_s ?_ qcw_95
  refine lt_s ?_ qcw_94
  refine lt_s ?_ qcw_93
  refine lt_s ?_ qcw_92
  refine lt_s ?_ qcw_91
  refine lt_s ?_ qcw_90
  refine lt_s ?_ qcw_89
  refine lt_s ?_ qcw_88
  refine lt_s ?_ qcw_87
  refine lt_s ?_ qcw_86
  refine lt_s ?_ qcw_85
  refine lt_s ?_ qcw_84
  refine lt_s ?_ qcw_83
  refine lt_s ?_ qcw_82
  refine lt_s ?_ qcw_81
  refine lt_s ?_ qcw_80
  refine lt_s ?_ qcw_79
  refine lt_s ?_ qcw_78
  refine lt_s ?_ qcw_77
  refine lt_s ?_ qcw_76
  refine lt_s ?_ qcw_75
  refine lt_s ?_ qcw_74
  refine lt_s ?_ qcw_73
  refine lt_s ?_ qcw_72
  refine lt_s ?_ qcw_71
  refine lt_s ?_ qcw_70
  refine lt_s ?_ qcw_69
  refine lt_s ?_ qcw_68
  refine lt_s ?_ qcw_67
  refine lt_s ?_ qcw_66
  refine lt_s ?_ qcw_65
  refine lt_s ?_ qcw_64
  refine lt_s ?_ qcw_63
  refine lt_s ?_ qcw_62
  refine lt_s ?_ qcw_61
  refine lt_s ?_ qcw_60
  refine lt_s ?_ qcw_59
  refine lt_s ?_ qcw_58
  refine lt_s ?_ qcw_57
  refine lt_s ?_ qcw_56
  refine lt_s ?_ qcw_55
  refine lt_s ?_ qcw_54
  refine lt_s ?_ qcw_53
  refine lt_s ?_ qcw_52
  refine lt_s ?_ qcw_51
  refine lt_s ?_ qcw_50
  refine lt_s ?_ qcw_49
  refine lt_s ?_ qcw_48
  refine lt_s ?_ qcw_47
  refine lt_s ?_ qcw_46
  refine lt_s ?_ qcw_45
  refine lt_s ?_ qcw_44
  refine lt_s ?_ qcw_43
  refine lt_s ?_ qcw_42
  refine lt_s ?_ qcw_41
  refine lt_s ?_ qcw_40
  refine lt_s ?_ qcw_39
  refine lt_s ?_ qcw_38
  refine lt_s ?_ qcw_37
  refine lt_s ?_ qcw_36
  refine lt_s ?_ qcw_35
  refine lt_s ?_ qcw_34
  refine lt_s ?_ qcw_33
  refine lt_s ?_ qcw_32
  refine lt_s ?_ qcw_31
  refine lt_s ?_ qcw_30
  refine lt_s ?_ qcw_29
  refine lt_s ?_ qcw_28
  refine lt_s ?_ qcw_27
  refine lt_s ?_ qcw_26
  refine lt_s ?_ qcw_25
  refine lt_s ?_ qcw_24
  refine lt_s ?_ qcw_23
  refine lt_s ?_ qcw_22
  refine lt_s ?_ qcw_21
  refine lt_s ?_ qcw_20
  refine lt_s ?_ qcw_19
  refine lt_s ?_ qcw_18
  refine lt_s ?_ qcw_17
  refine lt_s ?_ qcw_16
  refine lt_s ?_ qcw_15
  refine lt_s ?_ qcw_14
  refine lt_s ?_ qcw_13
  refine lt_s ?_ qcw_12
  refine lt_s ?_ qcw_11
  refine lt_s ?_ qcw_10
  refine lt_s ?_ qcw_9
  refine lt_s ?_ qcw_8
  refine lt_s ?_ qcw_7
  refine lt_s ?_ qcw_6
  refine lt_s ?_ qcw_5
  refine lt_s ?_ qcw_4
  refine lt_s ?_ qcw_3
  refine lt_s ?_ qcw_2
  refine lt_s ?_ qcw_1
  refine lt_s ?_ qcw_0
  exact lt_0
theorem q_mmx : Jvm.Cond.code Lib.Math.max.name Lib.Math.max.code 2 (some .int) ∈ qW ∧ Jvm.Cond.code Lib.Math.min.name Lib.Math.min.code 2 (some .int) ∈ qW := ⟨qAt_in (i := 329) (by decide +kernel), qAt_in (i := 336) (by decide +kernel)⟩
def qIp : List Nat := [65, 482, 266, 251, 288, 316, 312, 324, 375, 383, 37, 259, 506, 498, 474, 397, 479, 346, 300, 308, 247, 424, 285, 280, 392, 402, 406, 293, 297, 321, 332, 339, 359, 364, 368, 372, 380, 182, 465, 490, 518, 470, 110, 270, 441, 350, 202, 65, 65, 65, 65, 65, 65, 65, 65, 65, 65, 65, 47, 274, 342, 304, 354, 29, 502, 494, 461, 522, 487, 413, 436, 428, 243, 419, 445, 255, 387, 65, 65, 65, 65, 65, 65, 514, 65, 65, 457, 453, 410, 433, 450, 65, 65, 65, 65, 65, 65, 65, 65, 65, 65, 65, 65, 65, 65, 65, 65, 65, 65, 65, 65, 65, 65, 65, 65, 65, 65, 65, 65, 65, 65, 65, 65, 65, 65, 65, 65, 65, 65, 65, 65, 65, 65, 65, 65, 65, 65, 65, 65, 65, 65, 65, 65, 65, 65, 65, 65, 65, 328, 335, 0]
def qSp : List Nat := [65, 483, 267, 252, 289, 317, 313, 325, 376, 384, 37, 260, 507, 499, 475, 398, 14, 347, 301, 309, 248, 425, 0, 281, 393, 11, 12, 1, 2, 3, 4, 5, 6, 7, 8, 9, 10, 182, 466, 491, 519, 13, 110, 271, 442, 351, 202, 65, 65, 65, 65, 65, 65, 65, 65, 65, 65, 65, 47, 275, 343, 305, 355, 29, 503, 495, 462, 523, 15, 414, 437, 429, 244, 420, 446, 256, 388, 65, 65, 65, 65, 65, 65, 515, 65, 65, 457, 453, 410, 433, 450, 65, 65, 65, 65, 65, 65, 65, 65, 65, 65, 65, 65, 65, 65, 65, 65, 65, 65, 65, 65, 65, 65, 65, 65, 65, 65, 65, 65, 65, 65, 65, 65, 65, 65, 65, 65, 65, 65, 65, 65, 65, 65, 65, 65, 65, 65, 65, 65, 65, 65, 65, 65, 65, 65, 65, 65, 65, 328, 335, 0]
def qKw (z : Nat) : Jvm.Cond := if qK z = 1 then .static (qY z) else .instanceMethod (qY z)
theorem qIp_ok : (List.range 150).all (fun z => qAt (qIp.getD z 0) (qKw z)) = true := by decide +kernel
theorem q_kw : ∀ z, z < 150 → qKw z ∈ qW := fun z h => qAt_in (List.all_eq_true.mp qIp_ok z (List.mem_range.mpr h))
theorem qSp_ok : (List.range 150).all (fun z => !(qK z == 0) || qAt (qSp.getD z 0) (.selects (qR (qO z)) (qY z) (qY z))) = true := by decide +kernel
theorem q_sel : ∀ z, z < 150 → qK z = 0 → Jvm.Cond.selects (qR (qO z)) (qY z) (qY z) ∈ qW := fun z h hk => by
  have h1 := List.all_eq_true.mp qSp_ok z (List.mem_range.mpr h)
  simp only [hk, BEq.rfl, Bool.not_true, Bool.false_or] at h1
  exact qAt_in h1
theorem qY_ok : (List.range 148).all (fun z => decide ((qY z).cls = qR (qO z)) && (decide ((qY z).cls ≠ "java/lang/invoke/MethodHandle") && (decide ((qY z).cls ≠ "java/lang/invoke/VarHandle") && (decide ((parseMethodDescriptor (qY z).desc).map (fun d => d.parameters.length) = some (qA z)) && (decide (qO z < 10) && (plainName (qY z).cls && (qK z == 2) == decide ((qY z).name = "<init>"))))))) = true := by decide +kernel
theorem q_y : ∀ z, z < 148 → (qY z).cls = qR (qO z) ∧ (qY z).cls ≠ "java/lang/invoke/MethodHandle" ∧ (qY z).cls ≠ "java/lang/invoke/VarHandle" ∧ (parseMethodDescriptor (qY z).desc).map (fun d => d.parameters.length) = some (qA z) ∧ qO z < 10 ∧ plainName (qY z).cls = true ∧ (qK z == 2) = decide ((qY z).name = "<init>") := fun z h => by
  have h1 := List.all_eq_true.mp qY_ok z (List.mem_range.mpr h)
  simpa only [Bool.and_eq_true, decide_eq_true_eq, beq_iff_eq] using h1
def qMl : List (Nat × Nat × Nat × Nat) := [(8, 58, 63, 28), (6, 9, 10, 36), (6, 29, 37, 181), (2, 17, 10, 186), (8, 9, 72, 242), (6, 85, 20, 246), (1, 111, 3, 250), (8, 69, 75, 254), (6, 127, 11, 258), (1, 52, 2, 265), (1, 56, 43, 269), (3, 25, 59, 273), (1, 59, 59, 278), (6, 130, 23, 279), (1, 121, 22, 283), (1, 118, 4, 287), (1, 105, 27, 291), (1, 142, 28, 295), (1, 168, 18, 299), (1, 175, 61, 303), (1, 178, 19, 307), (1, 181, 6, 311), (0, 45, 5, 315), (1, 145, 29, 319), (1, 184, 7, 323), (0, 49, 148, 327), (1, 148, 30, 330), (1, 95, 149, 334), (1, 152, 31, 337), (1, 185, 60, 341), (1, 188, 17, 345), (1, 192, 45, 349), (1, 196, 62, 353), (1, 155, 32, 357), (1, 199, 5, 361), (1, 158, 33, 362), (1, 208, 34, 366), (1, 212, 35, 370), (1, 221, 8, 374), (1, 162, 36, 378), (1, 224, 9, 382), (8, 72, 76, 386), (6, 135, 24, 391), (1, 124, 20, 395), (1, 127, 15, 396), (1, 91, 25, 400), (1, 101, 26, 404), (1, 139, 148, 408), (8, 63, 88, 409), (8, 15, 69, 412), (6, 66, 17, 416), (6, 70, 3, 417), (8, 19, 73, 418), (6, 113, 21, 423), (8, 23, 71, 427), (6, 82, 19, 431), (8, 66, 89, 432), (8, 26, 70, 435), (6, 75, 18, 439), (6, 79, 44, 440), (8, 29, 74, 444), (6, 124, 60, 448), (8, 59, 90, 449), (8, 32, 87, 452), (8, 38, 86, 456), (8, 41, 66, 460), (6, 41, 38, 464), (2, 18, 41, 468), (2, 22, 11, 472), (6, 56, 14, 473), (1, 83, 16, 477), (1, 87, 1, 481), (6, 49, 68, 485), (6, 63, 39, 489), (8, 45, 65, 493), (6, 53, 13, 497), (8, 48, 64, 501), (6, 45, 12, 505), (8, 51, 83, 513), (6, 181, 40, 517), (8, 55, 67, 521), (6, 60, 15, 525)]
theorem qMl_ok : qMl.all (fun q => decide (q.2.2.1 < 150) && qAt q.2.2.2 (.methodLink (qR q.1) q.2.1 (qY q.2.2.1))) = true := by decide +kernel
def qObL : List (Nat × Nat × Nat) := [(6, 1, 31), (1, 3, 39), (5, 3, 49), (0, 3, 67), (3, 3, 112), (2, 3, 184), (4, 3, 204)]
def qArL : List (Nat × Nat × Nat) := [(1, 42, 262), (5, 15, 277)]
theorem qObL_ok : qObL.all (fun q => qAt q.2.2 (.methodLink (qR q.1) q.2.1 Lib.objectInit)) = true := by decide +kernel
theorem qArL_ok : qArL.all (fun q => qAt q.2.2 (.methodLink (qR q.1) q.2.1 arraycopyName)) = true := by decide +kernel
theorem q_obj : Jvm.Cond.instanceMethod Lib.objectInit ∈ qW ∧ Jvm.Cond.code Lib.objectInit ⟨#[0xb1]⟩ 1 none ∈ qW := ⟨qAt_in (i := 32) (by decide +kernel), qAt_in (i := 33) (by decide +kernel)⟩
theorem q_arc : Jvm.Cond.native arraycopyName ∈ qW ∧ Jvm.Cond.static arraycopyName ∈ qW ∧ Jvm.Cond.initialized "java/lang/System" ∈ qW := ⟨qAt_in (i := 264) (by decide +kernel), qAt_in (i := 263) (by decide +kernel), qAt_in (i := 24) (by decide +kernel)⟩
/-- a call: none; a method by its number; 200: Object's constructor; 201: System.arraycopy; nest: by a link among nest mates -/
def qMth (own idx : Nat) : Option (Bool × Nat) := match qMl.find? (fun q => q.1 == own && q.2.1 == idx) with
  | some q => some (false, q.2.2.1)
  | none => match qMnL.find? (fun q => q.1 == own && q.2.1 == idx) with
    | some q => some (true, q.2.2)
    | none => match qObL.find? (fun q => q.1 == own && q.2.1 == idx) with
      | some _ => some (false, 200)
      | none => match qArL.find? (fun q => q.1 == own && q.2.1 == idx) with
        | some _ => some (false, 201)
        | none => none
def qClL : List (Nat × Nat × Nat × Nat) := [(8, 10, 6, 26), (6, 7, 1, 34), (1, 18, 0, 40), (1, 24, 3, 42), (1, 30, 5, 44), (3, 9, 5, 113), (6, 27, 2, 179), (2, 9, 1, 185), (6, 34, 4, 199)]
def qCla (own idx : Nat) : Option Nat := (qClL.find? (fun q => q.1 == own && q.2.1 == idx)).map (fun q => q.2.2.1)
theorem qClL_ok : qClL.all (fun q => decide (q.2.2.1 < 8) && qAt q.2.2.2 (.classLink (qR q.1) q.2.1 (qR q.2.2.1))) = true := by decide +kernel
theorem q_cla {own idx c : Nat} (h : qCla own idx = some c) : c < 8 ∧ Jvm.Cond.classLink (qR own) idx (qR c) ∈ qW := by
  unfold qCla at h
  obtain ⟨q, hq, rfl⟩ := Option.map_eq_some_iff.mp h
  have hm := List.all_eq_true.mp qClL_ok q (List.mem_of_find?_eq_some hq)
  have hp := List.find?_some hq
  simp only [Bool.and_eq_true, beq_iff_eq, decide_eq_true_eq] at hm hp
  obtain ⟨rfl, rfl⟩ := hp
  exact ⟨hm.1, qAt_in hm.2⟩
def qCiL : List (Nat × Nat × Int32 × Nat) := [(6, 134, 39960, 390), (8, 8, 40503, 455), (8, 7, 2147483647, 459)]
def qCoL : List (Nat × Nat × Int64 × Nat) := [(6, 111, -2, 422)]
def qCi (own idx : Nat) : Option Int32 := (qCiL.find? (fun q => q.1 == own && q.2.1 == idx)).map (fun q => q.2.2.1)
def qCo (own idx : Nat) : Option Int64 := (qCoL.find? (fun q => q.1 == own && q.2.1 == idx)).map (fun q => q.2.2.1)
theorem qCiL_ok : qCiL.all (fun q => qAt q.2.2.2 (.constant (qR q.1) q.2.1 q.2.2.1)) = true := by decide +kernel
theorem qCoL_ok : qCoL.all (fun q => qAt q.2.2.2 (.constantLong (qR q.1) q.2.1 q.2.2.1)) = true := by decide +kernel
theorem q_ci {own idx : Nat} {v : Int32} (h : qCi own idx = some v) : Jvm.Cond.constant (qR own) idx v ∈ qW := by
  unfold qCi at h
  obtain ⟨q, hq, rfl⟩ := Option.map_eq_some_iff.mp h
  have hm := List.all_eq_true.mp qCiL_ok q (List.mem_of_find?_eq_some hq)
  have hp := List.find?_some hq
  simp only [Bool.and_eq_true, beq_iff_eq] at hm hp
  obtain ⟨rfl, rfl⟩ := hp
  exact qAt_in hm
theorem q_co {own idx : Nat} {v : Int64} (h : qCo own idx = some v) : Jvm.Cond.constantLong (qR own) idx v ∈ qW := by
  unfold qCo at h
  obtain ⟨q, hq, rfl⟩ := Option.map_eq_some_iff.mp h
  have hm := List.all_eq_true.mp qCoL_ok q (List.mem_of_find?_eq_some hq)
  have hp := List.find?_some hq
  simp only [Bool.and_eq_true, beq_iff_eq] at hm hp
  obtain ⟨rfl, rfl⟩ := hp
  exact qAt_in hm
theorem q_acl : Jvm.Cond.arrayClass .int ∈ qW ∧ Jvm.Cond.arrayClass .boolean ∈ qW ∧ Jvm.Cond.arrayClass .char ∈ qW := ⟨qAt_in (i := 60) (by decide +kernel), qAt_in (i := 198) (by decide +kernel), qAt_in (i := 222) (by decide +kernel)⟩
theorem qMth_ok {own idx z : Nat} {b : Bool} (h : qMth own idx = some (b, z)) : (b = false ∧ z < 150 ∧ Jvm.Cond.methodLink (qR own) idx (qY z) ∈ qW) ∨ (b = true ∧ (own, idx, z) ∈ qMnL) ∨ (b = false ∧ z = 200 ∧ Jvm.Cond.methodLink (qR own) idx Lib.objectInit ∈ qW) ∨ (b = false ∧ z = 201 ∧ Jvm.Cond.methodLink (qR own) idx arraycopyName ∈ qW) := by
  unfold qMth at h
  split at h
  · rename_i q hq
    have hm := List.all_eq_true.mp qMl_ok q (List.mem_of_find?_eq_some hq)
    have hp := List.find?_some hq
    simp only [Bool.and_eq_true, beq_iff_eq, decide_eq_true_eq] at hm hp
    obtain ⟨rfl, rfl⟩ := hp
    cases h
    exact Or.inl ⟨rfl, hm.1, qAt_in hm.2⟩
  · split at h
    · rename_i q hq
      have hp := List.find?_some hq
      simp only [Bool.and_eq_true, beq_iff_eq] at hp
      obtain ⟨rfl, rfl⟩ := hp
      cases h
      exact Or.inr (Or.inl ⟨rfl, List.mem_of_find?_eq_some hq⟩)
    · split at h
      · rename_i q hq
        have hm := List.all_eq_true.mp qObL_ok q (List.mem_of_find?_eq_some hq)
        have hp := List.find?_some hq
        simp only [Bool.and_eq_true, beq_iff_eq] at hp
        obtain ⟨rfl, rfl⟩ := hp
        cases h
        exact Or.inr (Or.inr (Or.inl ⟨rfl, rfl, qAt_in hm⟩))
      · split at h
        · rename_i q hq
          have hm := List.all_eq_true.mp qArL_ok q (List.mem_of_find?_eq_some hq)
          have hp := List.find?_some hq
          simp only [Bool.and_eq_true, beq_iff_eq] at hp
          obtain ⟨rfl, rfl⟩ := hp
          cases h
          exact Or.inr (Or.inr (Or.inr ⟨rfl, rfl, qAt_in hm⟩))
        · cases h
