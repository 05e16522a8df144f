section
-- ===== PART A: goes FIRST, ahead of the names: the tables' words, and 'selects' of the private methods out of them =====
/-- a private method of a class that the tables say can be made, by its rows of tables_1 -/
def lw_okq (q : MethodName × Nat) : Prop := (q.1.cls ≠ "java/lang/invoke/MethodHandle" ∧ q.1.cls ≠ "java/lang/invoke/VarHandle") ∧ Cond.instantiable q.1.cls q.2 ∈ tables_1 ∧ Cond.privateMethod q.1 ∈ tables_1 ∧ Cond.instanceMethod q.1 ∈ tables_1
theorem lw_p0 : lw_okq (⟨"LetterRuns$History", "behindLast", "()LLetterRuns$Centre;"⟩, 3) := ⟨⟨by decide +kernel, by decide +kernel⟩, List.mem_of_getElem? (i := 165) (by decide +kernel), List.mem_of_getElem? (i := 247) (by decide +kernel), List.mem_of_getElem? (i := 248) (by decide +kernel)⟩
theorem lw_p1 : lw_okq (⟨"LetterRuns", "recorded", "(I)I"⟩, 6) := ⟨⟨by decide +kernel, by decide +kernel⟩, List.mem_of_getElem? (i := 12) (by decide +kernel), List.mem_of_getElem? (i := 280) (by decide +kernel), List.mem_of_getElem? (i := 281) (by decide +kernel)⟩
theorem lw_p2 : lw_okq (⟨"LetterRuns$Centre", "isToCome", "(I)Z"⟩, 11) := ⟨⟨by decide +kernel, by decide +kernel⟩, List.mem_of_getElem? (i := 20) (by decide +kernel), List.mem_of_getElem? (i := 296) (by decide +kernel), List.mem_of_getElem? (i := 297) (by decide +kernel)⟩
theorem lw_p3 : lw_okq (⟨"LetterRuns$Centre", "isIdle", "()Z"⟩, 11) := ⟨⟨by decide +kernel, by decide +kernel⟩, List.mem_of_getElem? (i := 20) (by decide +kernel), List.mem_of_getElem? (i := 320) (by decide +kernel), List.mem_of_getElem? (i := 321) (by decide +kernel)⟩
theorem lw_p4 : lw_okq (⟨"LetterRuns$Centre", "skipTo", "(I)V"⟩, 11) := ⟨⟨by decide +kernel, by decide +kernel⟩, List.mem_of_getElem? (i := 20) (by decide +kernel), List.mem_of_getElem? (i := 327) (by decide +kernel), List.mem_of_getElem? (i := 328) (by decide +kernel)⟩
theorem lw_p5 : lw_okq (⟨"LetterRuns$Centre", "passMinute", "()V"⟩, 11) := ⟨⟨by decide +kernel, by decide +kernel⟩, List.mem_of_getElem? (i := 20) (by decide +kernel), List.mem_of_getElem? (i := 334) (by decide +kernel), List.mem_of_getElem? (i := 335) (by decide +kernel)⟩
theorem lw_p6 : lw_okq (⟨"LetterRuns$Centre", "letCome", "()V"⟩, 11) := ⟨⟨by decide +kernel, by decide +kernel⟩, List.mem_of_getElem? (i := 20) (by decide +kernel), List.mem_of_getElem? (i := 338) (by decide +kernel), List.mem_of_getElem? (i := 339) (by decide +kernel)⟩
theorem lw_p7 : lw_okq (⟨"LetterRuns$Centre", "letGo", "()V"⟩, 11) := ⟨⟨by decide +kernel, by decide +kernel⟩, List.mem_of_getElem? (i := 20) (by decide +kernel), List.mem_of_getElem? (i := 362) (by decide +kernel), List.mem_of_getElem? (i := 363) (by decide +kernel)⟩
theorem lw_p8 : lw_okq (⟨"LetterRuns$Centre", "findNextEvent", "()I"⟩, 11) := ⟨⟨by decide +kernel, by decide +kernel⟩, List.mem_of_getElem? (i := 20) (by decide +kernel), List.mem_of_getElem? (i := 371) (by decide +kernel), List.mem_of_getElem? (i := 372) (by decide +kernel)⟩
theorem lw_p9 : lw_okq (⟨"LetterRuns$Centre", "takeNext", "(LLetterRuns$Machine;)V"⟩, 11) := ⟨⟨by decide +kernel, by decide +kernel⟩, List.mem_of_getElem? (i := 20) (by decide +kernel), List.mem_of_getElem? (i := 375) (by decide +kernel), List.mem_of_getElem? (i := 376) (by decide +kernel)⟩
theorem lw_p10 : lw_okq (⟨"LetterRuns$Centre", "delayQueue", "(LLetterRuns$Row;)V"⟩, 11) := ⟨⟨by decide +kernel, by decide +kernel⟩, List.mem_of_getElem? (i := 20) (by decide +kernel), List.mem_of_getElem? (i := 395) (by decide +kernel), List.mem_of_getElem? (i := 396) (by decide +kernel)⟩
theorem lw_p11 : lw_okq (⟨"LetterRuns$Centre", "runMachine", "(LLetterRuns$Machine;I)V"⟩, 11) := ⟨⟨by decide +kernel, by decide +kernel⟩, List.mem_of_getElem? (i := 20) (by decide +kernel), List.mem_of_getElem? (i := 400) (by decide +kernel), List.mem_of_getElem? (i := 401) (by decide +kernel)⟩
theorem lw_p12 : lw_okq (⟨"LetterRuns$Centre", "sortBatch", "(LLetterRuns$Machine;LLetterRuns$Batch;I)V"⟩, 11) := ⟨⟨by decide +kernel, by decide +kernel⟩, List.mem_of_getElem? (i := 20) (by decide +kernel), List.mem_of_getElem? (i := 404) (by decide +kernel), List.mem_of_getElem? (i := 405) (by decide +kernel)⟩
theorem lw_p13 : lw_okq (⟨"LetterRuns$Centre", "rejectsOf", "(I)I"⟩, 11) := ⟨⟨by decide +kernel, by decide +kernel⟩, List.mem_of_getElem? (i := 20) (by decide +kernel), List.mem_of_getElem? (i := 408) (by decide +kernel), List.mem_of_getElem? (i := 409) (by decide +kernel)⟩
theorem lw_p14 : lw_okq (⟨"LetterRuns$Centre", "sortByHand", "()V"⟩, 11) := ⟨⟨by decide +kernel, by decide +kernel⟩, List.mem_of_getElem? (i := 20) (by decide +kernel), List.mem_of_getElem? (i := 416) (by decide +kernel), List.mem_of_getElem? (i := 417) (by decide +kernel)⟩
theorem lw_p15 : lw_okq (⟨"LetterRuns$Centre", "allSorted", "()Z"⟩, 11) := ⟨⟨by decide +kernel, by decide +kernel⟩, List.mem_of_getElem? (i := 20) (by decide +kernel), List.mem_of_getElem? (i := 479) (by decide +kernel), List.mem_of_getElem? (i := 480) (by decide +kernel)⟩
def lw_privs_1 : List (MethodName × Nat) := [(⟨"LetterRuns$History", "behindLast", "()LLetterRuns$Centre;"⟩, 3), (⟨"LetterRuns", "recorded", "(I)I"⟩, 6), (⟨"LetterRuns$Centre", "isToCome", "(I)Z"⟩, 11), (⟨"LetterRuns$Centre", "isIdle", "()Z"⟩, 11), (⟨"LetterRuns$Centre", "skipTo", "(I)V"⟩, 11), (⟨"LetterRuns$Centre", "passMinute", "()V"⟩, 11), (⟨"LetterRuns$Centre", "letCome", "()V"⟩, 11), (⟨"LetterRuns$Centre", "letGo", "()V"⟩, 11), (⟨"LetterRuns$Centre", "findNextEvent", "()I"⟩, 11), (⟨"LetterRuns$Centre", "takeNext", "(LLetterRuns$Machine;)V"⟩, 11), (⟨"LetterRuns$Centre", "delayQueue", "(LLetterRuns$Row;)V"⟩, 11), (⟨"LetterRuns$Centre", "runMachine", "(LLetterRuns$Machine;I)V"⟩, 11), (⟨"LetterRuns$Centre", "sortBatch", "(LLetterRuns$Machine;LLetterRuns$Batch;I)V"⟩, 11), (⟨"LetterRuns$Centre", "rejectsOf", "(I)I"⟩, 11), (⟨"LetterRuns$Centre", "sortByHand", "()V"⟩, 11), (⟨"LetterRuns$Centre", "allSorted", "()Z"⟩, 11)]
theorem lw_r1 : ∀ q ∈ lw_privs_1, lw_okq q := List.forall_mem_cons.mpr ⟨lw_p0, List.forall_mem_cons.mpr ⟨lw_p1, List.forall_mem_cons.mpr ⟨lw_p2, List.forall_mem_cons.mpr ⟨lw_p3, List.forall_mem_cons.mpr ⟨lw_p4, List.forall_mem_cons.mpr ⟨lw_p5, List.forall_mem_cons.mpr ⟨lw_p6, List.forall_mem_cons.mpr ⟨lw_p7, List.forall_mem_cons.mpr ⟨lw_p8, List.forall_mem_cons.mpr ⟨lw_p9, List.forall_mem_cons.mpr ⟨lw_p10, List.forall_mem_cons.mpr ⟨lw_p11, List.forall_mem_cons.mpr ⟨lw_p12, List.forall_mem_cons.mpr ⟨lw_p13, List.forall_mem_cons.mpr ⟨lw_p14, List.forall_mem_cons.mpr ⟨lw_p15, fun _ h => absurd h List.not_mem_nil⟩⟩⟩⟩⟩⟩⟩⟩⟩⟩⟩⟩⟩⟩⟩⟩
theorem lw_p16 : lw_okq (⟨"LetterRuns$Pad", "countCharacters", "(J)I"⟩, 7) := ⟨⟨by decide +kernel, by decide +kernel⟩, List.mem_of_getElem? (i := 185) (by decide +kernel), List.mem_of_getElem? (i := 512) (by decide +kernel), List.mem_of_getElem? (i := 513) (by decide +kernel)⟩
theorem lw_p17 : lw_okq (⟨"LetterRuns$Pad", "next", "()C"⟩, 7) := ⟨⟨by decide +kernel, by decide +kernel⟩, List.mem_of_getElem? (i := 185) (by decide +kernel), List.mem_of_getElem? (i := 539) (by decide +kernel), List.mem_of_getElem? (i := 540) (by decide +kernel)⟩
theorem lw_p18 : lw_okq (⟨"LetterRuns$Pad", "readPieces", "()Z"⟩, 7) := ⟨⟨by decide +kernel, by decide +kernel⟩, List.mem_of_getElem? (i := 185) (by decide +kernel), List.mem_of_getElem? (i := 543) (by decide +kernel), List.mem_of_getElem? (i := 544) (by decide +kernel)⟩
theorem lw_p19 : lw_okq (⟨"LetterRuns$Pad", "readNumber", "()Z"⟩, 7) := ⟨⟨by decide +kernel, by decide +kernel⟩, List.mem_of_getElem? (i := 185) (by decide +kernel), List.mem_of_getElem? (i := 547) (by decide +kernel), List.mem_of_getElem? (i := 548) (by decide +kernel)⟩
theorem lw_p20 : lw_okq (⟨"LetterRuns$Pad", "nextDigit", "()I"⟩, 7) := ⟨⟨by decide +kernel, by decide +kernel⟩, List.mem_of_getElem? (i := 185) (by decide +kernel), List.mem_of_getElem? (i := 551) (by decide +kernel), List.mem_of_getElem? (i := 552) (by decide +kernel)⟩
theorem lw_p21 : lw_okq (⟨"LetterRuns$Pad", "readRoute", "()Z"⟩, 7) := ⟨⟨by decide +kernel, by decide +kernel⟩, List.mem_of_getElem? (i := 185) (by decide +kernel), List.mem_of_getElem? (i := 559) (by decide +kernel), List.mem_of_getElem? (i := 560) (by decide +kernel)⟩
theorem lw_p22 : lw_okq (⟨"LetterRuns", "obeyOrder", "()I"⟩, 6) := ⟨⟨by decide +kernel, by decide +kernel⟩, List.mem_of_getElem? (i := 12) (by decide +kernel), List.mem_of_getElem? (i := 568) (by decide +kernel), List.mem_of_getElem? (i := 569) (by decide +kernel)⟩
theorem lw_p23 : lw_okq (⟨"LetterRunsModel", "records", "()V"⟩, 11) := ⟨⟨by decide +kernel, by decide +kernel⟩, List.mem_of_getElem? (i := 589) (by decide +kernel), List.mem_of_getElem? (i := 647) (by decide +kernel), List.mem_of_getElem? (i := 648) (by decide +kernel)⟩
theorem lw_p24 : lw_okq (⟨"LetterRunsModel", "changes", "(II)I"⟩, 11) := ⟨⟨by decide +kernel, by decide +kernel⟩, List.mem_of_getElem? (i := 589) (by decide +kernel), List.mem_of_getElem? (i := 658) (by decide +kernel), List.mem_of_getElem? (i := 659) (by decide +kernel)⟩
theorem lw_p25 : lw_okq (⟨"LetterRunsModel", "mayCutoff", "(II)I"⟩, 11) := ⟨⟨by decide +kernel, by decide +kernel⟩, List.mem_of_getElem? (i := 589) (by decide +kernel), List.mem_of_getElem? (i := 666) (by decide +kernel), List.mem_of_getElem? (i := 667) (by decide +kernel)⟩
theorem lw_p26 : lw_okq (⟨"LetterRunsModel", "isMinute", "(I)Z"⟩, 11) := ⟨⟨by decide +kernel, by decide +kernel⟩, List.mem_of_getElem? (i := 589) (by decide +kernel), List.mem_of_getElem? (i := 673) (by decide +kernel), List.mem_of_getElem? (i := 674) (by decide +kernel)⟩
theorem lw_p27 : lw_okq (⟨"LetterRunsModel", "mayMail", "(IIII)I"⟩, 11) := ⟨⟨by decide +kernel, by decide +kernel⟩, List.mem_of_getElem? (i := 589) (by decide +kernel), List.mem_of_getElem? (i := 681) (by decide +kernel), List.mem_of_getElem? (i := 682) (by decide +kernel)⟩
theorem lw_p28 : lw_okq (⟨"LetterRunsModel", "mails", "(IIII)I"⟩, 11) := ⟨⟨by decide +kernel, by decide +kernel⟩, List.mem_of_getElem? (i := 589) (by decide +kernel), List.mem_of_getElem? (i := 688) (by decide +kernel), List.mem_of_getElem? (i := 689) (by decide +kernel)⟩
theorem lw_p29 : lw_okq (⟨"LetterRunsModel", "mayPass", "(I)I"⟩, 11) := ⟨⟨by decide +kernel, by decide +kernel⟩, List.mem_of_getElem? (i := 589) (by decide +kernel), List.mem_of_getElem? (i := 699) (by decide +kernel), List.mem_of_getElem? (i := 700) (by decide +kernel)⟩
theorem lw_p30 : lw_okq (⟨"LetterRunsModel", "isBatch", "(I)Z"⟩, 11) := ⟨⟨by decide +kernel, by decide +kernel⟩, List.mem_of_getElem? (i := 589) (by decide +kernel), List.mem_of_getElem? (i := 749) (by decide +kernel), List.mem_of_getElem? (i := 750) (by decide +kernel)⟩
theorem lw_p31 : lw_okq (⟨"LetterRunsModel", "sum", "(II)I"⟩, 11) := ⟨⟨by decide +kernel, by decide +kernel⟩, List.mem_of_getElem? (i := 589) (by decide +kernel), List.mem_of_getElem? (i := 761) (by decide +kernel), List.mem_of_getElem? (i := 762) (by decide +kernel)⟩
def lw_privs_2 : List (MethodName × Nat) := [(⟨"LetterRuns$Pad", "countCharacters", "(J)I"⟩, 7), (⟨"LetterRuns$Pad", "next", "()C"⟩, 7), (⟨"LetterRuns$Pad", "readPieces", "()Z"⟩, 7), (⟨"LetterRuns$Pad", "readNumber", "()Z"⟩, 7), (⟨"LetterRuns$Pad", "nextDigit", "()I"⟩, 7), (⟨"LetterRuns$Pad", "readRoute", "()Z"⟩, 7), (⟨"LetterRuns", "obeyOrder", "()I"⟩, 6), (⟨"LetterRunsModel", "records", "()V"⟩, 11), (⟨"LetterRunsModel", "changes", "(II)I"⟩, 11), (⟨"LetterRunsModel", "mayCutoff", "(II)I"⟩, 11), (⟨"LetterRunsModel", "isMinute", "(I)Z"⟩, 11), (⟨"LetterRunsModel", "mayMail", "(IIII)I"⟩, 11), (⟨"LetterRunsModel", "mails", "(IIII)I"⟩, 11), (⟨"LetterRunsModel", "mayPass", "(I)I"⟩, 11), (⟨"LetterRunsModel", "isBatch", "(I)Z"⟩, 11), (⟨"LetterRunsModel", "sum", "(II)I"⟩, 11)]
theorem lw_r2 : ∀ q ∈ lw_privs_2, lw_okq q := List.forall_mem_cons.mpr ⟨lw_p16, List.forall_mem_cons.mpr ⟨lw_p17, List.forall_mem_cons.mpr ⟨lw_p18, List.forall_mem_cons.mpr ⟨lw_p19, List.forall_mem_cons.mpr ⟨lw_p20, List.forall_mem_cons.mpr ⟨lw_p21, List.forall_mem_cons.mpr ⟨lw_p22, List.forall_mem_cons.mpr ⟨lw_p23, List.forall_mem_cons.mpr ⟨lw_p24, List.forall_mem_cons.mpr ⟨lw_p25, List.forall_mem_cons.mpr ⟨lw_p26, List.forall_mem_cons.mpr ⟨lw_p27, List.forall_mem_cons.mpr ⟨lw_p28, List.forall_mem_cons.mpr ⟨lw_p29, List.forall_mem_cons.mpr ⟨lw_p30, List.forall_mem_cons.mpr ⟨lw_p31, fun _ h => absurd h List.not_mem_nil⟩⟩⟩⟩⟩⟩⟩⟩⟩⟩⟩⟩⟩⟩⟩⟩
theorem lw_p32 : lw_okq (⟨"LetterRunsModel", "missedWith", "(II)I"⟩, 11) := ⟨⟨by decide +kernel, by decide +kernel⟩, List.mem_of_getElem? (i := 589) (by decide +kernel), List.mem_of_getElem? (i := 789) (by decide +kernel), List.mem_of_getElem? (i := 790) (by decide +kernel)⟩
theorem lw_p33 : lw_okq (⟨"LetterRunsModel", "isText", "()Z"⟩, 11) := ⟨⟨by decide +kernel, by decide +kernel⟩, List.mem_of_getElem? (i := 589) (by decide +kernel), List.mem_of_getElem? (i := 816) (by decide +kernel), List.mem_of_getElem? (i := 817) (by decide +kernel)⟩
theorem lw_p34 : lw_okq (⟨"LetterRunsModel", "isOrder", "()Z"⟩, 11) := ⟨⟨by decide +kernel, by decide +kernel⟩, List.mem_of_getElem? (i := 589) (by decide +kernel), List.mem_of_getElem? (i := 820) (by decide +kernel), List.mem_of_getElem? (i := 821) (by decide +kernel)⟩
theorem lw_p35 : lw_okq (⟨"LetterRunsModel", "isNumber", "(I)Z"⟩, 11) := ⟨⟨by decide +kernel, by decide +kernel⟩, List.mem_of_getElem? (i := 589) (by decide +kernel), List.mem_of_getElem? (i := 824) (by decide +kernel), List.mem_of_getElem? (i := 825) (by decide +kernel)⟩
theorem lw_p36 : lw_okq (⟨"LetterRunsModel", "isAt", "(II)Z"⟩, 11) := ⟨⟨by decide +kernel, by decide +kernel⟩, List.mem_of_getElem? (i := 589) (by decide +kernel), List.mem_of_getElem? (i := 828) (by decide +kernel), List.mem_of_getElem? (i := 829) (by decide +kernel)⟩
theorem lw_p37 : lw_okq (⟨"LetterRunsModel", "isSign", "(I)Z"⟩, 11) := ⟨⟨by decide +kernel, by decide +kernel⟩, List.mem_of_getElem? (i := 589) (by decide +kernel), List.mem_of_getElem? (i := 832) (by decide +kernel), List.mem_of_getElem? (i := 833) (by decide +kernel)⟩
theorem lw_p38 : lw_okq (⟨"LetterRunsModel", "isDigit", "(I)Z"⟩, 11) := ⟨⟨by decide +kernel, by decide +kernel⟩, List.mem_of_getElem? (i := 589) (by decide +kernel), List.mem_of_getElem? (i := 836) (by decide +kernel), List.mem_of_getElem? (i := 837) (by decide +kernel)⟩
theorem lw_p39 : lw_okq (⟨"LetterRunsModel", "does", "(I)Z"⟩, 11) := ⟨⟨by decide +kernel, by decide +kernel⟩, List.mem_of_getElem? (i := 589) (by decide +kernel), List.mem_of_getElem? (i := 844) (by decide +kernel), List.mem_of_getElem? (i := 845) (by decide +kernel)⟩
theorem lw_p40 : lw_okq (⟨"LetterRunsModel", "mayDo", "(IIII)I"⟩, 11) := ⟨⟨by decide +kernel, by decide +kernel⟩, List.mem_of_getElem? (i := 589) (by decide +kernel), List.mem_of_getElem? (i := 848) (by decide +kernel), List.mem_of_getElem? (i := 849) (by decide +kernel)⟩
def lw_privs_3 : List (MethodName × Nat) := [(⟨"LetterRunsModel", "missedWith", "(II)I"⟩, 11), (⟨"LetterRunsModel", "isText", "()Z"⟩, 11), (⟨"LetterRunsModel", "isOrder", "()Z"⟩, 11), (⟨"LetterRunsModel", "isNumber", "(I)Z"⟩, 11), (⟨"LetterRunsModel", "isAt", "(II)Z"⟩, 11), (⟨"LetterRunsModel", "isSign", "(I)Z"⟩, 11), (⟨"LetterRunsModel", "isDigit", "(I)Z"⟩, 11), (⟨"LetterRunsModel", "does", "(I)Z"⟩, 11), (⟨"LetterRunsModel", "mayDo", "(IIII)I"⟩, 11)]
theorem lw_r3 : ∀ q ∈ lw_privs_3, lw_okq q := List.forall_mem_cons.mpr ⟨lw_p32, List.forall_mem_cons.mpr ⟨lw_p33, List.forall_mem_cons.mpr ⟨lw_p34, List.forall_mem_cons.mpr ⟨lw_p35, List.forall_mem_cons.mpr ⟨lw_p36, List.forall_mem_cons.mpr ⟨lw_p37, List.forall_mem_cons.mpr ⟨lw_p38, List.forall_mem_cons.mpr ⟨lw_p39, List.forall_mem_cons.mpr ⟨lw_p40, fun _ h => absurd h List.not_mem_nil⟩⟩⟩⟩⟩⟩⟩⟩⟩
def lw_privs : List (MethodName × Nat) := lw_privs_1 ++ (lw_privs_2 ++ (lw_privs_3))
def lw_tbl : List Cond := k2_sels lw_privs ++ tables_1
theorem lw_privs_ok : ∀ q ∈ lw_privs, lw_okq q := by
  show ∀ q ∈ lw_privs_1 ++ (lw_privs_2 ++ (lw_privs_3)), lw_okq q
  exact List.forall_mem_append.mpr ⟨lw_r1, List.forall_mem_append.mpr ⟨lw_r2, lw_r3⟩⟩
end
section
/-! tables of the program: classes 0 to 9, fields, methods 0 to 150 by number, links; by program out of the task's listing (wip/whole/gen02.py) -/
def qRL : List String := ["LetterRuns$Batch", "LetterRuns$Centre", "LetterRuns$History", "LetterRuns$Machine", "LetterRuns$Pad", "LetterRuns$Row", "LetterRuns", "LetterRunsModel", "LetterRunsLaw", "java/lang/Math"]
def qR (c : Nat) : String := qRL.getD c ""
def qT0 : u_T := fun k => match k with
  | 0 => ("LetterRuns$Batch", "shape", "I", false)
  | 1 => ("LetterRuns$Batch", "pieces", "I", false)
  | 2 => ("LetterRuns$Batch", "route", "I", false)
  | 3 => ("LetterRuns$Batch", "minute", "I", false)
  | 4 => ("LetterRuns$Batch", "withMachine", "I", false)
  | 5 => ("LetterRuns$Batch", "withHands", "I", false)
  | 6 => ("LetterRuns$Batch", "sorted", "I", false)
  | 7 => ("LetterRuns$Batch", "gone", "I", false)
  | 8 => ("LetterRuns$Batch", "missed", "I", false)
  | 9 => ("LetterRuns$Batch", "delay", "I", false)
  | _ => ("LetterRuns$Batch", "sortedAt", "I", false)
def qV0 : Nat → FieldType := fun k => match k with
  | 0 => .int
  | 1 => .int
  | 2 => .int
  | 3 => .int
  | 4 => .int
  | 5 => .int
  | 6 => .int
  | 7 => .int
  | 8 => .int
  | 9 => .int
  | _ => .int
def qT1 : u_T := fun k => match k with
  | 0 => ("LetterRuns$Centre", "settings", "[I", true)
  | 1 => ("LetterRuns$Centre", "cutoffs", "[I", true)
  | 2 => ("LetterRuns$Centre", "batches", "[LLetterRuns$Batch;", true)
  | 3 => ("LetterRuns$Centre", "machines", "[LLetterRuns$Machine;", true)
  | 4 => ("LetterRuns$Centre", "hands", "LLetterRuns$Row;", true)
  | 5 => ("LetterRuns$Centre", "batchCount", "I", false)
  | 6 => ("LetterRuns$Centre", "now", "I", false)
  | 7 => ("LetterRuns$Centre", "machineSorted", "I", false)
  | 8 => ("LetterRuns$Centre", "rejects", "I", false)
  | 9 => ("LetterRuns$Centre", "costs", "I", false)
  | _ => ("LetterRuns$Centre", "nextEvent", "I", false)
def qV1 : Nat → FieldType := fun k => match k with
  | 0 => (.array .int)
  | 1 => (.array .int)
  | 2 => (.array (.object "LetterRuns$Batch"))
  | 3 => (.array (.object "LetterRuns$Machine"))
  | 4 => (.object "LetterRuns$Row")
  | 5 => .int
  | 6 => .int
  | 7 => .int
  | 8 => .int
  | 9 => .int
  | _ => .int
def qT2 : u_T := fun k => match k with
  | 0 => ("LetterRuns$History", "states", "[LLetterRuns$Centre;", true)
  | 1 => ("LetterRuns$History", "first", "I", false)
  | _ => ("LetterRuns$History", "size", "I", false)
def qV2 : Nat → FieldType := fun k => match k with
  | 0 => (.array (.object "LetterRuns$Centre"))
  | 1 => .int
  | _ => .int
def qT3 : u_T := fun k => match k with
  | 0 => ("LetterRuns$Machine", "queue", "LLetterRuns$Row;", true)
  | 1 => ("LetterRuns$Machine", "batch", "I", false)
  | 2 => ("LetterRuns$Machine", "setupLeft", "I", false)
  | 3 => ("LetterRuns$Machine", "lastRoute", "I", false)
  | 4 => ("LetterRuns$Machine", "sorted", "I", false)
  | _ => ("LetterRuns$Machine", "setups", "I", false)
def qV3 : Nat → FieldType := fun k => match k with
  | 0 => (.object "LetterRuns$Row")
  | 1 => .int
  | 2 => .int
  | 3 => .int
  | 4 => .int
  | _ => .int
def qT4 : u_T := fun k => match k with
  | 0 => ("LetterRuns$Pad", "text", "[C", true)
  | 1 => ("LetterRuns$Pad", "length", "I", false)
  | 2 => ("LetterRuns$Pad", "place", "I", false)
  | 3 => ("LetterRuns$Pad", "order", "C", false)
  | 4 => ("LetterRuns$Pad", "pieces", "I", false)
  | 5 => ("LetterRuns$Pad", "route", "I", false)
  | _ => ("LetterRuns$Pad", "number", "I", false)
def qV4 : Nat → FieldType := fun k => match k with
  | 0 => (.array .char)
  | 1 => .int
  | 2 => .int
  | 3 => .char
  | 4 => .int
  | 5 => .int
  | _ => .int
def qT5 : u_T := fun k => match k with
  | 0 => ("LetterRuns$Row", "numbers", "[I", true)
  | _ => ("LetterRuns$Row", "size", "I", false)
def qV5 : Nat → FieldType := fun k => match k with
  | 0 => (.array .int)
  | _ => .int
def qT6 : u_T := fun k => match k with
  | 0 => ("LetterRuns", "centre", "LLetterRuns$Centre;", true)
  | 1 => ("LetterRuns", "trial", "LLetterRuns$Centre;", true)
  | 2 => ("LetterRuns", "slots", "[LLetterRuns$Centre;", true)
  | 3 => ("LetterRuns", "saved", "[Z", true)
  | 4 => ("LetterRuns", "history", "LLetterRuns$History;", true)
  | _ => ("LetterRuns", "pad", "LLetterRuns$Pad;", true)
def qV6 : Nat → FieldType := fun k => match k with
  | 0 => (.object "LetterRuns$Centre")
  | 1 => (.object "LetterRuns$Centre")
  | 2 => (.array (.object "LetterRuns$Centre"))
  | 3 => (.array .boolean)
  | 4 => (.object "LetterRuns$History")
  | _ => (.object "LetterRuns$Pad")
def qT7 : u_T := fun k => match k with
  | 0 => ("LetterRunsModel", "now", "[I", true)
  | 1 => ("LetterRunsModel", "then", "[I", true)
  | 2 => ("LetterRunsModel", "past", "[I", true)
  | 3 => ("LetterRunsModel", "kept", "I", false)
  | 4 => ("LetterRunsModel", "slots", "[I", true)
  | 5 => ("LetterRunsModel", "held", "[Z", true)
  | 6 => ("LetterRunsModel", "pad", "[I", true)
  | 7 => ("LetterRunsModel", "padded", "I", false)
  | 8 => ("LetterRunsModel", "at", "I", false)
  | 9 => ("LetterRunsModel", "orders", "[I", true)
  | _ => ("LetterRunsModel", "ordered", "I", false)
def qV7 : Nat → FieldType := fun k => match k with
  | 0 => (.array .int)
  | 1 => (.array .int)
  | 2 => (.array .int)
  | 3 => .int
  | 4 => (.array .int)
  | 5 => (.array .boolean)
  | 6 => (.array .int)
  | 7 => .int
  | 8 => .int
  | 9 => (.array .int)
  | _ => .int
def qT (c : Nat) : u_T := match c with
  | 0 => qT0
  | 1 => qT1
  | 2 => qT2
  | 3 => qT3
  | 4 => qT4
  | 5 => qT5
  | 6 => qT6
  | _ => qT7
def qV (c : Nat) : Nat → FieldType := match c with
  | 0 => qV0
  | 1 => qV1
  | 2 => qV2
  | 3 => qV3
  | 4 => qV4
  | 5 => qV5
  | 6 => qV6
  | _ => qV7
def qNL : List Nat := [11, 11, 3, 6, 7, 2, 6, 11]
def qN (c : Nat) : Nat := qNL.getD c 0
def qCl : List vw_C := [(qR 0, qT 0, qN 0), (qR 1, qT 1, qN 1), (qR 2, qT 2, qN 2), (qR 3, qT 3, qN 3), (qR 4, qT 4, qN 4), (qR 5, qT 5, qN 5), (qR 6, qT 6, qN 6), (qR 7, qT 7, qN 7)]
theorem qCl_at : ∀ c, c < 8 → qCl[c]? = some (qR c, qT c, qN c) := fun c h => by
  match c, h with
  | 0, _ => rfl
  | 1, _ => rfl
  | 2, _ => rfl
  | 3, _ => rfl
  | 4, _ => rfl
  | 5, _ => rfl
  | 6, _ => rfl
  | 7, _ => rfl
theorem qnm0 : ∀ a, a < 11 → ∀ b, b < 11 → a ≠ b → (qT0 a).2.1 ≠ (qT0 b).2.1 := by decide +kernel
theorem qty0 : ∀ k, k < 11 → parseFieldDescriptor (qT0 k).2.2.1 = some (qV0 k) := by decide +kernel
theorem qdc0 : ∀ k, k < 11 → (qT0 k).1 = "LetterRuns$Batch" := by decide +kernel
theorem qnm1 : ∀ a, a < 11 → ∀ b, b < 11 → a ≠ b → (qT1 a).2.1 ≠ (qT1 b).2.1 := by decide +kernel
theorem qty1 : ∀ k, k < 11 → parseFieldDescriptor (qT1 k).2.2.1 = some (qV1 k) := by decide +kernel
theorem qdc1 : ∀ k, k < 11 → (qT1 k).1 = "LetterRuns$Centre" := by decide +kernel
theorem qnm2 : ∀ a, a < 3 → ∀ b, b < 3 → a ≠ b → (qT2 a).2.1 ≠ (qT2 b).2.1 := by decide +kernel
theorem qty2 : ∀ k, k < 3 → parseFieldDescriptor (qT2 k).2.2.1 = some (qV2 k) := by decide +kernel
theorem qdc2 : ∀ k, k < 3 → (qT2 k).1 = "LetterRuns$History" := by decide +kernel
theorem qnm3 : ∀ a, a < 6 → ∀ b, b < 6 → a ≠ b → (qT3 a).2.1 ≠ (qT3 b).2.1 := by decide +kernel
theorem qty3 : ∀ k, k < 6 → parseFieldDescriptor (qT3 k).2.2.1 = some (qV3 k) := by decide +kernel
theorem qdc3 : ∀ k, k < 6 → (qT3 k).1 = "LetterRuns$Machine" := by decide +kernel
theorem qnm4 : ∀ a, a < 7 → ∀ b, b < 7 → a ≠ b → (qT4 a).2.1 ≠ (qT4 b).2.1 := by decide +kernel
theorem qty4 : ∀ k, k < 7 → parseFieldDescriptor (qT4 k).2.2.1 = some (qV4 k) := by decide +kernel
theorem qdc4 : ∀ k, k < 7 → (qT4 k).1 = "LetterRuns$Pad" := by decide +kernel
theorem qnm5 : ∀ a, a < 2 → ∀ b, b < 2 → a ≠ b → (qT5 a).2.1 ≠ (qT5 b).2.1 := by decide +kernel
theorem qty5 : ∀ k, k < 2 → parseFieldDescriptor (qT5 k).2.2.1 = some (qV5 k) := by decide +kernel
theorem qdc5 : ∀ k, k < 2 → (qT5 k).1 = "LetterRuns$Row" := by decide +kernel
theorem qnm6 : ∀ a, a < 6 → ∀ b, b < 6 → a ≠ b → (qT6 a).2.1 ≠ (qT6 b).2.1 := by decide +kernel
theorem qty6 : ∀ k, k < 6 → parseFieldDescriptor (qT6 k).2.2.1 = some (qV6 k) := by decide +kernel
theorem qdc6 : ∀ k, k < 6 → (qT6 k).1 = "LetterRuns" := by decide +kernel
theorem qnm7 : ∀ a, a < 11 → ∀ b, b < 11 → a ≠ b → (qT7 a).2.1 ≠ (qT7 b).2.1 := by decide +kernel
theorem qty7 : ∀ k, k < 11 → parseFieldDescriptor (qT7 k).2.2.1 = some (qV7 k) := by decide +kernel
theorem qdc7 : ∀ k, k < 11 → (qT7 k).1 = "LetterRunsModel" := by decide +kernel
theorem q_nm : ∀ c, c < 8 → ∀ a, a < qN c → ∀ b, b < qN c → a ≠ b → (qT c a).2.1 ≠ (qT c b).2.1 := fun c h => by
  match c, h with
  | 0, _ => exact qnm0
  | 1, _ => exact qnm1
  | 2, _ => exact qnm2
  | 3, _ => exact qnm3
  | 4, _ => exact qnm4
  | 5, _ => exact qnm5
  | 6, _ => exact qnm6
  | 7, _ => exact qnm7
theorem q_ty : ∀ c, c < 8 → ∀ k, k < qN c → parseFieldDescriptor (qT c k).2.2.1 = some (qV c k) := fun c h => by
  match c, h with
  | 0, _ => exact qty0
  | 1, _ => exact qty1
  | 2, _ => exact qty2
  | 3, _ => exact qty3
  | 4, _ => exact qty4
  | 5, _ => exact qty5
  | 6, _ => exact qty6
  | 7, _ => exact qty7
theorem q_dc : ∀ c, c < 8 → ∀ k, k < qN c → (qT c k).1 = qR c := fun c h => by
  match c, h with
  | 0, _ => exact qdc0
  | 1, _ => exact qdc1
  | 2, _ => exact qdc2
  | 3, _ => exact qdc3
  | 4, _ => exact qdc4
  | 5, _ => exact qdc5
  | 6, _ => exact qdc6
  | 7, _ => exact qdc7
def qW : List Jvm.Cond := lw_tbl.filter goodWord
def qAt (i : Nat) (w : Jvm.Cond) : Bool := decide (lw_tbl[i]? = some w) && goodWord w
theorem qAt_in {i : Nat} {w : Jvm.Cond} (h : qAt i w = true) : w ∈ qW := by
  simp only [qAt, Bool.and_eq_true, decide_eq_true_eq] at h
  exact List.mem_filter.mpr ⟨List.mem_of_getElem? h.1, h.2⟩
theorem qW_good {w : Jvm.Cond} (h : w ∈ qW) : (w.onTables && w.keeps) = true ∨ ∃ ty, w = .arrayClass ty := good_of_word (List.mem_filter.mp h).2
theorem qW_tbl {w : Jvm.Cond} (h : w ∈ qW) : w ∈ lw_tbl := (List.mem_filter.mp h).1
def qLp0 : List Nat := [111, 113, 115, 117, 119, 121, 123, 125, 127, 129, 131]
theorem qlay0 : (List.range 11).all (fun k => qAt (qLp0.getD k 0) (u_lay "LetterRuns$Batch" qT0 k)) = true := by decide +kernel
def qLp1 : List Nat := [181, 183, 185, 187, 189, 191, 193, 195, 197, 199, 201]
theorem qlay1 : (List.range 11).all (fun k => qAt (qLp1.getD k 0) (u_lay "LetterRuns$Centre" qT1 k)) = true := by decide +kernel
def qLp2 : List Nat := [217, 219, 221]
theorem qlay2 : (List.range 3).all (fun k => qAt (qLp2.getD k 0) (u_lay "LetterRuns$History" qT2 k)) = true := by decide +kernel
def qLp3 : List Nat := [152, 154, 156, 158, 160, 162]
theorem qlay3 : (List.range 6).all (fun k => qAt (qLp3.getD k 0) (u_lay "LetterRuns$Machine" qT3 k)) = true := by decide +kernel
def qLp4 : List Nat := [244, 246, 248, 250, 252, 254, 256]
theorem qlay4 : (List.range 7).all (fun k => qAt (qLp4.getD k 0) (u_lay "LetterRuns$Pad" qT4 k)) = true := by decide +kernel
def qLp5 : List Nat := [81, 83]
theorem qlay5 : (List.range 2).all (fun k => qAt (qLp5.getD k 0) (u_lay "LetterRuns$Row" qT5 k)) = true := by decide +kernel
def qLp6 : List Nat := [266, 268, 270, 272, 274, 276]
theorem qlay6 : (List.range 6).all (fun k => qAt (qLp6.getD k 0) (u_lay "LetterRuns" qT6 k)) = true := by decide +kernel
def qLp7 : List Nat := [646, 648, 650, 652, 654, 656, 658, 660, 662, 664, 666]
theorem qlay7 : (List.range 11).all (fun k => qAt (qLp7.getD k 0) (u_lay "LetterRunsModel" qT7 k)) = true := by decide +kernel
theorem q_lay_of {C : String} {T : u_T} {N : Nat} {f : Nat → Nat} (h : (List.range N).all (fun k => qAt (f k) (u_lay C T k)) = true) : ∀ w ∈ u_ws C T N, w ∈ qW := by
  intro w hw
  obtain ⟨k, hk, rfl⟩ := List.mem_map.mp hw
  exact qAt_in (List.all_eq_true.mp h k hk)
theorem q_lay : ∀ c, c < 8 → ∀ w ∈ u_ws (qR c) (qT c) (qN c), w ∈ qW := fun c h => by
  match c, h with
  | 0, _ => exact q_lay_of qlay0
  | 1, _ => exact q_lay_of qlay1
  | 2, _ => exact q_lay_of qlay2
  | 3, _ => exact q_lay_of qlay3
  | 4, _ => exact q_lay_of qlay4
  | 5, _ => exact q_lay_of qlay5
  | 6, _ => exact q_lay_of qlay6
  | 7, _ => exact q_lay_of qlay7
def qInstP : List Nat := [89, 61, 206, 134, 226, 71, 53, 630]
def qIniP : List Nat := [45, 43, 47, 46, 48, 44, 42, 49, 41, 51]
theorem q_inst : ∀ c, c < 8 → Jvm.Cond.instantiable (qR c) (qN c) ∈ qW := by
  have h : (List.range 8).all (fun c => qAt (qInstP.getD c 0) (.instantiable (qR c) (qN c))) = true := by decide +kernel
  exact fun c hc => qAt_in (List.all_eq_true.mp h c (List.mem_range.mpr hc))
theorem q_ini : ∀ c, c < 10 → Jvm.Cond.initialized (qR c) ∈ qW := by
  have h : (List.range 10).all (fun c => qAt (qIniP.getD c 0) (.initialized (qR c))) = true := by decide +kernel
  exact fun c hc => qAt_in (List.all_eq_true.mp h c (List.mem_range.mpr hc))
def qFl : List (Nat × Nat × Nat × Nat × Nat) := [(5, 9, 5, 0, 76), (5, 21, 5, 1, 77), (3, 38, 5, 1, 78), (6, 121, 5, 1, 79), (1, 136, 5, 1, 80), (0, 9, 0, 0, 94), (1, 165, 0, 0, 95), (0, 15, 0, 1, 96), (0, 18, 0, 2, 97), (1, 108, 0, 2, 98), (0, 21, 0, 3, 99), (1, 172, 0, 3, 100), (0, 24, 0, 4, 101), (1, 205, 0, 4, 102), (0, 27, 0, 5, 103), (1, 218, 0, 5, 104), (0, 30, 0, 6, 105), (0, 33, 0, 7, 106), (0, 36, 0, 8, 107), (0, 39, 0, 9, 108), (1, 115, 0, 9, 109), (0, 42, 0, 10, 110), (3, 12, 3, 0, 141), (6, 117, 3, 0, 142), (1, 133, 3, 0, 143), (3, 18, 3, 1, 144), (1, 130, 3, 1, 145), (3, 29, 3, 2, 146), (1, 202, 3, 2, 147), (3, 22, 3, 3, 148), (3, 32, 3, 4, 149), (1, 215, 3, 4, 150), (3, 35, 3, 5, 151), (1, 9, 1, 0, 165), (6, 88, 1, 0, 166), (1, 15, 1, 1, 167), (1, 20, 1, 2, 168), (1, 26, 1, 3, 169), (1, 33, 1, 4, 170), (1, 48, 1, 5, 171), (6, 96, 1, 5, 172), (1, 62, 1, 6, 173), (6, 92, 1, 6, 174), (1, 65, 1, 7, 175), (1, 68, 1, 8, 176), (6, 99, 1, 8, 177), (1, 71, 1, 9, 178), (6, 102, 1, 9, 179), (1, 74, 1, 10, 180), (2, 11, 2, 0, 213), (2, 30, 2, 1, 214), (2, 26, 2, 2, 215), (6, 108, 2, 2, 216), (4, 9, 4, 0, 231), (4, 19, 4, 1, 232), (6, 105, 4, 1, 233), (4, 29, 4, 2, 234), (6, 154, 4, 2, 235), (4, 44, 4, 3, 236), (6, 168, 4, 3, 237), (4, 60, 4, 4, 238), (6, 172, 4, 4, 239), (4, 67, 4, 5, 240), (6, 175, 4, 5, 241), (4, 57, 4, 6, 242), (6, 178, 4, 6, 243), (6, 10, 6, 0, 260), (6, 16, 6, 1, 261), (6, 19, 6, 2, 262), (6, 23, 6, 3, 263), (6, 30, 6, 4, 264), (6, 37, 6, 5, 265), (7, 7, 7, 0, 635), (7, 13, 7, 1, 636), (7, 16, 7, 2, 637), (7, 36, 7, 3, 638), (7, 19, 7, 4, 639), (7, 22, 7, 5, 640), (7, 26, 7, 6, 641), (7, 137, 7, 7, 642), (7, 158, 7, 8, 643), (7, 29, 7, 9, 644), (7, 164, 7, 10, 645)]
def qFld (own idx : Nat) : Option (Nat × Nat) := (qFl.find? (fun q => q.1 == own && q.2.1 == idx)).map (fun q => (q.2.2.1, q.2.2.2.1))
theorem qFl_ok : qFl.all (fun q => decide (q.2.2.1 < 8) && (decide (q.2.2.2.1 < qN q.2.2.1) && qAt q.2.2.2.2 (.fieldLink (qR q.1) q.2.1 (qR q.2.2.1) (qT q.2.2.1 q.2.2.2.1).2.1 (qT q.2.2.1 q.2.2.2.1).2.2.1))) = true := by decide +kernel
theorem q_fld {own idx c k : Nat} (h : qFld own idx = some (c, k)) : c < 8 ∧ k < qN c ∧ Jvm.Cond.fieldLink (qR own) idx (qR c) (qT c k).2.1 (qT c k).2.2.1 ∈ qW := by
  unfold qFld at h
  obtain ⟨q, hq, he⟩ := Option.map_eq_some_iff.mp h
  have hm := List.all_eq_true.mp qFl_ok q (List.mem_of_find?_eq_some hq)
  have hp := List.find?_some hq
  simp only [Bool.and_eq_true, beq_iff_eq, decide_eq_true_eq] at hm hp
  obtain ⟨rfl, rfl⟩ := hp
  obtain ⟨rfl, rfl⟩ := Prod.mk.inj he
  exact ⟨hm.1, hm.2.1, qAt_in hm.2.2⟩
def qSnL : List String := ["", "FIRST_VALUES", "LOWEST_VALUES", "HIGHEST_VALUES"]
def qSn (t : Nat) : String := qSnL.getD t ""
def qSl : List (Nat × Nat × Nat × Nat) := [(6, 138, 2, 542), (6, 141, 3, 543)]
def qSlN : List (Nat × Nat × Nat × Nat) := [(1, 37, 1, 87), (1, 77, 2, 316), (1, 80, 3, 318)]
def qSta (own idx : Nat) : Option (Bool × Nat) := match qSl.find? (fun q => q.1 == own && q.2.1 == idx) with
  | some q => some (false, q.2.2.1)
  | none => (qSlN.find? (fun q => q.1 == own && q.2.1 == idx)).map (fun q => (true, q.2.2.1))
theorem qSl_ok : qSl.all (fun q => decide (1 ≤ q.2.2.1) && (decide (q.2.2.1 < 4) && qAt q.2.2.2 (.fieldLink (qR q.1) q.2.1 "LetterRuns" (qSn q.2.2.1) "[I"))) = true := by decide +kernel
theorem q_sta {own idx t : Nat} (h : qSta own idx = some (false, t)) : (1 ≤ t ∧ t < 4) ∧ Jvm.Cond.fieldLink (qR own) idx "LetterRuns" (qSn t) "[I" ∈ qW := by
  unfold qSta at h
  split at h
  · rename_i q hq
    have hm := List.all_eq_true.mp qSl_ok q (List.mem_of_find?_eq_some hq)
    have hp := List.find?_some hq
    simp only [Bool.and_eq_true, beq_iff_eq, decide_eq_true_eq] at hm hp
    obtain ⟨rfl, rfl⟩ := hp
    cases h
    exact ⟨⟨hm.1, hm.2.1⟩, qAt_in hm.2.2⟩
  · obtain ⟨q, hq, he⟩ := Option.map_eq_some_iff.mp h
    cases he
def qMnL : List (Nat × Nat × Nat) := [(1, 32, 58), (1, 40, 0), (1, 41, 42), (3, 11, 58), (6, 36, 46)]
def qYL : List MethodName := [⟨"LetterRuns$Batch", "<init>", "()V"⟩,
  ⟨"LetterRuns$Batch", "begin", "(IIII)V"⟩,
  ⟨"LetterRuns$Batch", "takeOver", "(LLetterRuns$Batch;)V"⟩,
  ⟨"LetterRuns$Batch", "about", "(I)I"⟩,
  ⟨"LetterRuns$Batch", "isSorted", "()Z"⟩,
  ⟨"LetterRuns$Batch", "delayBy", "(I)V"⟩,
  ⟨"LetterRuns$Batch", "come", "(I)V"⟩,
  ⟨"LetterRuns$Batch", "letGo", "()V"⟩,
  ⟨"LetterRuns$Batch", "leaveMachine", "(III)V"⟩,
  ⟨"LetterRuns$Batch", "leaveHands", "(II)V"⟩,
  ⟨"LetterRuns$Centre", "<init>", "()V"⟩,
  ⟨"LetterRuns$Centre", "takeOver", "(LLetterRuns$Centre;)V"⟩,
  ⟨"LetterRuns$Centre", "changeSetting", "(II)I"⟩,
  ⟨"LetterRuns$Centre", "changeCutoff", "(II)I"⟩,
  ⟨"LetterRuns$Centre", "tell", "(IIII)I"⟩,
  ⟨"LetterRuns$Centre", "letPass", "(I)I"⟩,
  ⟨"LetterRuns$Centre", "isToCome", "(I)Z"⟩,
  ⟨"LetterRuns$Centre", "batchAt", "(I)LLetterRuns$Batch;"⟩,
  ⟨"LetterRuns$Centre", "machineAt", "(I)LLetterRuns$Machine;"⟩,
  ⟨"LetterRuns$Centre", "cutoffOf", "(I)I"⟩,
  ⟨"LetterRuns$Centre", "sum", "(II)I"⟩,
  ⟨"LetterRuns$Centre", "withDelay", "(I)J"⟩,
  ⟨"LetterRuns$Centre", "allSorted", "()Z"⟩,
  ⟨"LetterRuns$Centre", "minuteAllSorted", "()I"⟩,
  ⟨"LetterRuns$Centre", "missedInTheEnd", "(I)I"⟩,
  ⟨"LetterRuns$Centre", "isIdle", "()Z"⟩,
  ⟨"LetterRuns$Centre", "skipTo", "(I)V"⟩,
  ⟨"LetterRuns$Centre", "passMinute", "()V"⟩,
  ⟨"LetterRuns$Centre", "letCome", "()V"⟩,
  ⟨"LetterRuns$Centre", "letGo", "()V"⟩,
  ⟨"LetterRuns$Centre", "findNextEvent", "()I"⟩,
  ⟨"LetterRuns$Centre", "takeNext", "(LLetterRuns$Machine;)V"⟩,
  ⟨"LetterRuns$Centre", "delayQueue", "(LLetterRuns$Row;)V"⟩,
  ⟨"LetterRuns$Centre", "runMachine", "(LLetterRuns$Machine;I)V"⟩,
  ⟨"LetterRuns$Centre", "sortBatch", "(LLetterRuns$Machine;LLetterRuns$Batch;I)V"⟩,
  ⟨"LetterRuns$Centre", "rejectsOf", "(I)I"⟩,
  ⟨"LetterRuns$Centre", "sortByHand", "()V"⟩,
  ⟨"LetterRuns$History", "<init>", "()V"⟩,
  ⟨"LetterRuns$History", "note", "(LLetterRuns$Centre;)V"⟩,
  ⟨"LetterRuns$History", "keep", "()V"⟩,
  ⟨"LetterRuns$History", "takeLatest", "()LLetterRuns$Centre;"⟩,
  ⟨"LetterRuns$History", "behindLast", "()LLetterRuns$Centre;"⟩,
  ⟨"LetterRuns$Machine", "<init>", "()V"⟩,
  ⟨"LetterRuns$Machine", "takeOver", "(LLetterRuns$Machine;)V"⟩,
  ⟨"LetterRuns$Machine", "about", "(I)I"⟩,
  ⟨"LetterRuns$Machine", "take", "(III)V"⟩,
  ⟨"LetterRuns$Pad", "<init>", "()V"⟩,
  ⟨"LetterRuns$Pad", "append", "(J)I"⟩,
  ⟨"LetterRuns$Pad", "countCharacters", "(J)I"⟩,
  ⟨"LetterRuns$Pad", "empty", "()I"⟩,
  ⟨"LetterRuns$Pad", "findFault", "()I"⟩,
  ⟨"LetterRuns$Pad", "readOrder", "()Z"⟩,
  ⟨"LetterRuns$Pad", "read", "(C)Z"⟩,
  ⟨"LetterRuns$Pad", "readPieces", "()Z"⟩,
  ⟨"LetterRuns$Pad", "readRoute", "()Z"⟩,
  ⟨"LetterRuns$Pad", "readNumber", "()Z"⟩,
  ⟨"LetterRuns$Pad", "nextDigit", "()I"⟩,
  ⟨"LetterRuns$Pad", "next", "()C"⟩,
  ⟨"LetterRuns$Row", "<init>", "()V"⟩,
  ⟨"LetterRuns$Row", "takeOver", "(LLetterRuns$Row;)V"⟩,
  ⟨"LetterRuns$Row", "at", "(I)I"⟩,
  ⟨"LetterRuns$Row", "append", "(I)V"⟩,
  ⟨"LetterRuns$Row", "removeFirst", "()V"⟩,
  ⟨"LetterRuns", "<init>", "()V"⟩,
  ⟨"LetterRuns", "set", "(II)I"⟩,
  ⟨"LetterRuns", "cutoff", "(II)I"⟩,
  ⟨"LetterRuns", "mail", "(IIII)I"⟩,
  ⟨"LetterRuns", "pass", "(I)I"⟩,
  ⟨"LetterRuns", "recorded", "(I)I"⟩,
  ⟨"LetterRuns", "batch", "(II)I"⟩,
  ⟨"LetterRuns", "machine", "(II)I"⟩,
  ⟨"LetterRuns", "route", "(II)I"⟩,
  ⟨"LetterRuns", "count", "(I)I"⟩,
  ⟨"LetterRuns", "delayed", "(I)J"⟩,
  ⟨"LetterRuns", "queued", "(II)I"⟩,
  ⟨"LetterRuns", "sortedAt", "()I"⟩,
  ⟨"LetterRuns", "wouldMiss", "()I"⟩,
  ⟨"LetterRuns", "least", "(II)I"⟩,
  ⟨"LetterRuns", "put", "(J)I"⟩,
  ⟨"LetterRuns", "wipe", "()I"⟩,
  ⟨"LetterRuns", "fault", "()I"⟩,
  ⟨"LetterRuns", "carryOut", "()I"⟩,
  ⟨"LetterRuns", "obeyOrder", "()I"⟩,
  ⟨"LetterRuns", "undo", "()I"⟩,
  ⟨"LetterRuns", "save", "(I)I"⟩,
  ⟨"LetterRuns", "restore", "(I)I"⟩,
  ⟨"LetterRunsModel", "<init>", "()V"⟩,
  ⟨"LetterRunsModel", "in", "(III)Z"⟩,
  ⟨"LetterRunsModel", "of", "([III)I"⟩,
  ⟨"LetterRunsModel", "sets", "([IIII)V"⟩,
  ⟨"LetterRunsModel", "isShape", "(I)Z"⟩,
  ⟨"LetterRunsModel", "isRoute", "(I)Z"⟩,
  ⟨"LetterRunsModel", "isBatch", "(I)Z"⟩,
  ⟨"LetterRunsModel", "lays", "([II[II)V"⟩,
  ⟨"LetterRunsModel", "records", "()V"⟩,
  ⟨"LetterRunsModel", "undo", "()I"⟩,
  ⟨"LetterRunsModel", "save", "(I)I"⟩,
  ⟨"LetterRunsModel", "restore", "(I)I"⟩,
  ⟨"LetterRunsModel", "delays", "([III)V"⟩,
  ⟨"LetterRunsModel", "misses", "([II)V"⟩,
  ⟨"LetterRunsModel", "come", "([I)V"⟩,
  ⟨"LetterRunsModel", "leave", "([I)V"⟩,
  ⟨"LetterRunsModel", "ends", "([II)V"⟩,
  ⟨"LetterRunsModel", "takes", "([II)V"⟩,
  ⟨"LetterRunsModel", "ran", "([I)I"⟩,
  ⟨"LetterRunsModel", "rejects", "([III)V"⟩,
  ⟨"LetterRunsModel", "sorts", "([II)V"⟩,
  ⟨"LetterRunsModel", "runs", "([II)Z"⟩,
  ⟨"LetterRunsModel", "hands", "([I)V"⟩,
  ⟨"LetterRunsModel", "minute", "([I)V"⟩,
  ⟨"LetterRunsModel", "minutes", "([II)V"⟩,
  ⟨"LetterRunsModel", "isFor", "(II)Z"⟩,
  ⟨"LetterRunsModel", "changes", "(II)I"⟩,
  ⟨"LetterRunsModel", "set", "(II)I"⟩,
  ⟨"LetterRunsModel", "isMinute", "(I)Z"⟩,
  ⟨"LetterRunsModel", "mayCutoff", "(II)I"⟩,
  ⟨"LetterRunsModel", "cutoff", "(II)I"⟩,
  ⟨"LetterRunsModel", "mayMail", "(IIII)I"⟩,
  ⟨"LetterRunsModel", "mails", "(IIII)I"⟩,
  ⟨"LetterRunsModel", "mail", "(IIII)I"⟩,
  ⟨"LetterRunsModel", "mayPass", "(I)I"⟩,
  ⟨"LetterRunsModel", "pass", "(I)I"⟩,
  ⟨"LetterRunsModel", "batch", "(II)I"⟩,
  ⟨"LetterRunsModel", "machine", "(II)I"⟩,
  ⟨"LetterRunsModel", "sum", "(II)I"⟩,
  ⟨"LetterRunsModel", "route", "(II)I"⟩,
  ⟨"LetterRunsModel", "count", "(I)I"⟩,
  ⟨"LetterRunsModel", "delayed", "(I)J"⟩,
  ⟨"LetterRunsModel", "queued", "(II)I"⟩,
  ⟨"LetterRunsModel", "left", "([I)I"⟩,
  ⟨"LetterRunsModel", "sortedAt", "()I"⟩,
  ⟨"LetterRunsModel", "missedWith", "(II)I"⟩,
  ⟨"LetterRunsModel", "wouldMiss", "()I"⟩,
  ⟨"LetterRunsModel", "least", "(II)I"⟩,
  ⟨"LetterRunsModel", "byteOf", "(JI)I"⟩,
  ⟨"LetterRunsModel", "toldBy", "(J)I"⟩,
  ⟨"LetterRunsModel", "put", "(J)I"⟩,
  ⟨"LetterRunsModel", "wipe", "()I"⟩,
  ⟨"LetterRunsModel", "isAt", "(II)Z"⟩,
  ⟨"LetterRunsModel", "isSign", "(I)Z"⟩,
  ⟨"LetterRunsModel", "isNumber", "(I)Z"⟩,
  ⟨"LetterRunsModel", "isDigit", "(I)Z"⟩,
  ⟨"LetterRunsModel", "isOrder", "()Z"⟩,
  ⟨"LetterRunsModel", "isText", "()Z"⟩,
  ⟨"LetterRunsModel", "fault", "()I"⟩,
  ⟨"LetterRunsModel", "mayDo", "(IIII)I"⟩,
  ⟨"LetterRunsModel", "does", "(I)Z"⟩,
  ⟨"LetterRunsModel", "carryOut", "()I"⟩,
  ⟨"java/lang/Math", "max", "(II)I"⟩,
  ⟨"java/lang/Math", "min", "(II)I"⟩,
  ⟨"LetterRunsLaw", "law", "([I)Z"⟩]
def qY (z : Nat) : MethodName := qYL.getD z ⟨"", "", ""⟩
def qBL : List ByteArray := [prog_2_method_1_code, prog_2_method_2_code, prog_2_method_3_code, prog_2_method_4_code, prog_2_method_5_code, prog_2_method_6_code, prog_2_method_7_code, prog_2_method_8_code, prog_2_method_9_code, prog_2_method_10_code, prog_3_method_1_code, prog_3_method_2_code, prog_3_method_3_code, prog_3_method_4_code, prog_3_method_5_code, prog_3_method_6_code, prog_3_method_7_code, prog_3_method_8_code, prog_3_method_9_code, prog_3_method_10_code, prog_3_method_11_code, prog_3_method_12_code, prog_3_method_13_code, prog_3_method_14_code, prog_3_method_15_code, prog_3_method_16_code, prog_3_method_17_code, prog_3_method_18_code, prog_3_method_19_code, prog_3_method_20_code, prog_3_method_21_code, prog_3_method_22_code, prog_3_method_23_code, prog_3_method_24_code, prog_3_method_25_code, prog_3_method_26_code, prog_3_method_27_code, prog_4_method_1_code, prog_4_method_2_code, prog_4_method_3_code, prog_4_method_4_code, prog_4_method_5_code, prog_5_method_1_code, prog_5_method_2_code, prog_5_method_3_code, prog_5_method_4_code, prog_6_method_1_code, prog_6_method_2_code, prog_6_method_3_code, prog_6_method_4_code, prog_6_method_5_code, prog_6_method_6_code, prog_6_method_7_code, prog_6_method_8_code, prog_6_method_9_code, prog_6_method_10_code, prog_6_method_11_code, prog_6_method_12_code, prog_7_method_1_code, prog_7_method_2_code, prog_7_method_3_code, prog_7_method_4_code, prog_7_method_5_code, prog_1_method_1_code, prog_1_method_2_code, prog_1_method_3_code, prog_1_method_4_code, prog_1_method_5_code, prog_1_method_6_code, prog_1_method_7_code, prog_1_method_8_code, prog_1_method_9_code, prog_1_method_10_code, prog_1_method_11_code, prog_1_method_12_code, prog_1_method_13_code, prog_1_method_14_code, prog_1_method_15_code, prog_1_method_16_code, prog_1_method_17_code, prog_1_method_18_code, prog_1_method_19_code, prog_1_method_20_code, prog_1_method_21_code, prog_1_method_22_code, prog_1_method_23_code, prog_9_method_1_code, prog_9_method_3_code, prog_9_method_4_code, prog_9_method_5_code, prog_9_method_6_code, prog_9_method_7_code, prog_9_method_8_code, prog_9_method_9_code, prog_9_method_10_code, prog_9_method_11_code, prog_9_method_12_code, prog_9_method_13_code, prog_9_method_14_code, prog_9_method_15_code, prog_9_method_16_code, prog_9_method_17_code, prog_9_method_18_code, prog_9_method_19_code, prog_9_method_20_code, prog_9_method_21_code, prog_9_method_22_code, prog_9_method_23_code, prog_9_method_24_code, prog_9_method_25_code, prog_9_method_26_code, prog_9_method_27_code, prog_9_method_28_code, prog_9_method_29_code, prog_9_method_30_code, prog_9_method_31_code, prog_9_method_32_code, prog_9_method_33_code, prog_9_method_34_code, prog_9_method_35_code, prog_9_method_36_code, prog_9_method_37_code, prog_9_method_38_code, prog_9_method_39_code, prog_9_method_40_code, prog_9_method_41_code, prog_9_method_42_code, prog_9_method_43_code, prog_9_method_44_code, prog_9_method_45_code, prog_9_method_46_code, prog_9_method_47_code, prog_9_method_48_code, prog_9_method_49_code, prog_9_method_50_code, prog_9_method_51_code, prog_9_method_52_code, prog_9_method_53_code, prog_9_method_54_code, prog_9_method_55_code, prog_9_method_56_code, prog_9_method_57_code, prog_9_method_58_code, prog_9_method_59_code, prog_9_method_60_code, prog_9_method_61_code, prog_9_method_62_code, prog_9_method_63_code, prog_10_method_65_code, prog_10_method_69_code, code]
def qB (z : Nat) : ByteArray := qBL.getD z ByteArray.empty
def qLL : List Nat := [1, 5, 2, 2, 1, 2, 2, 1, 4, 3, 2, 3, 4, 4, 5, 4, 2, 2, 2, 2, 6, 5, 2, 2, 4, 2, 3, 3, 4, 3, 3, 4, 4, 4, 6, 2, 5, 2, 2, 1, 1, 1, 1, 2, 2, 4, 1, 5, 8, 2, 2, 1, 2, 2, 2, 3, 2, 1, 1, 2, 2, 2, 1, 2, 3, 3, 5, 2, 2, 4, 4, 3, 2, 2, 4, 1, 1, 5, 3, 1, 1, 2, 1, 1, 2, 2, 2, 3, 3, 4, 1, 1, 2, 5, 2, 1, 2, 2, 3, 3, 4, 2, 2, 5, 1, 3, 8, 4, 5, 4, 3, 2, 4, 3, 2, 3, 4, 5, 7, 6, 2, 3, 3, 3, 5, 3, 2, 5, 3, 3, 1, 5, 1, 4, 3, 4, 5, 2, 3, 3, 3, 2, 2, 2, 1, 5, 6, 2, 2, 2, 4]
def qL (z : Nat) : Nat := qLL.getD z 0
def qOL : List Nat := [0, 0, 0, 0, 0, 0, 0, 0, 0, 0, 1, 1, 1, 1, 1, 1, 1, 1, 1, 1, 1, 1, 1, 1, 1, 1, 1, 1, 1, 1, 1, 1, 1, 1, 1, 1, 1, 2, 2, 2, 2, 2, 3, 3, 3, 3, 4, 4, 4, 4, 4, 4, 4, 4, 4, 4, 4, 4, 5, 5, 5, 5, 5, 6, 6, 6, 6, 6, 6, 6, 6, 6, 6, 6, 6, 6, 6, 6, 6, 6, 6, 6, 6, 6, 6, 6, 7, 7, 7, 7, 7, 7, 7, 7, 7, 7, 7, 7, 7, 7, 7, 7, 7, 7, 7, 7, 7, 7, 7, 7, 7, 7, 7, 7, 7, 7, 7, 7, 7, 7, 7, 7, 7, 7, 7, 7, 7, 7, 7, 7, 7, 7, 7, 7, 7, 7, 7, 7, 7, 7, 7, 7, 7, 7, 7, 7, 7, 7, 9, 9, 8]
def qO (z : Nat) : Nat := qOL.getD z 0
def qKL : List Nat := [2, 0, 0, 0, 0, 0, 0, 0, 0, 0, 2, 0, 0, 0, 0, 0, 0, 0, 0, 0, 0, 0, 0, 0, 0, 0, 0, 0, 0, 0, 0, 0, 0, 0, 0, 0, 0, 2, 0, 0, 0, 0, 2, 0, 0, 0, 2, 0, 0, 0, 0, 0, 0, 0, 0, 0, 0, 0, 2, 0, 0, 0, 0, 2, 0, 0, 0, 0, 0, 0, 0, 0, 0, 0, 0, 0, 0, 0, 0, 0, 0, 0, 0, 0, 0, 0, 2, 1, 1, 1, 1, 1, 0, 1, 0, 0, 0, 0, 1, 1, 1, 1, 1, 1, 1, 1, 1, 1, 1, 1, 1, 1, 0, 0, 0, 0, 0, 0, 0, 0, 0, 0, 0, 0, 0, 0, 0, 0, 0, 1, 0, 0, 0, 0, 1, 1, 0, 0, 0, 0, 0, 0, 0, 0, 0, 0, 0, 0, 1, 1, 1]
def qK (z : Nat) : Nat := qKL.getD z 0
def qFrL : List Nat := [1, 0, 0, 0, 0, 0, 1, 1, 0, 0, 3, 3, 0, 1, 1, 4, 0, 0, 0, 0, 1, 0, 1, 4, 5, 0, 1, 3, 2, 2, 1, 2, 1, 2, 1, 0, 2, 4, 4, 0, 1, 0, 2, 2, 0, 0, 1, 1, 0, 0, 5, 4, 1, 3, 2, 2, 1, 0, 1, 1, 0, 0, 1, 5, 5, 5, 5, 5, 1, 1, 1, 2, 2, 1, 1, 5, 6, 6, 2, 1, 6, 6, 5, 4, 4, 5, 1, 0, 0, 0, 1, 1, 1, 0, 1, 1, 1, 2, 1, 1, 2, 2, 1, 2, 0, 2, 3, 4, 2, 5, 6, 1, 0, 2, 1, 2, 3, 2, 1, 3, 0, 7, 2, 2, 1, 2, 2, 1, 2, 1, 6, 7, 8, 8, 0, 1, 2, 0, 1, 2, 2, 2, 3, 4, 5, 3, 7, 8, 0, 0, 9]
def qFr (z : Nat) : Nat := qFrL.getD z 0
def qWdL : List Nat := [20, 0, 0, 0, 0, 0, 21, 21, 0, 0, 60, 86, 0, 21, 24, 110, 0, 0, 0, 0, 21, 0, 20, 110, 133, 0, 21, 88, 42, 41, 21, 64, 21, 48, 23, 0, 64, 81, 108, 0, 20, 0, 40, 65, 0, 0, 20, 27, 0, 0, 104, 84, 20, 63, 41, 41, 20, 0, 20, 44, 0, 0, 44, 102, 129, 129, 129, 133, 20, 21, 21, 46, 46, 24, 21, 131, 156, 156, 51, 21, 125, 153, 133, 108, 108, 129, 20, 0, 0, 0, 22, 22, 22, 0, 24, 24, 24, 45, 23, 23, 45, 45, 23, 45, 0, 45, 67, 94, 44, 117, 140, 22, 0, 45, 22, 43, 65, 43, 23, 67, 0, 162, 43, 42, 22, 46, 46, 22, 42, 22, 140, 162, 186, 186, 0, 22, 45, 0, 22, 44, 44, 44, 66, 87, 108, 67, 162, 187, 0, 0, 209]
def qWd (z : Nat) : Nat := qWdL.getD z 0
def qMcL : List Nat := [0, 0, 0, 0, 0, 0, 0, 0, 0, 0, 55, 0, 0, 0, 0, 0, 0, 0, 0, 0, 0, 0, 0, 0, 0, 0, 0, 0, 0, 0, 0, 0, 0, 0, 0, 0, 0, 393, 0, 0, 0, 0, 2, 0, 0, 0, 1, 0, 0, 0, 0, 0, 0, 0, 0, 0, 0, 0, 1, 0, 0, 0, 0, 622, 0, 0, 0, 0, 0, 0, 0, 0, 0, 0, 0, 0, 0, 0, 0, 0, 0, 0, 0, 0, 0, 0, 7, 0, 0, 0, 0, 0, 0, 0, 0, 0, 0, 0, 0, 0, 0, 0, 0, 0, 0, 0, 0, 0, 0, 0, 0, 0, 0, 0, 0, 0, 0, 0, 0, 0, 0, 0, 0, 0, 0, 0, 0, 0, 0, 0, 0, 0, 0, 0, 0, 0, 0, 0, 0, 0, 0, 0, 0, 0, 0, 0, 0, 0, 0, 0, 631]
def qMc (z : Nat) : Nat := qMcL.getD z 0
def qMsL : List Nat := [0, 0, 0, 0, 0, 0, 0, 0, 0, 0, 686, 0, 0, 0, 0, 0, 0, 0, 0, 0, 0, 0, 0, 0, 0, 0, 0, 0, 0, 0, 0, 0, 0, 0, 0, 0, 0, 4886, 0, 0, 0, 0, 42, 0, 0, 0, 80, 0, 0, 0, 0, 0, 0, 0, 0, 0, 0, 0, 40, 0, 0, 0, 0, 7768, 0, 0, 0, 0, 0, 0, 0, 0, 0, 0, 0, 0, 0, 0, 0, 0, 0, 0, 0, 0, 0, 0, 6594, 0, 0, 0, 0, 0, 0, 0, 0, 0, 0, 0, 0, 0, 0, 0, 0, 0, 0, 0, 0, 0, 0, 0, 0, 0, 0, 0, 0, 0, 0, 0, 0, 0, 0, 0, 0, 0, 0, 0, 0, 0, 0, 0, 0, 0, 0, 0, 0, 0, 0, 0, 0, 0, 0, 0, 0, 0, 0, 0, 0, 0, 0, 0, 14379]
def qMs (z : Nat) : Nat := qMsL.getD z 0
def qAL : List Nat := [0, 4, 1, 1, 0, 1, 1, 0, 3, 2, 0, 1, 2, 2, 4, 1, 1, 1, 1, 1, 2, 1, 0, 0, 1, 0, 1, 0, 0, 0, 0, 1, 1, 2, 3, 1, 0, 0, 1, 0, 0, 0, 0, 1, 1, 3, 0, 1, 1, 0, 0, 0, 1, 0, 0, 0, 0, 0, 0, 1, 1, 1, 0, 0, 2, 2, 4, 1, 1, 2, 2, 2, 1, 1, 2, 0, 0, 2, 1, 0, 0, 0, 0, 0, 1, 1, 0, 3, 3, 4, 1, 1, 1, 4, 0, 0, 1, 1, 3, 2, 1, 1, 2, 2, 1, 3, 2, 2, 1, 1, 2, 2, 2, 2, 1, 2, 2, 4, 4, 4, 1, 1, 2, 2, 2, 2, 1, 1, 2, 1, 0, 2, 0, 2, 2, 1, 1, 0, 2, 1, 1, 1, 0, 0, 0, 4, 1, 0, 2, 2, 1]
def qA (z : Nat) : Nat := qAL.getD z 0
def qRtL : List (Option FieldType) := [none, none, none, some .int, some .boolean, none, none, none, none, none, none, none, some .int, some .int, some .int, some .int, some .boolean, some (.object "LetterRuns$Batch"), some (.object "LetterRuns$Machine"), some .int, some .int, some .long, some .boolean, some .int, some .int, some .boolean, none, none, none, none, some .int, none, none, none, none, some .int, none, none, none, none, some (.object "LetterRuns$Centre"), some (.object "LetterRuns$Centre"), none, none, some .int, none, none, some .int, some .int, some .int, some .int, some .boolean, some .boolean, some .boolean, some .boolean, some .boolean, some .int, some .char, none, none, some .int, none, none, none, some .int, some .int, some .int, some .int, some .int, some .int, some .int, some .int, some .int, some .long, some .int, some .int, some .int, some .int, some .int, some .int, some .int, some .int, some .int, some .int, some .int, some .int, none, some .boolean, some .int, none, some .boolean, some .boolean, some .boolean, none, none, some .int, some .int, some .int, none, none, none, none, none, none, some .int, none, none, some .boolean, none, none, none, some .boolean, some .int, some .int, some .boolean, some .int, some .int, some .int, some .int, some .int, some .int, some .int, some .int, some .int, some .int, some .int, some .int, some .long, some .int, some .int, some .int, some .int, some .int, some .int, some .int, some .int, some .int, some .int, some .boolean, some .boolean, some .boolean, some .boolean, some .boolean, some .boolean, some .int, some .int, some .boolean, some .int, some .int, some .int, some .boolean]
def qRt (z : Nat) : Option FieldType := qRtL.getD z none
def qCw (z : Nat) : Jvm.Cond := .code (qY z) (qB z) (qL z) (qRt z)
def qRm (z : Nat) : Room := { frames := qFr z, cells := qMc z, slots := qMs z, locals := qWd z }
def qCp : List Nat := [92, 351, 301, 472, 526, 401, 397, 409, 455, 463, 64, 294, 315, 335, 347, 359, 339, 426, 385, 393, 490, 504, 522, 518, 535, 363, 370, 377, 381, 405, 414, 418, 438, 443, 447, 451, 459, 209, 286, 327, 620, 290, 137, 305, 481, 430, 229, 551, 555, 566, 574, 578, 598, 586, 602, 590, 594, 582, 74, 309, 422, 389, 434, 56, 282, 331, 343, 355, 323, 467, 476, 485, 495, 499, 508, 513, 530, 541, 547, 562, 570, 606, 611, 616, 624, 628, 633, 682, 754, 734, 727, 712, 792, 675, 690, 672, 679, 686, 757, 760, 751, 763, 781, 769, 775, 778, 772, 766, 784, 748, 745, 697, 701, 694, 716, 709, 705, 724, 731, 720, 742, 738, 788, 796, 804, 800, 808, 812, 817, 824, 821, 832, 828, 836, 846, 843, 840, 851, 871, 875, 867, 879, 863, 859, 855, 891, 887, 883, 373, 366, 0]
set_option maxRecDepth 20000 in
theorem qcw_0 : qCw 0 ∈ qW := List.mem_filter.mpr ⟨List.mem_append_right _ (List.mem_append_left _ (List.mem_of_getElem? (i := 51) (rfl : tables_1_1[51]? = some (qCw 0)))), rfl⟩
set_option maxRecDepth 20000 in
theorem qcw_1 : qCw 1 ∈ qW := List.mem_filter.mpr ⟨List.mem_append_right _ (List.mem_append_right _ (List.mem_append_left _ (List.mem_of_getElem? (i := 70) (rfl : tables_1_2[70]? = some (qCw 1))))), rfl⟩
set_option maxRecDepth 20000 in
theorem qcw_2 : qCw 2 ∈ qW := List.mem_filter.mpr ⟨List.mem_append_right _ (List.mem_append_right _ (List.mem_append_left _ (List.mem_of_getElem? (i := 20) (rfl : tables_1_2[20]? = some (qCw 2))))), rfl⟩
set_option maxRecDepth 20000 in
theorem qcw_3 : qCw 3 ∈ qW := List.mem_filter.mpr ⟨List.mem_append_right _ (List.mem_append_right _ (List.mem_append_left _ (List.mem_of_getElem? (i := 191) (rfl : tables_1_2[191]? = some (qCw 3))))), rfl⟩
set_option maxRecDepth 20000 in
theorem qcw_4 : qCw 4 ∈ qW := List.mem_filter.mpr ⟨List.mem_append_right _ (List.mem_append_right _ (List.mem_append_right _ (List.mem_append_left _ (List.mem_of_getElem? (i := 5) (rfl : tables_1_3[5]? = some (qCw 4)))))), rfl⟩
set_option maxRecDepth 20000 in
theorem qcw_5 : qCw 5 ∈ qW := List.mem_filter.mpr ⟨List.mem_append_right _ (List.mem_append_right _ (List.mem_append_left _ (List.mem_of_getElem? (i := 120) (rfl : tables_1_2[120]? = some (qCw 5))))), rfl⟩
set_option maxRecDepth 20000 in
theorem qcw_6 : qCw 6 ∈ qW := List.mem_filter.mpr ⟨List.mem_append_right _ (List.mem_append_right _ (List.mem_append_left _ (List.mem_of_getElem? (i := 116) (rfl : tables_1_2[116]? = some (qCw 6))))), rfl⟩
set_option maxRecDepth 20000 in
theorem qcw_7 : qCw 7 ∈ qW := List.mem_filter.mpr ⟨List.mem_append_right _ (List.mem_append_right _ (List.mem_append_left _ (List.mem_of_getElem? (i := 128) (rfl : tables_1_2[128]? = some (qCw 7))))), rfl⟩
set_option maxRecDepth 20000 in
theorem qcw_8 : qCw 8 ∈ qW := List.mem_filter.mpr ⟨List.mem_append_right _ (List.mem_append_right _ (List.mem_append_left _ (List.mem_of_getElem? (i := 174) (rfl : tables_1_2[174]? = some (qCw 8))))), rfl⟩
set_option maxRecDepth 20000 in
theorem qcw_9 : qCw 9 ∈ qW := List.mem_filter.mpr ⟨List.mem_append_right _ (List.mem_append_right _ (List.mem_append_left _ (List.mem_of_getElem? (i := 182) (rfl : tables_1_2[182]? = some (qCw 9))))), rfl⟩
set_option maxRecDepth 20000 in
theorem qcw_10 : qCw 10 ∈ qW := List.mem_filter.mpr ⟨List.mem_append_right _ (List.mem_append_left _ (List.mem_of_getElem? (i := 23) (rfl : tables_1_1[23]? = some (qCw 10)))), rfl⟩
set_option maxRecDepth 20000 in
theorem qcw_11 : qCw 11 ∈ qW := List.mem_filter.mpr ⟨List.mem_append_right _ (List.mem_append_right _ (List.mem_append_left _ (List.mem_of_getElem? (i := 13) (rfl : tables_1_2[13]? = some (qCw 11))))), rfl⟩
set_option maxRecDepth 20000 in
theorem qcw_12 : qCw 12 ∈ qW := List.mem_filter.mpr ⟨List.mem_append_right _ (List.mem_append_right _ (List.mem_append_left _ (List.mem_of_getElem? (i := 34) (rfl : tables_1_2[34]? = some (qCw 12))))), rfl⟩
set_option maxRecDepth 20000 in
theorem qcw_13 : qCw 13 ∈ qW := List.mem_filter.mpr ⟨List.mem_append_right _ (List.mem_append_right _ (List.mem_append_left _ (List.mem_of_getElem? (i := 54) (rfl : tables_1_2[54]? = some (qCw 13))))), rfl⟩
set_option maxRecDepth 20000 in
theorem qcw_14 : qCw 14 ∈ qW := List.mem_filter.mpr ⟨List.mem_append_right _ (List.mem_append_right _ (List.mem_append_left _ (List.mem_of_getElem? (i := 66) (rfl : tables_1_2[66]? = some (qCw 14))))), rfl⟩
set_option maxRecDepth 20000 in
theorem qcw_15 : qCw 15 ∈ qW := List.mem_filter.mpr ⟨List.mem_append_right _ (List.mem_append_right _ (List.mem_append_left _ (List.mem_of_getElem? (i := 78) (rfl : tables_1_2[78]? = some (qCw 15))))), rfl⟩
set_option maxRecDepth 20000 in
theorem qcw_16 : qCw 16 ∈ qW := List.mem_filter.mpr ⟨List.mem_append_right _ (List.mem_append_right _ (List.mem_append_left _ (List.mem_of_getElem? (i := 58) (rfl : tables_1_2[58]? = some (qCw 16))))), rfl⟩
set_option maxRecDepth 20000 in
theorem qcw_17 : qCw 17 ∈ qW := List.mem_filter.mpr ⟨List.mem_append_right _ (List.mem_append_right _ (List.mem_append_left _ (List.mem_of_getElem? (i := 145) (rfl : tables_1_2[145]? = some (qCw 17))))), rfl⟩
set_option maxRecDepth 20000 in
theorem qcw_18 : qCw 18 ∈ qW := List.mem_filter.mpr ⟨List.mem_append_right _ (List.mem_append_right _ (List.mem_append_left _ (List.mem_of_getElem? (i := 104) (rfl : tables_1_2[104]? = some (qCw 18))))), rfl⟩
set_option maxRecDepth 20000 in
theorem qcw_19 : qCw 19 ∈ qW := List.mem_filter.mpr ⟨List.mem_append_right _ (List.mem_append_right _ (List.mem_append_left _ (List.mem_of_getElem? (i := 112) (rfl : tables_1_2[112]? = some (qCw 19))))), rfl⟩
set_option maxRecDepth 20000 in
theorem qcw_20 : qCw 20 ∈ qW := List.mem_filter.mpr ⟨List.mem_append_right _ (List.mem_append_right _ (List.mem_append_left _ (List.mem_of_getElem? (i := 209) (rfl : tables_1_2[209]? = some (qCw 20))))), rfl⟩
set_option maxRecDepth 20000 in
theorem qcw_21 : qCw 21 ∈ qW := List.mem_filter.mpr ⟨List.mem_append_right _ (List.mem_append_right _ (List.mem_append_left _ (List.mem_of_getElem? (i := 223) (rfl : tables_1_2[223]? = some (qCw 21))))), rfl⟩
set_option maxRecDepth 20000 in
theorem qcw_22 : qCw 22 ∈ qW := List.mem_filter.mpr ⟨List.mem_append_right _ (List.mem_append_right _ (List.mem_append_right _ (List.mem_append_left _ (List.mem_of_getElem? (i := 1) (rfl : tables_1_3[1]? = some (qCw 22)))))), rfl⟩
set_option maxRecDepth 20000 in
theorem qcw_23 : qCw 23 ∈ qW := List.mem_filter.mpr ⟨List.mem_append_right _ (List.mem_append_right _ (List.mem_append_left _ (List.mem_of_getElem? (i := 237) (rfl : tables_1_2[237]? = some (qCw 23))))), rfl⟩
set_option maxRecDepth 20000 in
theorem qcw_24 : qCw 24 ∈ qW := List.mem_filter.mpr ⟨List.mem_append_right _ (List.mem_append_right _ (List.mem_append_right _ (List.mem_append_left _ (List.mem_of_getElem? (i := 14) (rfl : tables_1_3[14]? = some (qCw 24)))))), rfl⟩
set_option maxRecDepth 20000 in
theorem qcw_25 : qCw 25 ∈ qW := List.mem_filter.mpr ⟨List.mem_append_right _ (List.mem_append_right _ (List.mem_append_left _ (List.mem_of_getElem? (i := 82) (rfl : tables_1_2[82]? = some (qCw 25))))), rfl⟩
set_option maxRecDepth 20000 in
theorem qcw_26 : qCw 26 ∈ qW := List.mem_filter.mpr ⟨List.mem_append_right _ (List.mem_append_right _ (List.mem_append_left _ (List.mem_of_getElem? (i := 89) (rfl : tables_1_2[89]? = some (qCw 26))))), rfl⟩
set_option maxRecDepth 20000 in
theorem qcw_27 : qCw 27 ∈ qW := List.mem_filter.mpr ⟨List.mem_append_right _ (List.mem_append_right _ (List.mem_append_left _ (List.mem_of_getElem? (i := 96) (rfl : tables_1_2[96]? = some (qCw 27))))), rfl⟩
set_option maxRecDepth 20000 in
theorem qcw_28 : qCw 28 ∈ qW := List.mem_filter.mpr ⟨List.mem_append_right _ (List.mem_append_right _ (List.mem_append_left _ (List.mem_of_getElem? (i := 100) (rfl : tables_1_2[100]? = some (qCw 28))))), rfl⟩
set_option maxRecDepth 20000 in
theorem qcw_29 : qCw 29 ∈ qW := List.mem_filter.mpr ⟨List.mem_append_right _ (List.mem_append_right _ (List.mem_append_left _ (List.mem_of_getElem? (i := 124) (rfl : tables_1_2[124]? = some (qCw 29))))), rfl⟩
set_option maxRecDepth 20000 in
theorem qcw_30 : qCw 30 ∈ qW := List.mem_filter.mpr ⟨List.mem_append_right _ (List.mem_append_right _ (List.mem_append_left _ (List.mem_of_getElem? (i := 133) (rfl : tables_1_2[133]? = some (qCw 30))))), rfl⟩
set_option maxRecDepth 20000 in
theorem qcw_31 : qCw 31 ∈ qW := List.mem_filter.mpr ⟨List.mem_append_right _ (List.mem_append_right _ (List.mem_append_left _ (List.mem_of_getElem? (i := 137) (rfl : tables_1_2[137]? = some (qCw 31))))), rfl⟩
set_option maxRecDepth 20000 in
theorem qcw_32 : qCw 32 ∈ qW := List.mem_filter.mpr ⟨List.mem_append_right _ (List.mem_append_right _ (List.mem_append_left _ (List.mem_of_getElem? (i := 157) (rfl : tables_1_2[157]? = some (qCw 32))))), rfl⟩
set_option maxRecDepth 20000 in
theorem qcw_33 : qCw 33 ∈ qW := List.mem_filter.mpr ⟨List.mem_append_right _ (List.mem_append_right _ (List.mem_append_left _ (List.mem_of_getElem? (i := 162) (rfl : tables_1_2[162]? = some (qCw 33))))), rfl⟩
set_option maxRecDepth 20000 in
theorem qcw_34 : qCw 34 ∈ qW := List.mem_filter.mpr ⟨List.mem_append_right _ (List.mem_append_right _ (List.mem_append_left _ (List.mem_of_getElem? (i := 166) (rfl : tables_1_2[166]? = some (qCw 34))))), rfl⟩
set_option maxRecDepth 20000 in
theorem qcw_35 : qCw 35 ∈ qW := List.mem_filter.mpr ⟨List.mem_append_right _ (List.mem_append_right _ (List.mem_append_left _ (List.mem_of_getElem? (i := 170) (rfl : tables_1_2[170]? = some (qCw 35))))), rfl⟩
set_option maxRecDepth 20000 in
theorem qcw_36 : qCw 36 ∈ qW := List.mem_filter.mpr ⟨List.mem_append_right _ (List.mem_append_right _ (List.mem_append_left _ (List.mem_of_getElem? (i := 178) (rfl : tables_1_2[178]? = some (qCw 36))))), rfl⟩
set_option maxRecDepth 20000 in
theorem qcw_37 : qCw 37 ∈ qW := List.mem_filter.mpr ⟨List.mem_append_right _ (List.mem_append_left _ (List.mem_of_getElem? (i := 168) (rfl : tables_1_1[168]? = some (qCw 37)))), rfl⟩
set_option maxRecDepth 20000 in
theorem qcw_38 : qCw 38 ∈ qW := List.mem_filter.mpr ⟨List.mem_append_right _ (List.mem_append_right _ (List.mem_append_left _ (List.mem_of_getElem? (i := 5) (rfl : tables_1_2[5]? = some (qCw 38))))), rfl⟩
set_option maxRecDepth 20000 in
theorem qcw_39 : qCw 39 ∈ qW := List.mem_filter.mpr ⟨List.mem_append_right _ (List.mem_append_right _ (List.mem_append_left _ (List.mem_of_getElem? (i := 46) (rfl : tables_1_2[46]? = some (qCw 39))))), rfl⟩
set_option maxRecDepth 20000 in
theorem qcw_40 : qCw 40 ∈ qW := List.mem_filter.mpr ⟨List.mem_append_right _ (List.mem_append_right _ (List.mem_append_right _ (List.mem_append_left _ (List.mem_of_getElem? (i := 99) (rfl : tables_1_3[99]? = some (qCw 40)))))), rfl⟩
set_option maxRecDepth 20000 in
theorem qcw_41 : qCw 41 ∈ qW := List.mem_filter.mpr ⟨List.mem_append_right _ (List.mem_append_right _ (List.mem_append_left _ (List.mem_of_getElem? (i := 9) (rfl : tables_1_2[9]? = some (qCw 41))))), rfl⟩
set_option maxRecDepth 20000 in
theorem qcw_42 : qCw 42 ∈ qW := List.mem_filter.mpr ⟨List.mem_append_right _ (List.mem_append_left _ (List.mem_of_getElem? (i := 96) (rfl : tables_1_1[96]? = some (qCw 42)))), rfl⟩
set_option maxRecDepth 20000 in
theorem qcw_43 : qCw 43 ∈ qW := List.mem_filter.mpr ⟨List.mem_append_right _ (List.mem_append_right _ (List.mem_append_left _ (List.mem_of_getElem? (i := 24) (rfl : tables_1_2[24]? = some (qCw 43))))), rfl⟩
set_option maxRecDepth 20000 in
theorem qcw_44 : qCw 44 ∈ qW := List.mem_filter.mpr ⟨List.mem_append_right _ (List.mem_append_right _ (List.mem_append_left _ (List.mem_of_getElem? (i := 200) (rfl : tables_1_2[200]? = some (qCw 44))))), rfl⟩
set_option maxRecDepth 20000 in
theorem qcw_45 : qCw 45 ∈ qW := List.mem_filter.mpr ⟨List.mem_append_right _ (List.mem_append_right _ (List.mem_append_left _ (List.mem_of_getElem? (i := 149) (rfl : tables_1_2[149]? = some (qCw 45))))), rfl⟩
set_option maxRecDepth 20000 in
theorem qcw_46 : qCw 46 ∈ qW := List.mem_filter.mpr ⟨List.mem_append_right _ (List.mem_append_left _ (List.mem_of_getElem? (i := 188) (rfl : tables_1_1[188]? = some (qCw 46)))), rfl⟩
set_option maxRecDepth 20000 in
theorem qcw_47 : qCw 47 ∈ qW := List.mem_filter.mpr ⟨List.mem_append_right _ (List.mem_append_right _ (List.mem_append_right _ (List.mem_append_left _ (List.mem_of_getElem? (i := 30) (rfl : tables_1_3[30]? = some (qCw 47)))))), rfl⟩
set_option maxRecDepth 20000 in
theorem qcw_48 : qCw 48 ∈ qW := List.mem_filter.mpr ⟨List.mem_append_right _ (List.mem_append_right _ (List.mem_append_right _ (List.mem_append_left _ (List.mem_of_getElem? (i := 34) (rfl : tables_1_3[34]? = some (qCw 48)))))), rfl⟩
set_option maxRecDepth 20000 in
theorem qcw_49 : qCw 49 ∈ qW := List.mem_filter.mpr ⟨List.mem_append_right _ (List.mem_append_right _ (List.mem_append_right _ (List.mem_append_left _ (List.mem_of_getElem? (i := 45) (rfl : tables_1_3[45]? = some (qCw 49)))))), rfl⟩
set_option maxRecDepth 20000 in
theorem qcw_50 : qCw 50 ∈ qW := List.mem_filter.mpr ⟨List.mem_append_right _ (List.mem_append_right _ (List.mem_append_right _ (List.mem_append_left _ (List.mem_of_getElem? (i := 53) (rfl : tables_1_3[53]? = some (qCw 50)))))), rfl⟩
set_option maxRecDepth 20000 in
theorem qcw_51 : qCw 51 ∈ qW := List.mem_filter.mpr ⟨List.mem_append_right _ (List.mem_append_right _ (List.mem_append_right _ (List.mem_append_left _ (List.mem_of_getElem? (i := 57) (rfl : tables_1_3[57]? = some (qCw 51)))))), rfl⟩
set_option maxRecDepth 20000 in
theorem qcw_52 : qCw 52 ∈ qW := List.mem_filter.mpr ⟨List.mem_append_right _ (List.mem_append_right _ (List.mem_append_right _ (List.mem_append_left _ (List.mem_of_getElem? (i := 77) (rfl : tables_1_3[77]? = some (qCw 52)))))), rfl⟩
set_option maxRecDepth 20000 in
theorem qcw_53 : qCw 53 ∈ qW := List.mem_filter.mpr ⟨List.mem_append_right _ (List.mem_append_right _ (List.mem_append_right _ (List.mem_append_left _ (List.mem_of_getElem? (i := 65) (rfl : tables_1_3[65]? = some (qCw 53)))))), rfl⟩
set_option maxRecDepth 20000 in
theorem qcw_54 : qCw 54 ∈ qW := List.mem_filter.mpr ⟨List.mem_append_right _ (List.mem_append_right _ (List.mem_append_right _ (List.mem_append_left _ (List.mem_of_getElem? (i := 81) (rfl : tables_1_3[81]? = some (qCw 54)))))), rfl⟩
set_option maxRecDepth 20000 in
theorem qcw_55 : qCw 55 ∈ qW := List.mem_filter.mpr ⟨List.mem_append_right _ (List.mem_append_right _ (List.mem_append_right _ (List.mem_append_left _ (List.mem_of_getElem? (i := 69) (rfl : tables_1_3[69]? = some (qCw 55)))))), rfl⟩
set_option maxRecDepth 20000 in
theorem qcw_56 : qCw 56 ∈ qW := List.mem_filter.mpr ⟨List.mem_append_right _ (List.mem_append_right _ (List.mem_append_right _ (List.mem_append_left _ (List.mem_of_getElem? (i := 73) (rfl : tables_1_3[73]? = some (qCw 56)))))), rfl⟩
set_option maxRecDepth 20000 in
theorem qcw_57 : qCw 57 ∈ qW := List.mem_filter.mpr ⟨List.mem_append_right _ (List.mem_append_right _ (List.mem_append_right _ (List.mem_append_left _ (List.mem_of_getElem? (i := 61) (rfl : tables_1_3[61]? = some (qCw 57)))))), rfl⟩
set_option maxRecDepth 20000 in
theorem qcw_58 : qCw 58 ∈ qW := List.mem_filter.mpr ⟨List.mem_append_right _ (List.mem_append_left _ (List.mem_of_getElem? (i := 33) (rfl : tables_1_1[33]? = some (qCw 58)))), rfl⟩
set_option maxRecDepth 20000 in
theorem qcw_59 : qCw 59 ∈ qW := List.mem_filter.mpr ⟨List.mem_append_right _ (List.mem_append_right _ (List.mem_append_left _ (List.mem_of_getElem? (i := 28) (rfl : tables_1_2[28]? = some (qCw 59))))), rfl⟩
set_option maxRecDepth 20000 in
theorem qcw_60 : qCw 60 ∈ qW := List.mem_filter.mpr ⟨List.mem_append_right _ (List.mem_append_right _ (List.mem_append_left _ (List.mem_of_getElem? (i := 141) (rfl : tables_1_2[141]? = some (qCw 60))))), rfl⟩
set_option maxRecDepth 20000 in
theorem qcw_61 : qCw 61 ∈ qW := List.mem_filter.mpr ⟨List.mem_append_right _ (List.mem_append_right _ (List.mem_append_left _ (List.mem_of_getElem? (i := 108) (rfl : tables_1_2[108]? = some (qCw 61))))), rfl⟩
set_option maxRecDepth 20000 in
theorem qcw_62 : qCw 62 ∈ qW := List.mem_filter.mpr ⟨List.mem_append_right _ (List.mem_append_right _ (List.mem_append_left _ (List.mem_of_getElem? (i := 153) (rfl : tables_1_2[153]? = some (qCw 62))))), rfl⟩
set_option maxRecDepth 20000 in
theorem qcw_63 : qCw 63 ∈ qW := List.mem_filter.mpr ⟨List.mem_append_right _ (List.mem_append_left _ (List.mem_of_getElem? (i := 15) (rfl : tables_1_1[15]? = some (qCw 63)))), rfl⟩
set_option maxRecDepth 20000 in
theorem qcw_64 : qCw 64 ∈ qW := List.mem_filter.mpr ⟨List.mem_append_right _ (List.mem_append_right _ (List.mem_append_left _ (List.mem_of_getElem? (i := 1) (rfl : tables_1_2[1]? = some (qCw 64))))), rfl⟩
set_option maxRecDepth 20000 in
theorem qcw_65 : qCw 65 ∈ qW := List.mem_filter.mpr ⟨List.mem_append_right _ (List.mem_append_right _ (List.mem_append_left _ (List.mem_of_getElem? (i := 50) (rfl : tables_1_2[50]? = some (qCw 65))))), rfl⟩
set_option maxRecDepth 20000 in
theorem qcw_66 : qCw 66 ∈ qW := List.mem_filter.mpr ⟨List.mem_append_right _ (List.mem_append_right _ (List.mem_append_left _ (List.mem_of_getElem? (i := 62) (rfl : tables_1_2[62]? = some (qCw 66))))), rfl⟩
set_option maxRecDepth 20000 in
theorem qcw_67 : qCw 67 ∈ qW := List.mem_filter.mpr ⟨List.mem_append_right _ (List.mem_append_right _ (List.mem_append_left _ (List.mem_of_getElem? (i := 74) (rfl : tables_1_2[74]? = some (qCw 67))))), rfl⟩
set_option maxRecDepth 20000 in
theorem qcw_68 : qCw 68 ∈ qW := List.mem_filter.mpr ⟨List.mem_append_right _ (List.mem_append_right _ (List.mem_append_left _ (List.mem_of_getElem? (i := 42) (rfl : tables_1_2[42]? = some (qCw 68))))), rfl⟩
set_option maxRecDepth 20000 in
theorem qcw_69 : qCw 69 ∈ qW := List.mem_filter.mpr ⟨List.mem_append_right _ (List.mem_append_right _ (List.mem_append_left _ (List.mem_of_getElem? (i := 186) (rfl : tables_1_2[186]? = some (qCw 69))))), rfl⟩
set_option maxRecDepth 20000 in
theorem qcw_70 : qCw 70 ∈ qW := List.mem_filter.mpr ⟨List.mem_append_right _ (List.mem_append_right _ (List.mem_append_left _ (List.mem_of_getElem? (i := 195) (rfl : tables_1_2[195]? = some (qCw 70))))), rfl⟩
set_option maxRecDepth 20000 in
theorem qcw_71 : qCw 71 ∈ qW := List.mem_filter.mpr ⟨List.mem_append_right _ (List.mem_append_right _ (List.mem_append_left _ (List.mem_of_getElem? (i := 204) (rfl : tables_1_2[204]? = some (qCw 71))))), rfl⟩
set_option maxRecDepth 20000 in
theorem qcw_72 : qCw 72 ∈ qW := List.mem_filter.mpr ⟨List.mem_append_right _ (List.mem_append_right _ (List.mem_append_left _ (List.mem_of_getElem? (i := 214) (rfl : tables_1_2[214]? = some (qCw 72))))), rfl⟩
set_option maxRecDepth 20000 in
theorem qcw_73 : qCw 73 ∈ qW := List.mem_filter.mpr ⟨List.mem_append_right _ (List.mem_append_right _ (List.mem_append_left _ (List.mem_of_getElem? (i := 218) (rfl : tables_1_2[218]? = some (qCw 73))))), rfl⟩
set_option maxRecDepth 20000 in
theorem qcw_74 : qCw 74 ∈ qW := List.mem_filter.mpr ⟨List.mem_append_right _ (List.mem_append_right _ (List.mem_append_left _ (List.mem_of_getElem? (i := 227) (rfl : tables_1_2[227]? = some (qCw 74))))), rfl⟩
set_option maxRecDepth 20000 in
theorem qcw_75 : qCw 75 ∈ qW := List.mem_filter.mpr ⟨List.mem_append_right _ (List.mem_append_right _ (List.mem_append_left _ (List.mem_of_getElem? (i := 232) (rfl : tables_1_2[232]? = some (qCw 75))))), rfl⟩
set_option maxRecDepth 20000 in
theorem qcw_76 : qCw 76 ∈ qW := List.mem_filter.mpr ⟨List.mem_append_right _ (List.mem_append_right _ (List.mem_append_right _ (List.mem_append_left _ (List.mem_of_getElem? (i := 9) (rfl : tables_1_3[9]? = some (qCw 76)))))), rfl⟩
set_option maxRecDepth 20000 in
theorem qcw_77 : qCw 77 ∈ qW := List.mem_filter.mpr ⟨List.mem_append_right _ (List.mem_append_right _ (List.mem_append_right _ (List.mem_append_left _ (List.mem_of_getElem? (i := 20) (rfl : tables_1_3[20]? = some (qCw 77)))))), rfl⟩
set_option maxRecDepth 20000 in
theorem qcw_78 : qCw 78 ∈ qW := List.mem_filter.mpr ⟨List.mem_append_right _ (List.mem_append_right _ (List.mem_append_right _ (List.mem_append_left _ (List.mem_of_getElem? (i := 26) (rfl : tables_1_3[26]? = some (qCw 78)))))), rfl⟩
set_option maxRecDepth 20000 in
theorem qcw_79 : qCw 79 ∈ qW := List.mem_filter.mpr ⟨List.mem_append_right _ (List.mem_append_right _ (List.mem_append_right _ (List.mem_append_left _ (List.mem_of_getElem? (i := 41) (rfl : tables_1_3[41]? = some (qCw 79)))))), rfl⟩
set_option maxRecDepth 20000 in
theorem qcw_80 : qCw 80 ∈ qW := List.mem_filter.mpr ⟨List.mem_append_right _ (List.mem_append_right _ (List.mem_append_right _ (List.mem_append_left _ (List.mem_of_getElem? (i := 49) (rfl : tables_1_3[49]? = some (qCw 80)))))), rfl⟩
set_option maxRecDepth 20000 in
theorem qcw_81 : qCw 81 ∈ qW := List.mem_filter.mpr ⟨List.mem_append_right _ (List.mem_append_right _ (List.mem_append_right _ (List.mem_append_left _ (List.mem_of_getElem? (i := 85) (rfl : tables_1_3[85]? = some (qCw 81)))))), rfl⟩
set_option maxRecDepth 20000 in
theorem qcw_82 : qCw 82 ∈ qW := List.mem_filter.mpr ⟨List.mem_append_right _ (List.mem_append_right _ (List.mem_append_right _ (List.mem_append_left _ (List.mem_of_getElem? (i := 90) (rfl : tables_1_3[90]? = some (qCw 82)))))), rfl⟩
set_option maxRecDepth 20000 in
theorem qcw_83 : qCw 83 ∈ qW := List.mem_filter.mpr ⟨List.mem_append_right _ (List.mem_append_right _ (List.mem_append_right _ (List.mem_append_left _ (List.mem_of_getElem? (i := 95) (rfl : tables_1_3[95]? = some (qCw 83)))))), rfl⟩
set_option maxRecDepth 20000 in
theorem qcw_84 : qCw 84 ∈ qW := List.mem_filter.mpr ⟨List.mem_append_right _ (List.mem_append_right _ (List.mem_append_right _ (List.mem_append_left _ (List.mem_of_getElem? (i := 103) (rfl : tables_1_3[103]? = some (qCw 84)))))), rfl⟩
set_option maxRecDepth 20000 in
theorem qcw_85 : qCw 85 ∈ qW := List.mem_filter.mpr ⟨List.mem_append_right _ (List.mem_append_right _ (List.mem_append_right _ (List.mem_append_left _ (List.mem_of_getElem? (i := 107) (rfl : tables_1_3[107]? = some (qCw 85)))))), rfl⟩
set_option maxRecDepth 20000 in
theorem qcw_86 : qCw 86 ∈ qW := List.mem_filter.mpr ⟨List.mem_append_right _ (List.mem_append_right _ (List.mem_append_right _ (List.mem_append_left _ (List.mem_of_getElem? (i := 112) (rfl : tables_1_3[112]? = some (qCw 86)))))), rfl⟩
set_option maxRecDepth 20000 in
theorem qcw_87 : qCw 87 ∈ qW := List.mem_filter.mpr ⟨List.mem_append_right _ (List.mem_append_right _ (List.mem_append_right _ (List.mem_append_left _ (List.mem_of_getElem? (i := 161) (rfl : tables_1_3[161]? = some (qCw 87)))))), rfl⟩
set_option maxRecDepth 20000 in
theorem qcw_88 : qCw 88 ∈ qW := List.mem_filter.mpr ⟨List.mem_append_right _ (List.mem_append_right _ (List.mem_append_right _ (List.mem_append_left _ (List.mem_of_getElem? (i := 233) (rfl : tables_1_3[233]? = some (qCw 88)))))), rfl⟩
set_option maxRecDepth 20000 in
theorem qcw_89 : qCw 89 ∈ qW := List.mem_filter.mpr ⟨List.mem_append_right _ (List.mem_append_right _ (List.mem_append_right _ (List.mem_append_left _ (List.mem_of_getElem? (i := 213) (rfl : tables_1_3[213]? = some (qCw 89)))))), rfl⟩
set_option maxRecDepth 20000 in
theorem qcw_90 : qCw 90 ∈ qW := List.mem_filter.mpr ⟨List.mem_append_right _ (List.mem_append_right _ (List.mem_append_right _ (List.mem_append_left _ (List.mem_of_getElem? (i := 206) (rfl : tables_1_3[206]? = some (qCw 90)))))), rfl⟩
set_option maxRecDepth 20000 in
theorem qcw_91 : qCw 91 ∈ qW := List.mem_filter.mpr ⟨List.mem_append_right _ (List.mem_append_right _ (List.mem_append_right _ (List.mem_append_left _ (List.mem_of_getElem? (i := 191) (rfl : tables_1_3[191]? = some (qCw 91)))))), rfl⟩
set_option maxRecDepth 20000 in
theorem qcw_92 : qCw 92 ∈ qW := List.mem_filter.mpr ⟨List.mem_append_right _ (List.mem_append_right _ (List.mem_append_right _ (List.mem_append_right _ (List.mem_of_getElem? (i := 31) (rfl : tables_1_4[31]? = some (qCw 92)))))), rfl⟩
set_option maxRecDepth 20000 in
theorem qcw_93 : qCw 93 ∈ qW := List.mem_filter.mpr ⟨List.mem_append_right _ (List.mem_append_right _ (List.mem_append_right _ (List.mem_append_left _ (List.mem_of_getElem? (i := 154) (rfl : tables_1_3[154]? = some (qCw 93)))))), rfl⟩
set_option maxRecDepth 20000 in
theorem qcw_94 : qCw 94 ∈ qW := List.mem_filter.mpr ⟨List.mem_append_right _ (List.mem_append_right _ (List.mem_append_right _ (List.mem_append_left _ (List.mem_of_getElem? (i := 169) (rfl : tables_1_3[169]? = some (qCw 94)))))), rfl⟩
set_option maxRecDepth 20000 in
theorem qcw_95 : qCw 95 ∈ qW := List.mem_filter.mpr ⟨List.mem_append_right _ (List.mem_append_right _ (List.mem_append_right _ (List.mem_append_left _ (List.mem_of_getElem? (i := 151) (rfl : tables_1_3[151]? = some (qCw 95)))))), rfl⟩
set_option maxRecDepth 20000 in
theorem qcw_96 : qCw 96 ∈ qW := List.mem_filter.mpr ⟨List.mem_append_right _ (List.mem_append_right _ (List.mem_append_right _ (List.mem_append_left _ (List.mem_of_getElem? (i := 158) (rfl : tables_1_3[158]? = some (qCw 96)))))), rfl⟩
set_option maxRecDepth 20000 in
theorem qcw_97 : qCw 97 ∈ qW := List.mem_filter.mpr ⟨List.mem_append_right _ (List.mem_append_right _ (List.mem_append_right _ (List.mem_append_left _ (List.mem_of_getElem? (i := 165) (rfl : tables_1_3[165]? = some (qCw 97)))))), rfl⟩
set_option maxRecDepth 20000 in
theorem qcw_98 : qCw 98 ∈ qW := List.mem_filter.mpr ⟨List.mem_append_right _ (List.mem_append_right _ (List.mem_append_right _ (List.mem_append_left _ (List.mem_of_getElem? (i := 236) (rfl : tables_1_3[236]? = some (qCw 98)))))), rfl⟩
set_option maxRecDepth 20000 in
theorem qcw_99 : qCw 99 ∈ qW := List.mem_filter.mpr ⟨List.mem_append_right _ (List.mem_append_right _ (List.mem_append_right _ (List.mem_append_left _ (List.mem_of_getElem? (i := 239) (rfl : tables_1_3[239]? = some (qCw 99)))))), rfl⟩
set_option maxRecDepth 20000 in
theorem qcw_100 : qCw 100 ∈ qW := List.mem_filter.mpr ⟨List.mem_append_right _ (List.mem_append_right _ (List.mem_append_right _ (List.mem_append_left _ (List.mem_of_getElem? (i := 230) (rfl : tables_1_3[230]? = some (qCw 100)))))), rfl⟩
set_option maxRecDepth 20000 in
theorem qcw_101 : qCw 101 ∈ qW := List.mem_filter.mpr ⟨List.mem_append_right _ (List.mem_append_right _ (List.mem_append_right _ (List.mem_append_right _ (List.mem_of_getElem? (i := 2) (rfl : tables_1_4[2]? = some (qCw 101)))))), rfl⟩
set_option maxRecDepth 20000 in
theorem qcw_102 : qCw 102 ∈ qW := List.mem_filter.mpr ⟨List.mem_append_right _ (List.mem_append_right _ (List.mem_append_right _ (List.mem_append_right _ (List.mem_of_getElem? (i := 20) (rfl : tables_1_4[20]? = some (qCw 102)))))), rfl⟩
set_option maxRecDepth 20000 in
theorem qcw_103 : qCw 103 ∈ qW := List.mem_filter.mpr ⟨List.mem_append_right _ (List.mem_append_right _ (List.mem_append_right _ (List.mem_append_right _ (List.mem_of_getElem? (i := 8) (rfl : tables_1_4[8]? = some (qCw 103)))))), rfl⟩
set_option maxRecDepth 20000 in
theorem qcw_104 : qCw 104 ∈ qW := List.mem_filter.mpr ⟨List.mem_append_right _ (List.mem_append_right _ (List.mem_append_right _ (List.mem_append_right _ (List.mem_of_getElem? (i := 14) (rfl : tables_1_4[14]? = some (qCw 104)))))), rfl⟩
set_option maxRecDepth 20000 in
theorem qcw_105 : qCw 105 ∈ qW := List.mem_filter.mpr ⟨List.mem_append_right _ (List.mem_append_right _ (List.mem_append_right _ (List.mem_append_right _ (List.mem_of_getElem? (i := 17) (rfl : tables_1_4[17]? = some (qCw 105)))))), rfl⟩
set_option maxRecDepth 20000 in
theorem qcw_106 : qCw 106 ∈ qW := List.mem_filter.mpr ⟨List.mem_append_right _ (List.mem_append_right _ (List.mem_append_right _ (List.mem_append_right _ (List.mem_of_getElem? (i := 11) (rfl : tables_1_4[11]? = some (qCw 106)))))), rfl⟩
set_option maxRecDepth 20000 in
theorem qcw_107 : qCw 107 ∈ qW := List.mem_filter.mpr ⟨List.mem_append_right _ (List.mem_append_right _ (List.mem_append_right _ (List.mem_append_right _ (List.mem_of_getElem? (i := 5) (rfl : tables_1_4[5]? = some (qCw 107)))))), rfl⟩
set_option maxRecDepth 20000 in
theorem qcw_108 : qCw 108 ∈ qW := List.mem_filter.mpr ⟨List.mem_append_right _ (List.mem_append_right _ (List.mem_append_right _ (List.mem_append_right _ (List.mem_of_getElem? (i := 23) (rfl : tables_1_4[23]? = some (qCw 108)))))), rfl⟩
set_option maxRecDepth 20000 in
theorem qcw_109 : qCw 109 ∈ qW := List.mem_filter.mpr ⟨List.mem_append_right _ (List.mem_append_right _ (List.mem_append_right _ (List.mem_append_left _ (List.mem_of_getElem? (i := 227) (rfl : tables_1_3[227]? = some (qCw 109)))))), rfl⟩
set_option maxRecDepth 20000 in
theorem qcw_110 : qCw 110 ∈ qW := List.mem_filter.mpr ⟨List.mem_append_right _ (List.mem_append_right _ (List.mem_append_right _ (List.mem_append_left _ (List.mem_of_getElem? (i := 224) (rfl : tables_1_3[224]? = some (qCw 110)))))), rfl⟩
set_option maxRecDepth 20000 in
theorem qcw_111 : qCw 111 ∈ qW := List.mem_filter.mpr ⟨List.mem_append_right _ (List.mem_append_right _ (List.mem_append_right _ (List.mem_append_left _ (List.mem_of_getElem? (i := 176) (rfl : tables_1_3[176]? = some (qCw 111)))))), rfl⟩
set_option maxRecDepth 20000 in
theorem qcw_112 : qCw 112 ∈ qW := List.mem_filter.mpr ⟨List.mem_append_right _ (List.mem_append_right _ (List.mem_append_right _ (List.mem_append_left _ (List.mem_of_getElem? (i := 180) (rfl : tables_1_3[180]? = some (qCw 112)))))), rfl⟩
set_option maxRecDepth 20000 in
theorem qcw_113 : qCw 113 ∈ qW := List.mem_filter.mpr ⟨List.mem_append_right _ (List.mem_append_right _ (List.mem_append_right _ (List.mem_append_left _ (List.mem_of_getElem? (i := 173) (rfl : tables_1_3[173]? = some (qCw 113)))))), rfl⟩
set_option maxRecDepth 20000 in
theorem qcw_114 : qCw 114 ∈ qW := List.mem_filter.mpr ⟨List.mem_append_right _ (List.mem_append_right _ (List.mem_append_right _ (List.mem_append_left _ (List.mem_of_getElem? (i := 195) (rfl : tables_1_3[195]? = some (qCw 114)))))), rfl⟩
set_option maxRecDepth 20000 in
theorem qcw_115 : qCw 115 ∈ qW := List.mem_filter.mpr ⟨List.mem_append_right _ (List.mem_append_right _ (List.mem_append_right _ (List.mem_append_left _ (List.mem_of_getElem? (i := 188) (rfl : tables_1_3[188]? = some (qCw 115)))))), rfl⟩
set_option maxRecDepth 20000 in
theorem qcw_116 : qCw 116 ∈ qW := List.mem_filter.mpr ⟨List.mem_append_right _ (List.mem_append_right _ (List.mem_append_right _ (List.mem_append_left _ (List.mem_of_getElem? (i := 184) (rfl : tables_1_3[184]? = some (qCw 116)))))), rfl⟩
set_option maxRecDepth 20000 in
theorem qcw_117 : qCw 117 ∈ qW := List.mem_filter.mpr ⟨List.mem_append_right _ (List.mem_append_right _ (List.mem_append_right _ (List.mem_append_left _ (List.mem_of_getElem? (i := 203) (rfl : tables_1_3[203]? = some (qCw 117)))))), rfl⟩
set_option maxRecDepth 20000 in
theorem qcw_118 : qCw 118 ∈ qW := List.mem_filter.mpr ⟨List.mem_append_right _ (List.mem_append_right _ (List.mem_append_right _ (List.mem_append_left _ (List.mem_of_getElem? (i := 210) (rfl : tables_1_3[210]? = some (qCw 118)))))), rfl⟩
set_option maxRecDepth 20000 in
theorem qcw_119 : qCw 119 ∈ qW := List.mem_filter.mpr ⟨List.mem_append_right _ (List.mem_append_right _ (List.mem_append_right _ (List.mem_append_left _ (List.mem_of_getElem? (i := 199) (rfl : tables_1_3[199]? = some (qCw 119)))))), rfl⟩
set_option maxRecDepth 20000 in
theorem qcw_120 : qCw 120 ∈ qW := List.mem_filter.mpr ⟨List.mem_append_right _ (List.mem_append_right _ (List.mem_append_right _ (List.mem_append_left _ (List.mem_of_getElem? (i := 221) (rfl : tables_1_3[221]? = some (qCw 120)))))), rfl⟩
set_option maxRecDepth 20000 in
theorem qcw_121 : qCw 121 ∈ qW := List.mem_filter.mpr ⟨List.mem_append_right _ (List.mem_append_right _ (List.mem_append_right _ (List.mem_append_left _ (List.mem_of_getElem? (i := 217) (rfl : tables_1_3[217]? = some (qCw 121)))))), rfl⟩
set_option maxRecDepth 20000 in
theorem qcw_122 : qCw 122 ∈ qW := List.mem_filter.mpr ⟨List.mem_append_right _ (List.mem_append_right _ (List.mem_append_right _ (List.mem_append_right _ (List.mem_of_getElem? (i := 27) (rfl : tables_1_4[27]? = some (qCw 122)))))), rfl⟩
set_option maxRecDepth 20000 in
theorem qcw_123 : qCw 123 ∈ qW := List.mem_filter.mpr ⟨List.mem_append_right _ (List.mem_append_right _ (List.mem_append_right _ (List.mem_append_right _ (List.mem_of_getElem? (i := 35) (rfl : tables_1_4[35]? = some (qCw 123)))))), rfl⟩
set_option maxRecDepth 20000 in
theorem qcw_124 : qCw 124 ∈ qW := List.mem_filter.mpr ⟨List.mem_append_right _ (List.mem_append_right _ (List.mem_append_right _ (List.mem_append_right _ (List.mem_of_getElem? (i := 43) (rfl : tables_1_4[43]? = some (qCw 124)))))), rfl⟩
set_option maxRecDepth 20000 in
theorem qcw_125 : qCw 125 ∈ qW := List.mem_filter.mpr ⟨List.mem_append_right _ (List.mem_append_right _ (List.mem_append_right _ (List.mem_append_right _ (List.mem_of_getElem? (i := 39) (rfl : tables_1_4[39]? = some (qCw 125)))))), rfl⟩
set_option maxRecDepth 20000 in
theorem qcw_126 : qCw 126 ∈ qW := List.mem_filter.mpr ⟨List.mem_append_right _ (List.mem_append_right _ (List.mem_append_right _ (List.mem_append_right _ (List.mem_of_getElem? (i := 47) (rfl : tables_1_4[47]? = some (qCw 126)))))), rfl⟩
set_option maxRecDepth 20000 in
theorem qcw_127 : qCw 127 ∈ qW := List.mem_filter.mpr ⟨List.mem_append_right _ (List.mem_append_right _ (List.mem_append_right _ (List.mem_append_right _ (List.mem_of_getElem? (i := 51) (rfl : tables_1_4[51]? = some (qCw 127)))))), rfl⟩
set_option maxRecDepth 20000 in
theorem qcw_128 : qCw 128 ∈ qW := List.mem_filter.mpr ⟨List.mem_append_right _ (List.mem_append_right _ (List.mem_append_right _ (List.mem_append_right _ (List.mem_of_getElem? (i := 56) (rfl : tables_1_4[56]? = some (qCw 128)))))), rfl⟩
set_option maxRecDepth 20000 in
theorem qcw_129 : qCw 129 ∈ qW := List.mem_filter.mpr ⟨List.mem_append_right _ (List.mem_append_right _ (List.mem_append_right _ (List.mem_append_right _ (List.mem_of_getElem? (i := 63) (rfl : tables_1_4[63]? = some (qCw 129)))))), rfl⟩
set_option maxRecDepth 20000 in
theorem qcw_130 : qCw 130 ∈ qW := List.mem_filter.mpr ⟨List.mem_append_right _ (List.mem_append_right _ (List.mem_append_right _ (List.mem_append_right _ (List.mem_of_getElem? (i := 60) (rfl : tables_1_4[60]? = some (qCw 130)))))), rfl⟩
set_option maxRecDepth 20000 in
theorem qcw_131 : qCw 131 ∈ qW := List.mem_filter.mpr ⟨List.mem_append_right _ (List.mem_append_right _ (List.mem_append_right _ (List.mem_append_right _ (List.mem_of_getElem? (i := 71) (rfl : tables_1_4[71]? = some (qCw 131)))))), rfl⟩
set_option maxRecDepth 20000 in
theorem qcw_132 : qCw 132 ∈ qW := List.mem_filter.mpr ⟨List.mem_append_right _ (List.mem_append_right _ (List.mem_append_right _ (List.mem_append_right _ (List.mem_of_getElem? (i := 67) (rfl : tables_1_4[67]? = some (qCw 132)))))), rfl⟩
set_option maxRecDepth 20000 in
theorem qcw_133 : qCw 133 ∈ qW := List.mem_filter.mpr ⟨List.mem_append_right _ (List.mem_append_right _ (List.mem_append_right _ (List.mem_append_right _ (List.mem_of_getElem? (i := 75) (rfl : tables_1_4[75]? = some (qCw 133)))))), rfl⟩
set_option maxRecDepth 20000 in
theorem qcw_134 : qCw 134 ∈ qW := List.mem_filter.mpr ⟨List.mem_append_right _ (List.mem_append_right _ (List.mem_append_right _ (List.mem_append_right _ (List.mem_of_getElem? (i := 85) (rfl : tables_1_4[85]? = some (qCw 134)))))), rfl⟩
set_option maxRecDepth 20000 in
theorem qcw_135 : qCw 135 ∈ qW := List.mem_filter.mpr ⟨List.mem_append_right _ (List.mem_append_right _ (List.mem_append_right _ (List.mem_append_right _ (List.mem_of_getElem? (i := 82) (rfl : tables_1_4[82]? = some (qCw 135)))))), rfl⟩
set_option maxRecDepth 20000 in
theorem qcw_136 : qCw 136 ∈ qW := List.mem_filter.mpr ⟨List.mem_append_right _ (List.mem_append_right _ (List.mem_append_right _ (List.mem_append_right _ (List.mem_of_getElem? (i := 79) (rfl : tables_1_4[79]? = some (qCw 136)))))), rfl⟩
set_option maxRecDepth 20000 in
theorem qcw_137 : qCw 137 ∈ qW := List.mem_filter.mpr ⟨List.mem_append_right _ (List.mem_append_right _ (List.mem_append_right _ (List.mem_append_right _ (List.mem_of_getElem? (i := 90) (rfl : tables_1_4[90]? = some (qCw 137)))))), rfl⟩
set_option maxRecDepth 20000 in
theorem qcw_138 : qCw 138 ∈ qW := List.mem_filter.mpr ⟨List.mem_append_right _ (List.mem_append_right _ (List.mem_append_right _ (List.mem_append_right _ (List.mem_of_getElem? (i := 110) (rfl : tables_1_4[110]? = some (qCw 138)))))), rfl⟩
set_option maxRecDepth 20000 in
theorem qcw_139 : qCw 139 ∈ qW := List.mem_filter.mpr ⟨List.mem_append_right _ (List.mem_append_right _ (List.mem_append_right _ (List.mem_append_right _ (List.mem_of_getElem? (i := 114) (rfl : tables_1_4[114]? = some (qCw 139)))))), rfl⟩
set_option maxRecDepth 20000 in
theorem qcw_140 : qCw 140 ∈ qW := List.mem_filter.mpr ⟨List.mem_append_right _ (List.mem_append_right _ (List.mem_append_right _ (List.mem_append_right _ (List.mem_of_getElem? (i := 106) (rfl : tables_1_4[106]? = some (qCw 140)))))), rfl⟩
set_option maxRecDepth 20000 in
theorem qcw_141 : qCw 141 ∈ qW := List.mem_filter.mpr ⟨List.mem_append_right _ (List.mem_append_right _ (List.mem_append_right _ (List.mem_append_right _ (List.mem_of_getElem? (i := 118) (rfl : tables_1_4[118]? = some (qCw 141)))))), rfl⟩
set_option maxRecDepth 20000 in
theorem qcw_142 : qCw 142 ∈ qW := List.mem_filter.mpr ⟨List.mem_append_right _ (List.mem_append_right _ (List.mem_append_right _ (List.mem_append_right _ (List.mem_of_getElem? (i := 102) (rfl : tables_1_4[102]? = some (qCw 142)))))), rfl⟩
set_option maxRecDepth 20000 in
theorem qcw_143 : qCw 143 ∈ qW := List.mem_filter.mpr ⟨List.mem_append_right _ (List.mem_append_right _ (List.mem_append_right _ (List.mem_append_right _ (List.mem_of_getElem? (i := 98) (rfl : tables_1_4[98]? = some (qCw 143)))))), rfl⟩
set_option maxRecDepth 20000 in
theorem qcw_144 : qCw 144 ∈ qW := List.mem_filter.mpr ⟨List.mem_append_right _ (List.mem_append_right _ (List.mem_append_right _ (List.mem_append_right _ (List.mem_of_getElem? (i := 94) (rfl : tables_1_4[94]? = some (qCw 144)))))), rfl⟩
set_option maxRecDepth 20000 in
theorem qcw_145 : qCw 145 ∈ qW := List.mem_filter.mpr ⟨List.mem_append_right _ (List.mem_append_right _ (List.mem_append_right _ (List.mem_append_right _ (List.mem_of_getElem? (i := 130) (rfl : tables_1_4[130]? = some (qCw 145)))))), rfl⟩
set_option maxRecDepth 20000 in
theorem qcw_146 : qCw 146 ∈ qW := List.mem_filter.mpr ⟨List.mem_append_right _ (List.mem_append_right _ (List.mem_append_right _ (List.mem_append_right _ (List.mem_of_getElem? (i := 126) (rfl : tables_1_4[126]? = some (qCw 146)))))), rfl⟩
set_option maxRecDepth 20000 in
theorem qcw_147 : qCw 147 ∈ qW := List.mem_filter.mpr ⟨List.mem_append_right _ (List.mem_append_right _ (List.mem_append_right _ (List.mem_append_right _ (List.mem_of_getElem? (i := 122) (rfl : tables_1_4[122]? = some (qCw 147)))))), rfl⟩
theorem q_cw : ∀ z, z < 148 → qCw z ∈ qW := by
  refine lt_s ?_ qcw_147
  refine lt_s ?_ qcw_146
  refine lt_s ?_ qcw_145
  refine lt_s ?_ qcw_144
  refine lt_s ?_ qcw_143
  refine lt_s ?_ qcw_142
  refine lt_s ?_ qcw_141
  refine lt_s ?_ qcw_140
  refine lt_s ?_ qcw_139
  refine lt_s ?_ qcw_138
  refine lt_s ?_ qcw_137
  refine lt_s ?_ qcw_136
  refine lt_s ?_ qcw_135
  refine lt_s ?_ qcw_134
  refine lt_s ?_ qcw_133
  refine lt_s ?_ qcw_132
  refine lt_s ?_ qcw_131
  refine lt_s ?_ qcw_130
  refine lt_s ?_ qcw_129
  refine lt_s ?_ qcw_128
  refine lt_s ?_ qcw_127
  refine lt_s ?_ qcw_126
  refine lt_s ?_ qcw_125
  refine lt_s ?_ qcw_124
  refine lt_s ?_ qcw_123
  refine lt_s ?_ qcw_122
  refine lt_s ?_ qcw_121
  refine lt_s ?_ qcw_120
  refine lt_s ?_ qcw_119
  refine lt_s ?_ qcw_118
  refine lt_s ?_ qcw_117
  refine lt_s ?_ qcw_116
  refine lt_s ?_ qcw_115
  refine lt_s ?_ qcw_114
  refine lt_s ?_ qcw_113
  refine lt_s ?_ qcw_112
  refine lt_s ?_ qcw_111
  refine lt_s ?_ qcw_110
  refine lt_s ?_ qcw_109
  refine lt_s ?_ qcw_108
  refine lt_s ?_ qcw_107
  refine lt_s ?_ qcw_106
  refine lt_s ?_ qcw_105
  refine lt_s ?_ qcw_104
  refine lt_s ?_ qcw_103
  refine lt_s ?_ qcw_102
  refine lt_s ?_ qcw_101
  refine lt_s ?_ qcw_100
  refine lt_s ?_ qcw_99
  refine lt_s ?_ qcw_98
  refine lt_s ?_ qcw_97
  refine lt_s ?_ qcw_96
  refine lt_s ?_ qcw_95
  refine lt_s ?_ qcw_94
  refine lt_s ?_ qcw_93
  refine lt_s ?_ qcw_92
  refine lt_s ?_ qcw_91
  refine lt_s ?_ qcw_90
  refine lt_s ?_ qcw_89
  refine lt_s ?_ qcw_88
  refine lt_s ?_ qcw_87
  refine lt_s ?_ qcw_86
  refine lt_s ?_ qcw_85
  refine lt_s ?_ qcw_84
  refine lt_s ?_ qcw_83
  refine lt_s ?_ qcw_82
  refine lt_s ?_ qcw_81
  refine lt_s ?_ qcw_80
  refine lt_s ?_ qcw_79
  refine lt_s ?_ qcw_78
  refine lt_s ?_ qcw_77
  refine lt_s ?_ qcw_76
  refine lt_s ?_ qcw_75
  refine lt_s ?_ qcw_74
  refine lt_s ?_ qcw_73
  refine lt_s ?_ qcw_72
  refine lt_s ?_ qcw_71
  refine lt_s ?_ qcw_70
  refine lt_s ?_ qcw_69
  refine lt_s ?_ qcw_68
  refine lt_s ?_ qcw_67
  refine lt_s ?_ qcw_66
  refine lt_s ?_ qcw_65
  refine lt_s ?_ qcw_64
  refine lt_s ?_ qcw_63
  refine lt_s ?_ qcw_62
  refine lt_s ?_ qcw_61
  refine lt_s ?_ qcw_60
  refine lt_s ?_ qcw_59
  refine lt_s ?_ qcw_58
  refine lt_s ?_ qcw_57
  refine lt_s ?_ qcw_56
  refine lt_s ?_ qcw_55
  refine lt_s ?_ qcw_54
  refine lt_s ?_ qcw_53
  refine lt_s ?_ qcw_52
  refine lt_s ?_ qcw_51
  refine lt_s ?_ qcw_50
  refine lt_s ?_ qcw_49
  refine lt_s ?_ qcw_48
  refine lt_s ?_ qcw_47
  refine lt_s ?_ qcw_46
  refine lt_s ?_ qcw_45
  refine lt_s ?_ qcw_44
  refine lt_s ?_ qcw_43
  refine lt_s ?_ qcw_42
  refine lt_s ?_ qcw_41
  refine lt_s ?_ qcw_40
  refine lt_s ?_ qcw_39
  refine lt_s ?_ qcw_38
  refine lt_s ?_ qcw_37
  refine lt_s ?_ qcw_36
  refine lt_s ?_ qcw_35
  refine lt_s ?_ qcw_34
  refine lt_s ?_ qcw_33
  refine lt_s ?_ qcw_32
  refine lt_s ?_ qcw_31
  refine lt_s ?_ qcw_30
  refine lt_s ?_ qcw_29
  refine lt_s ?_ qcw_28
  refine lt_s ?_ qcw_27
  refine lt_s ?_ qcw_26
  refine lt_s ?_ qcw_25
  refine lt_s ?_ qcw_24
  refine lt_s ?_ qcw_23
  refine lt_s ?_ qcw_22
  refine lt_s ?_ qcw_21
  refine lt_s ?_ qcw_20
  refine lt_s ?_ qcw_19
  refine lt_s ?_ qcw_18
  refine lt_s ?_ qcw_17
  refine lt_s ?_ qcw_16
  refine lt_s ?_ qcw_15
  refine lt_s ?_ qcw_14
  refine lt_s ?_ qcw_13
  refine lt_s ?_ qcw_12
  refine lt_s ?_ qcw_11
  refine lt_s ?_ qcw_10
  refine lt_s ?_ qcw_9
  refine lt_s ?_ qcw_8
  refine lt_s ?_ qcw_7
  refine lt_s ?_ qcw_6
  refine lt_s ?_ qcw_5
  refine lt_s ?_ qcw_4
  refine lt_s ?_ qcw_3
  refine lt_s ?_ qcw_2
  refine lt_s ?_ qcw_1
  refine lt_s ?_ qcw_0
  exact lt_0
theorem q_mmx : Jvm.Cond.code Lib.Math.max.name Lib.Math.max.code 2 (some .int) ∈ qW ∧ Jvm.Cond.code Lib.Math.min.name Lib.Math.min.code 2 (some .int) ∈ qW := ⟨qAt_in (i := 373) (by decide +kernel), qAt_in (i := 366) (by decide +kernel)⟩
def qIp : List Nat := [91, 349, 299, 470, 524, 399, 395, 407, 453, 461, 63, 292, 313, 333, 345, 357, 338, 424, 383, 391, 488, 502, 521, 516, 533, 362, 369, 376, 380, 404, 413, 417, 437, 442, 446, 450, 458, 208, 284, 325, 618, 289, 136, 303, 479, 428, 228, 549, 554, 564, 572, 576, 596, 585, 601, 589, 593, 581, 73, 307, 420, 387, 432, 55, 280, 329, 341, 353, 322, 465, 474, 483, 493, 497, 506, 511, 528, 539, 545, 560, 568, 604, 610, 614, 622, 626, 632, 681, 753, 733, 726, 711, 791, 674, 689, 670, 677, 684, 756, 759, 750, 762, 780, 768, 774, 777, 771, 765, 783, 747, 744, 696, 700, 692, 715, 708, 703, 723, 730, 718, 741, 736, 786, 794, 803, 798, 806, 810, 815, 823, 819, 831, 826, 834, 845, 842, 838, 849, 870, 874, 866, 878, 862, 858, 853, 890, 886, 881, 372, 365, 0]
def qSp : List Nat := [91, 350, 300, 471, 525, 400, 396, 408, 454, 462, 63, 293, 314, 334, 346, 358, 2, 425, 384, 392, 489, 503, 15, 517, 534, 3, 4, 5, 6, 7, 8, 9, 10, 11, 12, 13, 14, 208, 285, 326, 619, 0, 136, 304, 480, 429, 228, 550, 16, 565, 573, 577, 597, 18, 21, 19, 20, 17, 73, 308, 421, 388, 433, 55, 281, 330, 342, 354, 1, 466, 475, 484, 494, 498, 507, 512, 529, 540, 546, 561, 569, 605, 22, 615, 623, 627, 632, 681, 753, 733, 726, 711, 30, 674, 23, 671, 678, 685, 756, 759, 750, 762, 780, 768, 774, 777, 771, 765, 783, 747, 744, 696, 24, 693, 26, 25, 704, 27, 28, 719, 29, 737, 787, 795, 31, 799, 807, 811, 816, 823, 820, 32, 827, 835, 845, 842, 839, 850, 36, 37, 35, 38, 34, 33, 854, 40, 39, 882, 372, 365, 0]
def qKw (z : Nat) : Jvm.Cond := if qK z = 1 then .static (qY z) else .instanceMethod (qY z)
theorem qIp_ok : (List.range 150).all (fun z => qAt (qIp.getD z 0) (qKw z)) = true := by decide +kernel
theorem q_kw : ∀ z, z < 150 → qKw z ∈ qW := fun z h => qAt_in (List.all_eq_true.mp qIp_ok z (List.mem_range.mpr h))
theorem qSp_ok : (List.range 150).all (fun z => !(qK z == 0) || qAt (qSp.getD z 0) (.selects (qR (qO z)) (qY z) (qY z))) = true := by decide +kernel
theorem q_sel : ∀ z, z < 150 → qK z = 0 → Jvm.Cond.selects (qR (qO z)) (qY z) (qY z) ∈ qW := fun z h hk => by
  have h1 := List.all_eq_true.mp qSp_ok z (List.mem_range.mpr h)
  simp only [hk, BEq.rfl, Bool.not_true, Bool.false_or] at h1
  exact qAt_in h1
theorem qY_ok : (List.range 148).all (fun z => decide ((qY z).cls = qR (qO z)) && (decide ((qY z).cls ≠ "java/lang/invoke/MethodHandle") && (decide ((qY z).cls ≠ "java/lang/invoke/VarHandle") && (decide ((parseMethodDescriptor (qY z).desc).map (fun d => d.parameters.length) = some (qA z)) && (decide (qO z < 10) && (plainName (qY z).cls && (qK z == 2) == decide ((qY z).name = "<init>"))))))) = true := by decide +kernel
theorem q_y : ∀ z, z < 148 → (qY z).cls = qR (qO z) ∧ (qY z).cls ≠ "java/lang/invoke/MethodHandle" ∧ (qY z).cls ≠ "java/lang/invoke/VarHandle" ∧ (parseMethodDescriptor (qY z).desc).map (fun d => d.parameters.length) = some (qA z) ∧ qO z < 10 ∧ plainName (qY z).cls = true ∧ (qK z == 2) = decide ((qY z).name = "<init>") := fun z h => by
  have h1 := List.all_eq_true.mp qY_ok z (List.mem_range.mpr h)
  simpa only [Bool.and_eq_true, decide_eq_true_eq, beq_iff_eq] using h1
def qMl : List (Nat × Nat × Nat × Nat) := [(8, 9, 63, 54), (6, 9, 10, 62), (6, 29, 37, 207), (2, 17, 10, 212), (8, 13, 64, 279), (6, 41, 38, 283), (2, 18, 41, 287), (2, 22, 11, 291), (1, 52, 2, 298), (1, 56, 43, 302), (3, 25, 59, 306), (1, 59, 59, 311), (6, 45, 12, 312), (6, 49, 68, 320), (6, 63, 39, 324), (8, 18, 65, 328), (6, 53, 13, 332), (1, 83, 16, 336), (8, 22, 66, 340), (6, 56, 14, 344), (1, 87, 1, 348), (8, 27, 67, 352), (6, 60, 15, 356), (1, 91, 25, 360), (1, 95, 149, 364), (1, 101, 26, 367), (1, 139, 148, 371), (1, 105, 27, 374), (1, 142, 28, 378), (1, 168, 18, 382), (1, 175, 61, 386), (1, 178, 19, 390), (1, 181, 6, 394), (0, 45, 5, 398), (1, 145, 29, 402), (1, 184, 7, 406), (0, 49, 148, 410), (1, 148, 30, 411), (1, 152, 31, 415), (1, 185, 60, 419), (1, 188, 17, 423), (1, 192, 45, 427), (1, 196, 62, 431), (1, 155, 32, 435), (1, 199, 5, 439), (1, 158, 33, 440), (1, 208, 34, 444), (1, 212, 35, 448), (1, 221, 8, 452), (1, 162, 36, 456), (1, 224, 9, 460), (8, 32, 69, 464), (6, 66, 17, 468), (6, 70, 3, 469), (8, 36, 70, 473), (6, 75, 18, 477), (6, 79, 44, 478), (8, 40, 71, 482), (6, 82, 19, 486), (6, 85, 20, 487), (1, 111, 3, 491), (8, 44, 72, 492), (8, 48, 73, 496), (6, 113, 21, 501), (8, 53, 74, 505), (6, 124, 60, 509), (8, 57, 75, 510), (6, 127, 11, 514), (6, 130, 23, 515), (1, 121, 22, 519), (1, 118, 4, 523), (8, 62, 76, 527), (6, 135, 24, 532), (1, 124, 20, 536), (1, 127, 15, 537), (8, 66, 77, 538), (8, 72, 78, 544), (6, 144, 47, 548), (4, 15, 48, 552), (8, 77, 79, 559), (6, 148, 49, 563), (8, 81, 80, 567), (6, 151, 50, 571), (4, 32, 51, 575), (4, 40, 57, 579), (4, 48, 53, 583), (4, 54, 55, 587), (4, 63, 56, 591), (4, 36, 52, 595), (4, 51, 54, 599), (8, 85, 81, 603), (6, 157, 51, 607), (6, 161, 82, 608), (6, 164, 52, 612), (8, 89, 83, 613), (6, 181, 40, 617), (8, 93, 84, 621), (8, 97, 85, 625), (8, 12, 86, 631), (8, 92, 95, 669), (7, 40, 93, 673), (8, 96, 96, 676), (7, 32, 87, 680), (8, 100, 97, 683), (7, 44, 94, 687), (8, 17, 113, 691), (7, 96, 111, 695), (7, 100, 112, 698), (8, 21, 116, 702), (7, 111, 115, 706), (7, 104, 91, 710), (7, 108, 114, 713), (8, 26, 119, 717), (7, 117, 117, 721), (7, 114, 90, 725), (7, 121, 118, 728), (7, 51, 89, 732), (8, 31, 121, 735), (7, 124, 120, 739), (7, 128, 110, 743), (7, 93, 109, 746), (7, 79, 100, 749), (7, 47, 88, 752), (7, 55, 98, 755), (7, 59, 99, 758), (7, 83, 101, 761), (7, 86, 107, 764), (7, 73, 103, 767), (7, 76, 106, 770), (7, 63, 104, 773), (7, 67, 105, 776), (7, 70, 102, 779), (7, 90, 108, 782), (8, 35, 122, 785), (7, 131, 92, 789), (8, 39, 123, 793), (8, 43, 125, 797), (7, 134, 124, 801), (8, 47, 126, 805), (8, 52, 127, 809), (8, 56, 128, 814), (8, 61, 130, 818), (7, 142, 129, 822), (8, 65, 132, 825), (7, 145, 131, 829), (8, 69, 133, 833), (8, 76, 136, 837), (7, 154, 135, 841), (7, 150, 134, 844), (8, 80, 137, 848), (8, 84, 144, 852), (7, 180, 143, 856), (7, 176, 142, 860), (7, 167, 140, 864), (7, 161, 138, 868), (7, 170, 139, 872), (7, 173, 141, 876), (8, 88, 147, 880), (7, 186, 146, 884), (7, 183, 145, 888)]
theorem qMl_ok : qMl.all (fun q => decide (q.2.2.1 < 150) && qAt q.2.2.2 (.methodLink (qR q.1) q.2.1 (qY q.2.2.1))) = true := by decide +kernel
def qObL : List (Nat × Nat × Nat) := [(6, 1, 57), (1, 3, 65), (5, 3, 75), (0, 3, 93), (3, 3, 138), (2, 3, 210), (4, 3, 230), (7, 1, 634)]
def qArL : List (Nat × Nat × Nat) := [(1, 42, 295), (5, 15, 310)]
theorem qObL_ok : qObL.all (fun q => qAt q.2.2 (.methodLink (qR q.1) q.2.1 Lib.objectInit)) = true := by decide +kernel
theorem qArL_ok : qArL.all (fun q => qAt q.2.2 (.methodLink (qR q.1) q.2.1 arraycopyName)) = true := by decide +kernel
theorem q_obj : Jvm.Cond.instanceMethod Lib.objectInit ∈ qW ∧ Jvm.Cond.code Lib.objectInit ⟨#[0xb1]⟩ 1 none ∈ qW := ⟨qAt_in (i := 58) (by decide +kernel), qAt_in (i := 59) (by decide +kernel)⟩
theorem q_arc : Jvm.Cond.native arraycopyName ∈ qW ∧ Jvm.Cond.static arraycopyName ∈ qW ∧ Jvm.Cond.initialized "java/lang/System" ∈ qW := ⟨qAt_in (i := 297) (by decide +kernel), qAt_in (i := 296) (by decide +kernel), qAt_in (i := 50) (by decide +kernel)⟩
/-- a call: none; a method by its number; 200: Object's constructor; 201: System.arraycopy; nest: by a link among nest mates -/
def qMth (own idx : Nat) : Option (Bool × Nat) := match qMl.find? (fun q => q.1 == own && q.2.1 == idx) with
  | some q => some (false, q.2.2.1)
  | none => match qMnL.find? (fun q => q.1 == own && q.2.1 == idx) with
    | some q => some (true, q.2.2)
    | none => match qObL.find? (fun q => q.1 == own && q.2.1 == idx) with
      | some _ => some (false, 200)
      | none => match qArL.find? (fun q => q.1 == own && q.2.1 == idx) with
        | some _ => some (false, 201)
        | none => none
def qClL : List (Nat × Nat × Nat × Nat) := [(8, 7, 6, 52), (6, 7, 1, 60), (1, 18, 0, 66), (1, 24, 3, 68), (1, 30, 5, 70), (3, 9, 5, 139), (6, 27, 2, 205), (2, 9, 1, 211), (6, 34, 4, 225), (8, 10, 7, 629)]
def qCla (own idx : Nat) : Option Nat := (qClL.find? (fun q => q.1 == own && q.2.1 == idx)).map (fun q => q.2.2.1)
theorem qClL_ok : qClL.all (fun q => decide (q.2.2.1 < 8) && qAt q.2.2.2 (.classLink (qR q.1) q.2.1 (qR q.2.2.1))) = true := by decide +kernel
theorem q_cla {own idx c : Nat} (h : qCla own idx = some c) : c < 8 ∧ Jvm.Cond.classLink (qR own) idx (qR c) ∈ qW := by
  unfold qCla at h
  obtain ⟨q, hq, rfl⟩ := Option.map_eq_some_iff.mp h
  have hm := List.all_eq_true.mp qClL_ok q (List.mem_of_find?_eq_some hq)
  have hp := List.find?_some hq
  simp only [Bool.and_eq_true, beq_iff_eq, decide_eq_true_eq] at hm hp
  obtain ⟨rfl, rfl⟩ := hp
  exact ⟨hm.1, qAt_in hm.2⟩
def qCiL : List (Nat × Nat × Int32 × Nat) := [(6, 134, 39960, 531)]
def qCoL : List (Nat × Nat × Int64 × Nat) := [(6, 111, -2, 500), (4, 23, 255, 556), (4, 25, 33, 557), (4, 27, 126, 558), (7, 140, -2, 813), (7, 148, 255, 847), (8, 70, 4294967295, 892)]
def qCi (own idx : Nat) : Option Int32 := (qCiL.find? (fun q => q.1 == own && q.2.1 == idx)).map (fun q => q.2.2.1)
def qCo (own idx : Nat) : Option Int64 := (qCoL.find? (fun q => q.1 == own && q.2.1 == idx)).map (fun q => q.2.2.1)
theorem qCiL_ok : qCiL.all (fun q => qAt q.2.2.2 (.constant (qR q.1) q.2.1 q.2.2.1)) = true := by decide +kernel
theorem qCoL_ok : qCoL.all (fun q => qAt q.2.2.2 (.constantLong (qR q.1) q.2.1 q.2.2.1)) = true := by decide +kernel
theorem q_ci {own idx : Nat} {v : Int32} (h : qCi own idx = some v) : Jvm.Cond.constant (qR own) idx v ∈ qW := by
  unfold qCi at h
  obtain ⟨q, hq, rfl⟩ := Option.map_eq_some_iff.mp h
  have hm := List.all_eq_true.mp qCiL_ok q (List.mem_of_find?_eq_some hq)
  have hp := List.find?_some hq
  simp only [Bool.and_eq_true, beq_iff_eq] at hm hp
  obtain ⟨rfl, rfl⟩ := hp
  exact qAt_in hm
theorem q_co {own idx : Nat} {v : Int64} (h : qCo own idx = some v) : Jvm.Cond.constantLong (qR own) idx v ∈ qW := by
  unfold qCo at h
  obtain ⟨q, hq, rfl⟩ := Option.map_eq_some_iff.mp h
  have hm := List.all_eq_true.mp qCoL_ok q (List.mem_of_find?_eq_some hq)
  have hp := List.find?_some hq
  simp only [Bool.and_eq_true, beq_iff_eq] at hm hp
  obtain ⟨rfl, rfl⟩ := hp
  exact qAt_in hm
theorem q_acl : Jvm.Cond.arrayClass .int ∈ qW ∧ Jvm.Cond.arrayClass .boolean ∈ qW ∧ Jvm.Cond.arrayClass .char ∈ qW := ⟨qAt_in (i := 86) (by decide +kernel), qAt_in (i := 224) (by decide +kernel), qAt_in (i := 259) (by decide +kernel)⟩
theorem qMth_ok {own idx z : Nat} {b : Bool} (h : qMth own idx = some (b, z)) : (b = false ∧ z < 150 ∧ Jvm.Cond.methodLink (qR own) idx (qY z) ∈ qW) ∨ (b = true ∧ (own, idx, z) ∈ qMnL) ∨ (b = false ∧ z = 200 ∧ Jvm.Cond.methodLink (qR own) idx Lib.objectInit ∈ qW) ∨ (b = false ∧ z = 201 ∧ Jvm.Cond.methodLink (qR own) idx arraycopyName ∈ qW) := by
  unfold qMth at h
  split at h
  · rename_i q hq
    have hm := List.all_eq_true.mp qMl_ok q (List.mem_of_find?_eq_some hq)
    have hp := List.find?_some hq
    simp only [Bool.and_eq_true, beq_iff_eq, decide_eq_true_eq] at hm hp
    obtain ⟨rfl, rfl⟩ := hp
    cases h
    exact Or.inl ⟨rfl, hm.1, qAt_in hm.2⟩
  · split at h
    · rename_i q hq
      have hp := List.find?_some hq
      simp only [Bool.and_eq_true, beq_iff_eq] at hp
      obtain ⟨rfl, rfl⟩ := hp
      cases h
      exact Or.inr (Or.inl ⟨rfl, List.mem_of_find?_eq_some hq⟩)
    · split at h
      · rename_i q hq
        have hm := List.all_eq_true.mp qObL_ok q (List.mem_of_find?_eq_some hq)
        have hp := List.find?_some hq
        simp only [Bool.and_eq_true, beq_iff_eq] at hp
        obtain ⟨rfl, rfl⟩ := hp
        cases h
        exact Or.inr (Or.inr (Or.inl ⟨rfl, rfl, qAt_in hm⟩))
      · split at h
        · rename_i q hq
          have hm := List.all_eq_true.mp qArL_ok q (List.mem_of_find?_eq_some hq)
          have hp := List.find?_some hq
          simp only [Bool.and_eq_true, beq_iff_eq] at hp
          obtain ⟨rfl, rfl⟩ := hp
          cases h
          exact Or.inr (Or.inr (Or.inr ⟨rfl, rfl, qAt_in hm⟩))
        · cases h
end
section
/-! AN INTERPRETER of the bytecode over an abstract heap: addresses are counted; a cell is a tag (0 to 7: an object of that number's kind; 8 int[], 9 boolean[], 10 char[], 11 12 13 arrays of references; 14: an int[] of somebody else's) and its values -/
abbrev qCel : Type := Nat × List Value
abbrev qHp : Type := (Nat × Nat) × (Nat → Option qCel)
abbrev qLo : Type := List (Option Value)
abbrev qCf : Type := Nat × qLo × List Value × qHp
abbrev qRs : Type := qCf ⊕ ((Nat × List Value × qCf) ⊕ Option Value)
def hU (M : qHp) (a : Nat) (c : qCel) : qHp := (M.1, fun q => if q = a then some c else M.2 q)
def hN (M : qHp) (c : qCel) : qHp := ((M.1.1 + 1, M.1.2 + c.2.length), fun q => if q = M.1.1 then some c else M.2 q)
def hG (M : qHp) (a c k : Nat) : Option Value := (M.2 a).bind fun q => if q.1 = c then q.2[k]? else none
def qFit (ty : FieldType) (v : Value) : Bool := match ty with
  | .int => match v with
    | .int _ => true
    | _ => false
  | .char => match v with
    | .int x => decide ((x.toUInt32 % 65536).toInt32 = x)
    | _ => false
  | .object _ => match v with
    | .ref _ => true
    | _ => false
  | .array _ => match v with
    | .ref _ => true
    | _ => false
  | _ => false
def hP (M : qHp) (a c k : Nat) (ty : FieldType) (v : Value) : Option qHp := (M.2 a).bind fun q => if q.1 = c ∧ k < q.2.length ∧ qFit ty v = true then some (hU M a (c, q.2.set k v)) else none
def hL (M : qHp) (t a : Nat) (i : Int32) : Option Value := (M.2 a).bind fun q => if q.1 = t ∧ ¬ i < 0 then q.2[i.toNatClampNeg]? else none
def hLI (M : qHp) (a : Nat) (i : Int32) : Option Value := (M.2 a).bind fun q => if (q.1 = 8 ∨ q.1 = 14) ∧ ¬ i < 0 then q.2[i.toNatClampNeg]? else none
def hS (M : qHp) (t a : Nat) (i : Int32) (v : Value) : Option qHp := (M.2 a).bind fun q => if q.1 = t ∧ ¬ i < 0 ∧ i.toNatClampNeg < q.2.length then some (hU M a (t, q.2.set i.toNatClampNeg v)) else none
/-- the kind of object that an array of references holds -/
def qCo2 (t : Nat) : Option Nat := if t = 11 then some 0 else if t = 12 then some 3 else if t = 13 then some 1 else none
def qTg (c : Nat) : Option Nat := if c = 0 then some 11 else if c = 3 then some 12 else if c = 1 then some 13 else none
def hLA (M : qHp) (a : Nat) (i : Int32) : Option Value := (M.2 a).bind fun q => if (11 ≤ q.1 ∧ q.1 ≤ 13) ∧ ¬ i < 0 then q.2[i.toNatClampNeg]? else none
def hSA (M : qHp) (a : Nat) (i : Int32) (b : Nat) : Option qHp := (M.2 a).bind fun q => (M.2 b).bind fun o => if qCo2 q.1 = some o.1 ∧ ¬ i < 0 ∧ i.toNatClampNeg < q.2.length then some (hU M a (q.1, q.2.set i.toNatClampNeg (.ref b))) else none
/-- n values of f from place s on, laid into g from place d on -/
def qCpy (f g : List Value) (s d n : Nat) : List Value := (List.range g.length).map fun k => if d ≤ k ∧ k < d + n then f.getD (s + (k - d)) .null else g.getD k .null
def qInts (vs : List Value) : Bool := vs.all fun v => match v with
  | .int _ => true
  | _ => false
def hC (M : qHp) (a : Nat) (s : Int32) (b : Nat) (d n : Int32) : Option qHp := (M.2 a).bind fun q => (M.2 b).bind fun o =>
  if (q.1 = 8 ∧ o.1 = 8) ∧ (¬ s < 0 ∧ ¬ d < 0 ∧ ¬ n < 0) ∧ (s.toNatClampNeg + n.toNatClampNeg ≤ q.2.length ∧ d.toNatClampNeg + n.toNatClampNeg ≤ o.2.length) ∧ (qInts q.2 = true ∧ qInts o.2 = true)
  then some (hU M b (8, qCpy q.2 o.2 s.toNatClampNeg d.toNatClampNeg n.toNatClampNeg)) else none
def qLd (L : qLo) (i : Nat) : Option Value := match L[i]? with
  | some (some v) => some v
  | _ => none
def qNl : Option (Option Value) → Bool
  | some (some (.long _)) => false
  | some (some (.double _)) => false
  | _ => true
def qS1 (L : qLo) (i : Nat) (v : Value) : Option qLo := if i < L.length ∧ (i = 0 ∨ qNl L[i - 1]? = true) then some (L.set i (some v)) else none
def qS2 (L : qLo) (i : Nat) (v : Value) : Option qLo := if i + 1 < L.length ∧ (i = 0 ∨ qNl L[i - 1]? = true) then some ((L.set i (some v)).set (i + 1) none) else none
def nx (pc : Nat) (L : qLo) (st : List Value) (M : qHp) : Option qRs := some (.inl (pc, L, st, M))
def jp (pc : Nat) (off : Int) (L : qLo) (st : List Value) (M : qHp) : Option qRs := if 0 ≤ (pc : Int) + off then nx ((pc : Int) + off).toNat L st M else none
def rt (v : Option Value) : Option qRs := some (.inr (.inr v))
def qRk (ty : Option FieldType) (v : Int32) : Bool := match ty with
  | some .int => true
  | some .boolean => decide (v = 0 ∨ v = 1)
  | some .char => decide ((v.toUInt32 % 65536).toInt32 = v)
  | _ => false
def qRo (ty : Option FieldType) : Bool := match ty with
  | some (.object _) => true
  | _ => false
def qDf (c : Nat) : List Value := (List.range (qN c)).map fun k => defaultValue (qV c k)
/-- a call of method y from method z -/
def qCall (z y : Nat) (As rest : List Value) (pc : Nat) (L : qLo) (M : qHp) : Option qRs :=
  if (qFr y + 1 ≤ qFr z ∧ 8 + (qL y + 11) + qWd y ≤ qWd z) ∧ (rest.length ≤ 4 ∧ (lg_sl As).length ≤ qL y) then some (.inr (.inl (y, As, (pc + 3, L, rest, M)))) else none
def qStepI (z : Nat) (i : Instr) (k pc : Nat) (L : qLo) (st : List Value) (M : qHp) : Option qRs := match i with
  | .iconst n => if k = 1 then nx (pc + 1) L (.int (Int32.ofInt n) :: st) M else none
  | .bipush n => if k = 2 then nx (pc + 2) L (.int (Int8.ofInt n).toInt32 :: st) M else none
  | .sipush n => if k = 3 then nx (pc + 3) L (.int (Int16.ofInt n).toInt32 :: st) M else none
  | .lconst n => if k = 1 then nx (pc + 1) L (.long (Int64.ofNat (n : Nat)) :: st) M else none
  | .aconst_null => if k = 1 then nx (pc + 1) L (.null :: st) M else none
  | .ldc i => if k = 2 then (qCi (qO z) i).bind fun v => nx (pc + 2) L (.int v :: st) M else none
  | .ldc2_w i => if k = 3 then (qCo (qO z) i).bind fun v => nx (pc + 3) L (.long v :: st) M else none
  | .iload i => if k = 2 then (match qLd L i with
    | some (.int x) => nx (pc + 2) L (.int x :: st) M
    | _ => none) else none
  | .iload_n i => if k = 1 then (match qLd L i with
    | some (.int x) => nx (pc + 1) L (.int x :: st) M
    | _ => none) else none
  | .lload i => if k = 2 then (match qLd L i with
    | some (.long x) => nx (pc + 2) L (.long x :: st) M
    | _ => none) else none
  | .lload_n i => if k = 1 then (match qLd L i with
    | some (.long x) => nx (pc + 1) L (.long x :: st) M
    | _ => none) else none
  | .aload i => if k = 2 then (match qLd L i with
    | some (.ref x) => nx (pc + 2) L (.ref x :: st) M
    | some .null => nx (pc + 2) L (.null :: st) M
    | _ => none) else none
  | .aload_n i => if k = 1 then (match qLd L i with
    | some (.ref x) => nx (pc + 1) L (.ref x :: st) M
    | some .null => nx (pc + 1) L (.null :: st) M
    | _ => none) else none
  | .istore i => if k = 2 then (match st with
    | .int x :: st => (qS1 L i (.int x)).bind fun L => nx (pc + 2) L st M
    | _ => none) else none
  | .istore_n i => if k = 1 then (match st with
    | .int x :: st => (qS1 L i (.int x)).bind fun L => nx (pc + 1) L st M
    | _ => none) else none
  | .lstore i => if k = 2 then (match st with
    | .long x :: st => (qS2 L i (.long x)).bind fun L => nx (pc + 2) L st M
    | _ => none) else none
  | .lstore_n i => if k = 1 then (match st with
    | .long x :: st => (qS2 L i (.long x)).bind fun L => nx (pc + 1) L st M
    | _ => none) else none
  | .astore i => if k = 2 then (match st with
    | .ref x :: st => (qS1 L i (.ref x)).bind fun L => nx (pc + 2) L st M
    | .null :: st => (qS1 L i .null).bind fun L => nx (pc + 2) L st M
    | _ => none) else none
  | .astore_n i => if k = 1 then (match st with
    | .ref x :: st => (qS1 L i (.ref x)).bind fun L => nx (pc + 1) L st M
    | .null :: st => (qS1 L i .null).bind fun L => nx (pc + 1) L st M
    | _ => none) else none
  | .iinc i n => if k = 3 then (match qLd L i with
    | some (.int x) => (qS1 L i (.int (x + Int32.ofInt n))).bind fun L => nx (pc + 3) L st M
    | _ => none) else none
  | .iadd => if k = 1 then (match st with
    | .int y :: .int x :: st => nx (pc + 1) L (.int (x + y) :: st) M
    | _ => none) else none
  | .isub => if k = 1 then (match st with
    | .int y :: .int x :: st => nx (pc + 1) L (.int (x - y) :: st) M
    | _ => none) else none
  | .imul => if k = 1 then (match st with
    | .int y :: .int x :: st => nx (pc + 1) L (.int (x * y) :: st) M
    | _ => none) else none
  | .iand => if k = 1 then (match st with
    | .int y :: .int x :: st => nx (pc + 1) L (.int (x &&& y) :: st) M
    | _ => none) else none
  | .idiv => if k = 1 then (match st with
    | .int y :: .int x :: st => if y = 0 then none else nx (pc + 1) L (.int (x / y) :: st) M
    | _ => none) else none
  | .irem => if k = 1 then (match st with
    | .int y :: .int x :: st => if y = 0 then none else nx (pc + 1) L (.int (x - x / y * y) :: st) M
    | _ => none) else none
  | .land => if k = 1 then (match st with
    | .long y :: .long x :: st => nx (pc + 1) L (.long (x &&& y) :: st) M
    | _ => none) else none
  | .lor => if k = 1 then (match st with
    | .long y :: .long x :: st => nx (pc + 1) L (.long (x ||| y) :: st) M
    | _ => none) else none
  | .lshl => if k = 1 then (match st with
    | .int y :: .long x :: st => nx (pc + 1) L (.long (x <<< (y.toInt64 &&& 63)) :: st) M
    | _ => none) else none
  | .lshr => if k = 1 then (match st with
    | .int y :: .long x :: st => nx (pc + 1) L (.long (x >>> (y.toInt64 &&& 63)) :: st) M
    | _ => none) else none
  | .lushr => if k = 1 then (match st with
    | .int y :: .long x :: st => nx (pc + 1) L (.long (x.toUInt64 >>> (y.toInt64.toUInt64 &&& Int64.toUInt64 63)).toInt64 :: st) M
    | _ => none) else none
  | .lcmp => if k = 1 then (match st with
    | .long y :: .long x :: st => nx (pc + 1) L (.int (lg_cmp x y) :: st) M
    | _ => none) else none
  | .i2l => if k = 1 then (match st with
    | .int x :: st => nx (pc + 1) L (.long x.toInt64 :: st) M
    | _ => none) else none
  | .l2i => if k = 1 then (match st with
    | .long x :: st => nx (pc + 1) L (.int x.toInt32 :: st) M
    | _ => none) else none
  | .i2c => if k = 1 then (match st with
    | .int x :: st => nx (pc + 1) L (.int (x.toUInt32 % 65536).toInt32 :: st) M
    | _ => none) else none
  | .dup => if k = 1 then (match st with
    | .int x :: st => nx (pc + 1) L (.int x :: .int x :: st) M
    | .ref x :: st => nx (pc + 1) L (.ref x :: .ref x :: st) M
    | _ => none) else none
  | .dup2 => if k = 1 then (match st with
    | .int y :: .ref x :: st => nx (pc + 1) L (.int y :: .ref x :: .int y :: .ref x :: st) M
    | _ => none) else none
  | .dup_x1 => if k = 1 then (match st with
    | .int y :: .ref x :: st => nx (pc + 1) L (.int y :: .ref x :: .int y :: st) M
    | _ => none) else none
  | .pop => if k = 1 then (match st with
    | .int _ :: st => nx (pc + 1) L st M
    | .ref _ :: st => nx (pc + 1) L st M
    | _ => none) else none
  | .ifCond .eq off => if k = 3 ∧ 0 ≤ (pc : Int) + off then (match st with
    | .int x :: st => if x = 0 then nx ((pc : Int) + off).toNat L st M else nx (pc + 3) L st M
    | _ => none) else none
  | .ifCond .ne off => if k = 3 ∧ 0 ≤ (pc : Int) + off then (match st with
    | .int x :: st => if x = 0 then nx (pc + 3) L st M else nx ((pc : Int) + off).toNat L st M
    | _ => none) else none
  | .ifCond .lt off => if k = 3 ∧ 0 ≤ (pc : Int) + off then (match st with
    | .int x :: st => if x < 0 then nx ((pc : Int) + off).toNat L st M else nx (pc + 3) L st M
    | _ => none) else none
  | .ifCond .ge off => if k = 3 ∧ 0 ≤ (pc : Int) + off then (match st with
    | .int x :: st => if 0 ≤ x then nx ((pc : Int) + off).toNat L st M else nx (pc + 3) L st M
    | _ => none) else none
  | .ifCond .gt off => if k = 3 ∧ 0 ≤ (pc : Int) + off then (match st with
    | .int x :: st => if 0 < x then nx ((pc : Int) + off).toNat L st M else nx (pc + 3) L st M
    | _ => none) else none
  | .ifCond .le off => if k = 3 ∧ 0 ≤ (pc : Int) + off then (match st with
    | .int x :: st => if x ≤ 0 then nx ((pc : Int) + off).toNat L st M else nx (pc + 3) L st M
    | _ => none) else none
  | .if_icmp .eq off => if k = 3 ∧ 0 ≤ (pc : Int) + off then (match st with
    | .int y :: .int x :: st => if x = y then nx ((pc : Int) + off).toNat L st M else nx (pc + 3) L st M
    | _ => none) else none
  | .if_icmp .ne off => if k = 3 ∧ 0 ≤ (pc : Int) + off then (match st with
    | .int y :: .int x :: st => if x = y then nx (pc + 3) L st M else nx ((pc : Int) + off).toNat L st M
    | _ => none) else none
  | .if_icmp .lt off => if k = 3 ∧ 0 ≤ (pc : Int) + off then (match st with
    | .int y :: .int x :: st => if x < y then nx ((pc : Int) + off).toNat L st M else nx (pc + 3) L st M
    | _ => none) else none
  | .if_icmp .ge off => if k = 3 ∧ 0 ≤ (pc : Int) + off then (match st with
    | .int y :: .int x :: st => if y ≤ x then nx ((pc : Int) + off).toNat L st M else nx (pc + 3) L st M
    | _ => none) else none
  | .if_icmp .gt off => if k = 3 ∧ 0 ≤ (pc : Int) + off then (match st with
    | .int y :: .int x :: st => if y < x then nx ((pc : Int) + off).toNat L st M else nx (pc + 3) L st M
    | _ => none) else none
  | .if_icmp .le off => if k = 3 ∧ 0 ≤ (pc : Int) + off then (match st with
    | .int y :: .int x :: st => if x ≤ y then nx ((pc : Int) + off).toNat L st M else nx (pc + 3) L st M
    | _ => none) else none
  | .ifnull off => if k = 3 ∧ 0 ≤ (pc : Int) + off then (match st with
    | .ref _ :: st => nx (pc + 3) L st M
    | .null :: st => nx ((pc : Int) + off).toNat L st M
    | _ => none) else none
  | .ifnonnull off => if k = 3 ∧ 0 ≤ (pc : Int) + off then (match st with
    | .ref _ :: st => nx ((pc : Int) + off).toNat L st M
    | .null :: st => nx (pc + 3) L st M
    | _ => none) else none
  | .goto off => if k = 3 ∧ 0 ≤ (pc : Int) + off then nx ((pc : Int) + off).toNat L st M else none
  | .tableswitch d lo hi offs => (match st with
    | .int x :: st => if x.toInt < lo ∨ hi < x.toInt then jp pc d L st M else (match offs[(x.toInt - lo).toNat]? with
      | some off => jp pc off L st M
      | none => none)
    | _ => none)
  | .lookupswitch d ps => (match st with
    | .int x :: st => if (ps.toList.zip (ps.toList.drop 1)).all (fun (a, next) => a.1 < next.1) = true then jp pc (Op.lookupswitch.offset ps.toList d x.toInt) L st M else none
    | _ => none)
  | .getfield i => if k = 3 then (match st with
    | .ref a :: st => (qFld (qO z) i).bind fun q => (hG M a q.1 q.2).bind fun v => nx (pc + 3) L (v :: st) M
    | _ => none) else none
  | .putfield i => if k = 3 then (match st with
    | v :: .ref a :: st => (qFld (qO z) i).bind fun q => if (qT q.1 q.2).2.2.2 = true ∧ ¬ (qK z = 2 ∧ qO z = q.1) then none else (hP M a q.1 q.2 (qV q.1 q.2) v).bind fun M => nx (pc + 3) L st M
    | _ => none) else none
  | .getstatic i => if k = 3 then (qSta (qO z) i).bind fun q => nx (pc + 3) L (.ref q.2 :: st) M else none
  | .iaload => if k = 1 then (match st with
    | .int i :: .ref a :: st => (hLI M a i).bind fun v => nx (pc + 1) L (v :: st) M
    | _ => none) else none
  | .baload => if k = 1 then (match st with
    | .int i :: .ref a :: st => (hL M 9 a i).bind fun v => nx (pc + 1) L (v :: st) M
    | _ => none) else none
  | .caload => if k = 1 then (match st with
    | .int i :: .ref a :: st => (hL M 10 a i).bind fun v => nx (pc + 1) L (v :: st) M
    | _ => none) else none
  | .aaload => if k = 1 then (match st with
    | .int i :: .ref a :: st => (hLA M a i).bind fun v => nx (pc + 1) L (v :: st) M
    | _ => none) else none
  | .iastore => if k = 1 then (match st with
    | .int x :: .int i :: .ref a :: st => (hS M 8 a i (.int x)).bind fun M => nx (pc + 1) L st M
    | _ => none) else none
  | .bastore => if k = 1 then (match st with
    | .int x :: .int i :: .ref a :: st => if x = 0 ∨ x = 1 then (hS M 9 a i (.int x)).bind fun M => nx (pc + 1) L st M else none
    | _ => none) else none
  | .castore => if k = 1 then (match st with
    | .int x :: .int i :: .ref a :: st => if (x.toUInt32 % 65536).toInt32 = x then (hS M 10 a i (.int x)).bind fun M => nx (pc + 1) L st M else none
    | _ => none) else none
  | .aastore => if k = 1 then (match st with
    | .ref b :: .int i :: .ref a :: st => (hSA M a i b).bind fun M => nx (pc + 1) L st M
    | _ => none) else none
  | .arraylength => if k = 1 then (match st with
    | .ref a :: st => (M.2 a).bind fun q => if q.1 = 14 then nx (pc + 1) L (.int (Int32.ofNat q.2.length) :: st) M else none
    | _ => none) else none
  | .newarray t => if k = 2 then (match st with
    | .int n :: st => if ¬ n < 0 ∧ n.toNatClampNeg ≤ 100000 then (match t with
      | .int => nx (pc + 2) L (.ref M.1.1 :: st) (hN M (8, List.replicate n.toNatClampNeg (.int 0)))
      | .boolean => nx (pc + 2) L (.ref M.1.1 :: st) (hN M (9, List.replicate n.toNatClampNeg (.int 0)))
      | .char => nx (pc + 2) L (.ref M.1.1 :: st) (hN M (10, List.replicate n.toNatClampNeg (.int 0)))
      | _ => none) else none
    | _ => none) else none
  | .anewarray i => if k = 3 then (match st with
    | .int n :: st => if ¬ n < 0 ∧ n.toNatClampNeg ≤ 100000 then (qCla (qO z) i).bind fun c => (qTg c).bind fun t => nx (pc + 3) L (.ref M.1.1 :: st) (hN M (t, List.replicate n.toNatClampNeg .null)) else none
    | _ => none) else none
  | .new i => if k = 3 then (qCla (qO z) i).bind fun c => nx (pc + 3) L (.ref M.1.1 :: st) (hN M (c, qDf c)) else none
  | .invokevirtual i => if k = 3 then (qMth (qO z) i).bind fun q => if q.1 = false ∧ q.2 < 148 ∧ qK q.2 = 0 then (match st.drop (qA q.2) with
      | .ref a :: rest => (M.2 a).bind fun o => if o.1 = qO q.2 ∧ o.1 < 8 then qCall z q.2 (.ref a :: (st.take (qA q.2)).reverse) rest pc L M else none
      | _ => none) else none
    else none
  | .invokestatic i => if k = 3 then (qMth (qO z) i).bind fun q => if q.1 = false then
      (if q.2 = 148 then (match st with
        | .int y :: .int x :: st => if 1 ≤ qFr z ∧ st.length ≤ 4 ∧ 21 ≤ qWd z then nx (pc + 3) L (.int (if x < y then y else x) :: st) M else none
        | _ => none)
      else if q.2 = 149 then (match st with
        | .int y :: .int x :: st => if 1 ≤ qFr z ∧ st.length ≤ 4 ∧ 21 ≤ qWd z then nx (pc + 3) L (.int (if y < x then y else x) :: st) M else none
        | _ => none)
      else if q.2 = 201 then (match st with
        | .int n :: .int d :: .ref b :: .int s :: .ref a :: st => if 1 ≤ qFr z ∧ st.length ≤ 4 ∧ 26 ≤ qWd z then (hC M a s b d n).bind fun M => nx (pc + 3) L st M else none
        | _ => none)
      else if q.2 < 148 ∧ qK q.2 = 1 ∧ qA q.2 ≤ st.length then qCall z q.2 (st.take (qA q.2)).reverse (st.drop (qA q.2)) pc L M else none)
      else none
    else none
  | .invokespecial i => if k = 3 then (qMth (qO z) i).bind fun q =>
      if q.2 = 200 then (match st with
        | .ref _ :: st => if 1 ≤ qFr z ∧ st.length ≤ 4 ∧ 20 ≤ qWd z then nx (pc + 3) L st M else none
        | _ => none)
      else if q.2 < 148 ∧ qK q.2 = 2 then (match st.drop (qA q.2) with
        | .ref a :: rest => qCall z q.2 (.ref a :: (st.take (qA q.2)).reverse) rest pc L M
        | _ => none) else none
    else none
  | .ireturn => if k = 1 then (match st with
    | [.int v] => if qRk (qRt z) v = true then rt (some (.int v)) else none
    | _ => none) else none
  | .lreturn => if k = 1 then (match st with
    | [.long v] => if qRt z = some .long then rt (some (.long v)) else none
    | _ => none) else none
  | .areturn => if k = 1 then (match st with
    | [.ref a] => if qRo (qRt z) = true then rt (some (.ref a)) else none
    | [.null] => if qRo (qRt z) = true then rt (some .null) else none
    | _ => none) else none
  | .return_ => if k = 1 then (match st with
    | [] => if qRt z = none then rt none else none
    | _ => none) else none
  | _ => none
def qFetch (z pc : Nat) : Option (Instr × Nat) := match decode (qB z) pc with
  | .ok q => some q
  | .error _ => none
def qInv (i : Instr) : Bool := match i with
  | .invokevirtual _ => true
  | .invokestatic _ => true
  | .invokespecial _ => true
  | _ => false
def qEnd (i : Instr) : Bool := match i with
  | .ireturn => true
  | .lreturn => true
  | .areturn => true
  | .return_ => true
  | _ => false
def qFlt (i : Instr) (r : Option qRs) : Option qRs := match r with
  | some (.inl f) => some (.inl f)
  | some (.inr (.inl f)) => if qInv i = true then some (.inr (.inl f)) else none
  | some (.inr (.inr v)) => if qEnd i = true then some (.inr (.inr v)) else none
  | none => none
theorem qFlt_inl {i : Instr} {r : Option qRs} {f : qCf} (h : qFlt i r = some (.inl f)) : r = some (.inl f) := by
  unfold qFlt at h
  split at h
  · exact h
  · split at h <;> cases h
  · split at h <;> cases h
  · cases h
theorem qFlt_call {i : Instr} {r : Option qRs} {f : Nat × List Value × qCf} (h : qFlt i r = some (.inr (.inl f))) : r = some (.inr (.inl f)) ∧ qInv i = true := by
  unfold qFlt at h
  split at h
  · cases h
  · split at h
    · rename_i hi; exact ⟨h, hi⟩
    · cases h
  · split at h <;> cases h
  · cases h
theorem qFlt_end {i : Instr} {r : Option qRs} {v : Option Value} (h : qFlt i r = some (.inr (.inr v))) : r = some (.inr (.inr v)) ∧ qEnd i = true := by
  unfold qFlt at h
  split at h
  · cases h
  · split at h <;> cases h
  · split at h
    · rename_i hi; exact ⟨h, hi⟩
    · cases h
  · cases h
def qStep (z : Nat) (c : qCf) : Option qRs := (qFetch z c.1).bind fun q => qFlt q.1 (qStepI z q.1 q.2 c.1 c.2.1 c.2.2.1 c.2.2.2)
def qEntry (z : Nat) (As : List Value) : qLo := (As.flatMap fun v => if v.category = 2 then [some v, none] else [some v]) ++ List.replicate (qL z - (lg_sl As).length) none
def qExec : Nat → Nat → qCf → Option (Option Value × qHp)
  | 0, _, _ => none
  | n + 1, z, c => match qStep z c with
    | none => none
    | some (.inl c') => if c.2.2.2.1.1 ≤ c'.2.2.2.1.1 ∧ c.2.2.2.1.2 ≤ c'.2.2.2.1.2 then qExec n z c' else none
    | some (.inr (.inl (y, As, c'))) => (qExec n y (0, qEntry y As, [], c.2.2.2)).bind fun q => if q.2.1 = (c.2.2.2.1.1 + qMc y, c.2.2.2.1.2 + qMs y) then qExec n z (c'.1, c'.2.1, q.1.toList ++ c'.2.2.1, q.2) else none
    | some (.inr (.inr r)) => some (r, c.2.2.2)
theorem qExec_mono : ∀ (n : Nat) (z : Nat) (c : qCf) (r : Option Value × qHp), qExec n z c = some r → qExec (n + 1) z c = some r := by
  intro n
  induction n with
  | zero => intro z c r h; simp [qExec] at h
  | succ n ih =>
    intro z c r h
    rw [qExec] at h ⊢
    cases hs : qStep z c with
    | none => rw [hs] at h; cases h
    | some q =>
      rw [hs] at h
      rcases q with c' | ⟨y, As, c'⟩ | v
      · simp only at h ⊢
        split at h
        · rename_i he
          rw [if_pos he]
          exact ih _ _ _ h
        · cases h
      · simp only at h ⊢
        obtain ⟨q, hq, hk⟩ := Option.bind_eq_some_iff.mp h
        rw [ih _ _ _ hq]
        simp only [Option.bind_some]
        split at hk
        · rename_i he
          rw [if_pos he]
          exact ih _ _ _ hk
        · cases hk
      · exact h
theorem qExec_up : ∀ (n : Nat) (z : Nat) (c : qCf) (r : Option Value) (M : qHp), qExec n z c = some (r, M) → c.2.2.2.1.1 ≤ M.1.1 ∧ c.2.2.2.1.2 ≤ M.1.2 := by
  intro n
  induction n with
  | zero => intro z c r M h; simp [qExec] at h
  | succ n ih =>
    intro z c r M h
    rw [qExec] at h
    cases hs : qStep z c with
    | none => rw [hs] at h; cases h
    | some q =>
      rw [hs] at h
      rcases q with c' | ⟨y, As, c'⟩ | v
      · simp only at h
        split at h
        · rename_i he
          have := ih _ _ _ _ h
          omega
        · cases h
      · simp only at h
        obtain ⟨q, hq, hk⟩ := Option.bind_eq_some_iff.mp h
        split at hk
        · rename_i he
          have h1 := ih _ _ _ _ hk
          simp only [he] at h1
          omega
        · cases hk
      · cases h
        exact ⟨Nat.le_refl _, Nat.le_refl _⟩
theorem qExec_le {n m : Nat} (hle : n ≤ m) {z : Nat} {c : qCf} {r : Option Value × qHp} (h : qExec n z c = some r) : qExec m z c = some r := by
  induction hle with
  | refl => exact h
  | step _ ih => exact qExec_mono _ _ _ _ ih
noncomputable def qEx (z : Nat) (c : qCf) : Option (Option Value × qHp) := @dite _ (∃ (r : Option Value × qHp) (n : Nat), qExec n z c = some r) (Classical.propDecidable _) (fun h => some (Classical.choose h)) (fun _ => none)
theorem qEx_iff {z : Nat} {c : qCf} {r : Option Value × qHp} : qEx z c = some r ↔ ∃ n, qExec n z c = some r := by
  unfold qEx
  by_cases h : ∃ (r : Option Value × qHp) (n : Nat), qExec n z c = some r
  · rw [dif_pos h]
    obtain ⟨m, hm⟩ := Classical.choose_spec h
    constructor
    · intro e
      cases e
      exact ⟨m, hm⟩
    · rintro ⟨n, hn⟩
      have h1 := qExec_le (Nat.le_max_left n m) hn
      have h2 := qExec_le (Nat.le_max_right n m) hm
      rw [h1] at h2
      exact h2.symm
  · rw [dif_neg h]
    constructor
    · intro e; cases e
    · rintro ⟨n, hn⟩
      exact absurd ⟨r, n, hn⟩ h
theorem qEx_eq {z z' : Nat} {c c' : qCf} (h : ∀ r, qEx z c = some r ↔ qEx z' c' = some r) : qEx z c = qEx z' c' := by
  cases h1 : qEx z c with
  | some r => exact ((h r).mp h1).symm
  | none =>
    cases h2 : qEx z' c' with
    | none => rfl
    | some r => rw [(h r).mpr h2] at h1; cases h1
theorem qEx_next {z : Nat} {c c' : qCf} (h : qStep z c = some (.inl c')) (hle : c.2.2.2.1.1 ≤ c'.2.2.2.1.1 ∧ c.2.2.2.1.2 ≤ c'.2.2.2.1.2) : qEx z c = qEx z c' := by
  refine qEx_eq fun r => ?_
  rw [qEx_iff, qEx_iff]
  constructor
  · rintro ⟨n, hn⟩
    cases n with
    | zero => simp [qExec] at hn
    | succ n =>
      rw [qExec, h] at hn
      simp only at hn
      rw [if_pos hle] at hn
      exact ⟨n, hn⟩
  · rintro ⟨n, hn⟩
    exact ⟨n + 1, by rw [qExec, h]; simp only; rw [if_pos hle]; exact hn⟩
theorem qEx_ret {z : Nat} {c : qCf} {v : Option Value} (h : qStep z c = some (.inr (.inr v))) : qEx z c = some (v, c.2.2.2) := qEx_iff.mpr ⟨1, by rw [qExec, h]⟩
/-- a method, from its start, with what it makes counted -/
noncomputable def qRun (y : Nat) (As : List Value) (M : qHp) : Option (Option Value × qHp) := (qEx y (0, qEntry y As, [], M)).bind fun q => if q.2.1 = (M.1.1 + qMc y, M.1.2 + qMs y) then some q else none
theorem qEx_call {z y : Nat} {As : List Value} {c c' : qCf} (h : qStep z c = some (.inr (.inl (y, As, c')))) : qEx z c = (qRun y As c.2.2.2).bind fun q => qEx z (c'.1, c'.2.1, q.1.toList ++ c'.2.2.1, q.2) := by
  have key : ∀ r, qEx z c = some r ↔ ((qRun y As c.2.2.2).bind fun q => qEx z (c'.1, c'.2.1, q.1.toList ++ c'.2.2.1, q.2)) = some r := by
    intro r
    rw [qEx_iff]
    constructor
    · rintro ⟨n, hn⟩
      cases n with
      | zero => simp [qExec] at hn
      | succ n =>
        rw [qExec, h] at hn
        obtain ⟨q, hq, hk⟩ := Option.bind_eq_some_iff.mp hn
        split at hk
        · rename_i he
          rw [qRun, qEx_iff.mpr ⟨n, hq⟩]
          simp only [Option.bind_some]
          rw [if_pos he]
          simp only [Option.bind_some]
          exact qEx_iff.mpr ⟨n, hk⟩
        · cases hk
    · intro hr
      obtain ⟨q, hq, hk⟩ := Option.bind_eq_some_iff.mp hr
      rw [qRun] at hq
      obtain ⟨q', hq', hk'⟩ := Option.bind_eq_some_iff.mp hq
      split at hk'
      · rename_i he
        cases hk'
        obtain ⟨n, hn⟩ := qEx_iff.mp hq'
        obtain ⟨m, hm⟩ := qEx_iff.mp hk
        refine ⟨max n m + 1, ?_⟩
        rw [qExec, h]
        simp only
        rw [qExec_le (Nat.le_max_left n m) hn]
        simp only [Option.bind_some]
        rw [if_pos he]
        exact qExec_le (Nat.le_max_right n m) hm
      · cases hk'
  cases h1 : qEx z c with
  | some r => exact ((key r).mp h1).symm
  | none =>
    cases h2 : ((qRun y As c.2.2.2).bind fun q => qEx z (c'.1, c'.2.1, q.1.toList ++ c'.2.2.1, q.2)) with
    | none => rfl
    | some r => rw [(key r).mpr h2] at h1; cases h1
theorem qRun_of {y : Nat} {As : List Value} {M M' : qHp} {v : Option Value} (h : qEx y (0, qEntry y As, [], M) = some (v, M')) (hc : M'.1 = (M.1.1 + qMc y, M.1.2 + qMs y)) : qRun y As M = some (v, M') := by
  rw [qRun, h]
  simp only [Option.bind_some]
  rw [if_pos hc]
end
section
/-! THE MACHINE FOLLOWS THE INTERPRETER -/
/-- where the abstract addresses lie (first own cell; script; three static arrays), the numbers of classes and slots, what the foreign arrays hold -/
abbrev qG : Type := (Nat × Nat × Nat × Nat × Nat) × va_G × (Nat → List Value)
def gB (G : qG) : Nat := G.1.1
def gA (G : qG) : Nat → Prop := fun q => G.1.1 ≤ q
def adr (G : qG) (a : Nat) : Nat := match a with
  | 0 => G.1.2.1
  | 1 => G.1.2.2.1
  | 2 => G.1.2.2.2.1
  | 3 => G.1.2.2.2.2
  | n + 4 => G.1.1 + n
def cv (G : qG) (v : Value) : Value := match v with
  | .ref a => .ref (adr G a)
  | v => v
def qVf (G : qG) (vs : List Value) : Nat → Value := fun j => (vs.map (cv G)).getD j .null
def qCell (G : qG) (a : Nat) (c : qCel) (H : Heap) : Prop :=
  if c.1 < 8 then c.2.length = qN c.1 ∧ t_OB (adr G a) (G.2.1.1 c.1) (qN c.1) (G.2.1.2 c.1) H (vp_V (c.2.map (cv G)))
  else if c.1 = 14 then a < 4 ∧ c.2 = G.2.2 a
  else H[adr G a]? = some (arrV (G.2.1.1 c.1) c.2.length (qVf G c.2))
def qRep (G : qG) (M : qHp) (H : Heap) : Prop := H.size + 4 = gB G + M.1.1 ∧ 4 ≤ M.1.1 ∧ ∀ (a : Nat) (c : qCel), M.2 a = some c → a < M.1.1 ∧ (c.1 = 14 ↔ a < 4) ∧ c.1 < 15 ∧ qCell G a c H
def qTys (G : qG) : List (ClassId × FieldType) := [(G.2.1.1 8, .int), (G.2.1.1 9, .boolean), (G.2.1.1 10, .char), (G.2.1.1 11, .object (qR 0)), (G.2.1.1 12, .object (qR 3)), (G.2.1.1 13, .object (qR 1))]
def qTab (G : qG) (U : State) : Prop := va_K G.2.1 qCl (qTys G) U ∧
  (∀ q ∈ qMnL, va_Nw (.methodLinkNest (qR q.1) q.2.1 (qY q.2.2) "LetterRuns") U) ∧
  (∀ q ∈ qSlN, va_Nw (.fieldLinkNest (qR q.1) q.2.1 "LetterRuns" (qSn q.2.2.1) "[I" "LetterRuns") U) ∧
  (∀ c, c = 0 ∨ c = 1 ∨ c = 3 → va_AO (qR c) U) ∧
  (∀ t, 1 ≤ t → t < 4 → va_Z "LetterRuns" (qSn t) "[I" (.ref (adr G t)) (gA G) U U.heap) ∧
  (∀ a, a < 4 → va_T .int (adr G a) (G.2.2 a).length (fun j => (G.2.2 a).getD j .null) (gA G) U U.heap) ∧
  (∀ a, a < 4 → qInts (G.2.2 a) = true)
theorem adr_ge {G : qG} {a : Nat} (h : 4 ≤ a) : gB G + a = adr G a + 4 := by
  obtain ⟨n, rfl⟩ : ∃ n, a = n + 4 := ⟨a - 4, by omega⟩
  show G.1.1 + (n + 4) = G.1.1 + n + 4
  omega
theorem adr_A {G : qG} {a : Nat} (h : 4 ≤ a) : gA G (adr G a) := by
  have := adr_ge (G := G) h
  show G.1.1 ≤ adr G a
  unfold gB at this
  omega
theorem adr_inj {G : qG} {a b : Nat} (ha : 4 ≤ a) (hb : 4 ≤ b) (h : adr G a = adr G b) : a = b := by
  have h1 := adr_ge (G := G) ha
  have h2 := adr_ge (G := G) hb
  omega
theorem cv_cat (G : qG) (v : Value) : (cv G v).category = v.category := by cases v <;> rfl
theorem cv_sum (G : qG) (l : List Value) : ((l.map (cv G)).map fun v => v.category).sum = (l.map fun v => v.category).sum := by
  induction l with
  | nil => rfl
  | cons v l ih => simp only [List.map_cons, List.sum_cons, cv_cat, ih]
theorem cat_le (l : List Value) : (l.map fun v => v.category).sum ≤ 2 * l.length := by
  induction l with
  | nil => simp
  | cons v l ih =>
    simp only [List.map_cons, List.sum_cons, List.length_cons]
    rcases lv_cat v with h | h <;> omega
theorem cv_room (G : qG) {m : MethodId} {pc : Nat} {ls : Array Slot} {rest0 rest : List Value} (h : rest.length ≤ 4) : 2 * (F0 m pc ls rest0).monitorRoom + ((rest.map (cv G)).map fun v => v.category).sum ≤ 8 := by
  refine lv_room ?_
  rw [cv_sum]
  have := cat_le rest
  omega
theorem cv_sl (G : qG) (As : List Value) : (lg_sl (As.map (cv G))).length = (lg_sl As).length := by
  unfold lg_sl
  induction As with
  | nil => rfl
  | cons v l ih =>
    simp only [List.map_cons, List.flatMap_cons, List.length_append, ih, cv_cat]
    congr 1
    split <;> rfl
theorem qRep.set {G : qG} {M : qHp} {H H1 : Heap} {a : Nat} {c c' : qCel} (h : qRep G M H) (hc : M.2 a = some c) (ht : c'.1 = c.1) (h4 : 4 ≤ a) (hz : H1.size = H.size) (ho : ∀ q, q ≠ adr G a → H1[q]? = H[q]?) (hn : qCell G a c' H1) : qRep G (hU M a c') H1 := by
  obtain ⟨h1, h2, h3⟩ := h
  refine ⟨by rw [hz]; exact h1, h2, fun b d hd => ?_⟩
  simp only [hU] at hd
  by_cases hb : b = a
  · rw [if_pos hb] at hd
    cases hd
    subst hb
    obtain ⟨k1, k2, k3, -⟩ := h3 _ _ hc
    exact ⟨k1, by rw [ht]; exact k2, by rw [ht]; exact k3, hn⟩
  · rw [if_neg hb] at hd
    obtain ⟨k1, k2, k3, k4⟩ := h3 _ _ hd
    refine ⟨k1, k2, k3, ?_⟩
    unfold qCell at k4 ⊢
    split
    · rename_i h8
      rw [if_pos h8] at k4
      have hb4 : 4 ≤ b := by
        rcases Nat.lt_or_ge b 4 with q | q
        · have := k2.mpr q; omega
        · exact q
      exact ⟨k4.1, k4.2.kept (ho _ (fun e => hb (adr_inj hb4 h4 e)))⟩
    · rename_i h8
      rw [if_neg h8] at k4
      split
      · rename_i h14
        rw [if_pos h14] at k4
        exact k4
      · rename_i h14
        rw [if_neg h14] at k4
        have hb4 : 4 ≤ b := by
          rcases Nat.lt_or_ge b 4 with q | q
          · exact absurd (k2.mpr q) h14
          · exact q
        rw [ho _ (fun e => hb (adr_inj hb4 h4 e))]
        exact k4
theorem qRep.push {G : qG} {M : qHp} {H H1 : Heap} {c : qCel} (h : qRep G M H) (ht : c.1 < 14) (hz : H1.size = H.size + 1) (ho : ∀ q, q < H.size → H1[q]? = H[q]?) (hn : qCell G M.1.1 c H1) : qRep G (hN M c) H1 := by
  obtain ⟨h1, h2, h3⟩ := h
  refine ⟨by rw [hz]; show H.size + 1 + 4 = gB G + (M.1.1 + 1); omega, by show 4 ≤ M.1.1 + 1; omega, fun b d hd => ?_⟩
  simp only [hN] at hd ⊢
  by_cases hb : b = M.1.1
  · rw [if_pos hb] at hd
    cases hd
    subst hb
    exact ⟨Nat.lt_succ_self _, ⟨fun e => by omega, fun e => by omega⟩, by omega, hn⟩
  · rw [if_neg hb] at hd
    obtain ⟨k1, k2, k3, k4⟩ := h3 _ _ hd
    refine ⟨by omega, k2, k3, ?_⟩
    unfold qCell at k4 ⊢
    have lt : 4 ≤ b → adr G b < H.size := fun q => by
      have := adr_ge (G := G) q
      omega
    split
    · rename_i h8
      rw [if_pos h8] at k4
      have hb4 : 4 ≤ b := by
        rcases Nat.lt_or_ge b 4 with q | q
        · have := k2.mpr q; omega
        · exact q
      exact ⟨k4.1, k4.2.kept (ho _ (lt hb4))⟩
    · rename_i h8
      rw [if_neg h8] at k4
      split
      · rename_i h14
        rw [if_pos h14] at k4
        exact k4
      · rename_i h14
        rw [if_neg h14] at k4
        have hb4 : 4 ≤ b := by
          rcases Nat.lt_or_ge b 4 with q | q
          · exact absurd (k2.mpr q) h14
          · exact q
        rw [ho _ (lt hb4)]
        exact k4
theorem qRep.new {G : qG} {M : qHp} {H : Heap} (h : qRep G M H) : adr G M.1.1 = H.size := by
  have := adr_ge (G := G) h.2.1
  have := h.1
  omega
theorem qRep.at {G : qG} {M : qHp} {H : Heap} (h : qRep G M H) {a : Nat} {c : qCel} (hc : M.2 a = some c) : qCell G a c H := (h.2.2 a c hc).2.2.2
theorem qRep.four {G : qG} {M : qHp} {H : Heap} (h : qRep G M H) {a : Nat} {c : qCel} (hc : M.2 a = some c) (ht : c.1 ≠ 14) : 4 ≤ a := by
  rcases Nat.lt_or_ge a 4 with q | q
  · exact absurd ((h.2.2 a c hc).2.1.mpr q) ht
  · exact q
/-! locals -/
def qEn (L : qLo) : List (Nat × Value) := (List.range L.length).filterMap fun i => (L[i]?.join).map fun v => (i, v)
theorem qEn_mem {L : qLo} {q : Nat × Value} : q ∈ qEn L ↔ L[q.1]? = some (some q.2) := by
  unfold qEn
  rw [List.mem_filterMap]
  constructor
  · rintro ⟨i, hi, he⟩
    obtain ⟨v, hv, rfl⟩ := Option.map_eq_some_iff.mp he
    cases h : L[i]? with
    | none => rw [h] at hv; cases hv
    | some x => rw [h] at hv; simp at hv; subst hv; rfl
  · intro h
    have hl : q.1 < L.length := (List.getElem?_eq_some_iff.mp h).1
    exact ⟨q.1, List.mem_range.mpr hl, by rw [h]; rfl⟩
def qHas (G : qG) (ls : Array Slot) (L : qLo) : Prop := lv_has ls L.length ((qEn L).map fun q => (q.1, cv G q.2))
theorem qHas.ld {G : qG} {ls : Array Slot} {L : qLo} (h : qHas G ls L) {i : Nat} {v : Value} (hv : qLd L i = some v) : ls[i]? = some (.val (cv G v)) := by
  refine h.2.2 (i, cv G v) (List.mem_map.mpr ⟨(i, v), qEn_mem.mpr ?_, rfl⟩)
  unfold qLd at hv
  split at hv
  · rename_i w e
    cases hv
    exact e
  · cases hv
theorem qHas.intro {G : qG} {ls : Array Slot} {L : qLo} {n : Nat} {l : List (Nat × Value)} (h : lv_has ls n l) (hn : L.length = n) (hm : ∀ i v, L[i]? = some (some v) → (i, cv G v) ∈ l) : qHas G ls L := by
  refine ⟨by rw [hn]; exact h.1, h.2.1, fun q hq => ?_⟩
  obtain ⟨r, hr, rfl⟩ := List.mem_map.mp hq
  exact h.2.2 _ (hm _ _ (qEn_mem.mp hr))
theorem qHas.s1 {G : qG} {L L' : qLo} {i : Nat} {v : Value} (hv : qS1 L i v = some L') {ls' : Array Slot} (h : lv_has ls' L.length ((i, cv G v) :: ((qEn L).map fun q => (q.1, cv G q.2)).filter (fun q => !(q.1 == i) && !(q.1 + 1 == i && q.2.category == 2)))) : qHas G ls' L' ∧ i < L.length := by
  unfold qS1 at hv
  split at hv
  · rename_i hc
    cases hv
    refine ⟨qHas.intro h (by simp) fun j x hj => ?_, hc.1⟩
    by_cases hji : j = i
    · subst hji
      rw [List.getElem?_set_self hc.1] at hj
      cases hj
      exact List.mem_cons_self
    · rw [List.getElem?_set_ne (Ne.symm hji)] at hj
      refine List.mem_cons_of_mem _ (List.mem_filter.mpr ⟨List.mem_map.mpr ⟨(j, x), qEn_mem.mpr hj, rfl⟩, ?_⟩)
      simp only [cv_cat, Bool.and_eq_true, Bool.not_eq_true', beq_eq_false_iff_ne, ne_eq, Bool.and_eq_false_iff]
      refine ⟨hji, ?_⟩
      by_cases h1 : j + 1 = i
      · right
        rcases hc.2 with q | q
        · omega
        · rw [show i - 1 = j by omega, hj] at q
          cases x <;> simp_all [qNl, Value.category]
      · exact Or.inl h1
  · cases hv
theorem qHas.s2 {G : qG} {L L' : qLo} {i : Nat} {v : Value} (hv : qS2 L i v = some L') {ls' : Array Slot} (h : lv_has ls' L.length ((i, cv G v) :: ((qEn L).map fun q => (q.1, cv G q.2)).filter (fun q => !(q.1 == i) && (!(q.1 == i + 1) && !(q.1 + 1 == i && q.2.category == 2))))) : qHas G ls' L' ∧ i + 1 < L.length := by
  unfold qS2 at hv
  split at hv
  · rename_i hc
    cases hv
    refine ⟨qHas.intro h (by simp) fun j x hj => ?_, hc.1⟩
    by_cases hj1 : j = i + 1
    · subst hj1
      rw [List.getElem?_set_self (by simpa using hc.1)] at hj
      cases hj
    · rw [List.getElem?_set_ne (Ne.symm hj1)] at hj
      by_cases hji : j = i
      · subst hji
        rw [List.getElem?_set_self (by omega)] at hj
        cases hj
        exact List.mem_cons_self
      · rw [List.getElem?_set_ne (Ne.symm hji)] at hj
        refine List.mem_cons_of_mem _ (List.mem_filter.mpr ⟨List.mem_map.mpr ⟨(j, x), qEn_mem.mpr hj, rfl⟩, ?_⟩)
        simp only [cv_cat, Bool.and_eq_true, Bool.not_eq_true', beq_eq_false_iff_ne, ne_eq, Bool.and_eq_false_iff]
        refine ⟨hji, hj1, ?_⟩
        by_cases h1 : j + 1 = i
        · right
          rcases hc.2 with q | q
          · omega
          · rw [show i - 1 = j by omega, hj] at q
            cases x <;> simp_all [qNl, Value.category]
        · exact Or.inl h1
  · cases hv
theorem qS1_lt {L L' : qLo} {i : Nat} {v : Value} (hv : qS1 L i v = some L') : i < L.length := by
  unfold qS1 at hv
  split at hv
  · rename_i hc; exact hc.1
  · cases hv
theorem qS2_lt {L L' : qLo} {i : Nat} {v : Value} (hv : qS2 L i v = some L') : i + 1 < L.length := by
  unfold qS2 at hv
  split at hv
  · rename_i hc; exact hc.1
  · cases hv
theorem lv_args_at : ∀ (vs : List Value) (o : Nat) (pre : qLo), pre.length = o → ∀ i v (n : Nat), (pre ++ (vs.flatMap fun v => if v.category = 2 then [some v, none] else [some v]) ++ List.replicate n none)[i]? = some (some v) → o ≤ i → (i, v) ∈ lv_args o vs := by
  intro vs
  induction vs with
  | nil =>
    intro o pre hp i v n h hi
    exfalso
    rw [List.getElem?_append_right (by simp; omega)] at h
    have := List.mem_of_getElem? h
    simp at this
  | cons x vs ih =>
    intro o pre hp i v n h hi
    by_cases hx : x.category = 2
    · have e : (pre ++ ((x :: vs).flatMap fun v => if v.category = 2 then [some v, none] else [some v]) ++ List.replicate n none) = ((pre ++ [some x, none]) ++ (vs.flatMap fun v => if v.category = 2 then [some v, none] else [some v]) ++ List.replicate n none) := by simp [hx]
      rw [e] at h
      by_cases h0 : i = o
      · subst h0
        rw [List.append_assoc, List.append_assoc, List.getElem?_append_right (by omega)] at h
        simp [hp] at h
        subst h
        exact List.mem_cons_self
      · by_cases h1 : i = o + 1
        · subst h1
          rw [List.append_assoc, List.append_assoc, List.getElem?_append_right (by omega)] at h
          simp [hp] at h
        · refine List.mem_cons_of_mem _ ?_
          rw [if_pos hx]
          exact ih (o + 2) (pre ++ [some x, none]) (by simp; omega) i v n h (by omega)
    · have e : (pre ++ ((x :: vs).flatMap fun v => if v.category = 2 then [some v, none] else [some v]) ++ List.replicate n none) = ((pre ++ [some x]) ++ (vs.flatMap fun v => if v.category = 2 then [some v, none] else [some v]) ++ List.replicate n none) := by simp [hx]
      rw [e] at h
      by_cases h0 : i = o
      · subst h0
        rw [List.append_assoc, List.append_assoc, List.getElem?_append_right (by omega)] at h
        simp [hp] at h
        subst h
        exact List.mem_cons_self
      · refine List.mem_cons_of_mem _ ?_
        rw [if_neg hx]
        exact ih (o + 1) (pre ++ [some x]) (by simp; omega) i v n h (by omega)
theorem lv_args_cv (G : qG) : ∀ (vs : List Value) (o i : Nat) (v : Value), (i, v) ∈ lv_args o vs → (i, cv G v) ∈ lv_args o (vs.map (cv G)) := by
  intro vs
  induction vs with
  | nil => intro o i v h; cases h
  | cons x vs ih =>
    intro o i v h
    simp only [lv_args, List.map_cons, cv_cat] at h ⊢
    rcases List.mem_cons.mp h with h | h
    · cases h; exact List.mem_cons_self
    · exact List.mem_cons_of_mem _ (ih _ _ _ h)
theorem qFl_len (As : List Value) : (As.flatMap fun v => if v.category = 2 then [some v, none] else [some v]).length = (lg_sl As).length := by
  unfold lg_sl
  induction As with
  | nil => rfl
  | cons v l ih =>
    simp only [List.flatMap_cons, List.length_append, ih]
    congr 1
    split <;> rfl
theorem qHas.entry {G : qG} {z : Nat} {As : List Value} (h : (lg_sl As).length ≤ qL z) : qHas G ((lg_sl (As.map (cv G)) ++ List.replicate (qL z - (lg_sl (As.map (cv G))).length) Slot.unset).toArray) (qEntry z As) ∧ (qEntry z As).length = qL z := by
  have hl : (qEntry z As).length = qL z := by
    unfold qEntry
    rw [List.length_append, qFl_len, List.length_replicate]
    omega
  have e := lv_entry (As.map (cv G)) (n := qL z) (by rw [cv_sl]; exact h)
  refine ⟨qHas.intro e hl fun i v hi => lv_args_cv G _ _ _ _ (lv_args_at As 0 [] rfl i v _ (by simpa [qEntry] using hi) (Nat.zero_le _)), hl⟩
/-! what a walk of method z may lean on -/
def qCx (G : qG) (p : Program) (R : Room) (s : State) (m : MethodId) (args : Array Value) (meth : Method) (c : Code) (z : Nat) : Prop :=
  p.tables.exec = Jvm.exec ∧ c.code = qB z ∧ c.maxLocals = qL z ∧ s.vm.findClass (qR (qO z)) = some m.cls ∧ (∀ w ∈ qW, w.before args s = true) ∧ qTab G s ∧ (qK z = 2 → meth.name = "<init>") ∧ (qFr z ≤ R.frames ∧ qWd z ≤ R.locals) ∧ gB G ≤ s.heap.size
section QW
variable {G : qG} {p : Program} {l : Launch} {e : Env} {R : Room} {s : State} {m : MethodId} {args : Array Value} {below : List Frame} {meth : Method} {c : Code} {Q : State → Prop} {z N0 S0 : Nat}
def qWp (G : qG) (p : Program) (l : Launch) (e : Env) (R : Room) (s : State) (m : MethodId) (args : Array Value) (below : List Frame) (meth : Method) (c : Code) (Q : State → Prop) (N0 S0 : Nat) (f : qCf) : Prop :=
  ∀ (H : Heap) (locs : List Loc) (ls : Array Slot), qRep G f.2.2.2 H → va_S (gA G) s.heap H locs → qHas G ls f.2.1 → f.2.1.length = c.maxLocals → W p l e R s m args below meth c H locs (f.2.2.2.1.1 - N0) (f.2.2.2.1.2 - S0) Q (F0 m f.1 ls (f.2.2.1.map (cv G)))

theorem sd_iconst {n : Int} {k pc : Nat} {L : qLo} {st : List Value} {M : qHp} {f : qCf} (C : qCx G p R s m args meth c z) (h : qStepI z (.iconst n) k pc L st M = some (.inl f)) (hdg : decode (qB z) pc = .ok (.iconst n, k)) (kk : qWp G p l e R s m args below meth c Q N0 S0 f) : qWp G p l e R s m args below meth c Q N0 S0 (pc, L, st, M) := by
  obtain ⟨hx, hb, hml, hown, hts, hTab, hin, hRm, hbase⟩ := C
  simp only [qStepI] at h
  split at h
  rotate_left
  · cases h
  rename_i hk
  subst hk
  cases h
  intro H locs ls hR hS hL hll
  exact lv_iconst hx hb hdg rfl (kk H locs ls hR hS hL hll)
theorem sd_bipush {n : Int} {k pc : Nat} {L : qLo} {st : List Value} {M : qHp} {f : qCf} (C : qCx G p R s m args meth c z) (h : qStepI z (.bipush n) k pc L st M = some (.inl f)) (hdg : decode (qB z) pc = .ok (.bipush n, k)) (kk : qWp G p l e R s m args below meth c Q N0 S0 f) : qWp G p l e R s m args below meth c Q N0 S0 (pc, L, st, M) := by
  obtain ⟨hx, hb, hml, hown, hts, hTab, hin, hRm, hbase⟩ := C
  simp only [qStepI] at h
  split at h
  rotate_left
  · cases h
  rename_i hk
  subst hk
  cases h
  intro H locs ls hR hS hL hll
  exact lv_bipush hx hb hdg rfl (kk H locs ls hR hS hL hll)
theorem sd_sipush {n : Int} {k pc : Nat} {L : qLo} {st : List Value} {M : qHp} {f : qCf} (C : qCx G p R s m args meth c z) (h : qStepI z (.sipush n) k pc L st M = some (.inl f)) (hdg : decode (qB z) pc = .ok (.sipush n, k)) (kk : qWp G p l e R s m args below meth c Q N0 S0 f) : qWp G p l e R s m args below meth c Q N0 S0 (pc, L, st, M) := by
  obtain ⟨hx, hb, hml, hown, hts, hTab, hin, hRm, hbase⟩ := C
  simp only [qStepI] at h
  split at h
  rotate_left
  · cases h
  rename_i hk
  subst hk
  cases h
  intro H locs ls hR hS hL hll
  exact lv_sipush hx hb hdg rfl (kk H locs ls hR hS hL hll)
theorem sd_lconst {n : Fin 2} {k pc : Nat} {L : qLo} {st : List Value} {M : qHp} {f : qCf} (C : qCx G p R s m args meth c z) (h : qStepI z (.lconst n) k pc L st M = some (.inl f)) (hdg : decode (qB z) pc = .ok (.lconst n, k)) (kk : qWp G p l e R s m args below meth c Q N0 S0 f) : qWp G p l e R s m args below meth c Q N0 S0 (pc, L, st, M) := by
  obtain ⟨hx, hb, hml, hown, hts, hTab, hin, hRm, hbase⟩ := C
  simp only [qStepI] at h
  split at h
  rotate_left
  · cases h
  rename_i hk
  subst hk
  cases h
  intro H locs ls hR hS hL hll
  exact lv_lconst hx hb hdg rfl (kk H locs ls hR hS hL hll)
theorem sd_aconst_null  {k pc : Nat} {L : qLo} {st : List Value} {M : qHp} {f : qCf} (C : qCx G p R s m args meth c z) (h : qStepI z (.aconst_null) k pc L st M = some (.inl f)) (hdg : decode (qB z) pc = .ok (.aconst_null, k)) (kk : qWp G p l e R s m args below meth c Q N0 S0 f) : qWp G p l e R s m args below meth c Q N0 S0 (pc, L, st, M) := by
  obtain ⟨hx, hb, hml, hown, hts, hTab, hin, hRm, hbase⟩ := C
  simp only [qStepI] at h
  split at h
  rotate_left
  · cases h
  rename_i hk
  subst hk
  cases h
  intro H locs ls hR hS hL hll
  exact lv_null hx hb hdg (kk H locs ls hR hS hL hll)
theorem sd_iadd  {k pc : Nat} {L : qLo} {st : List Value} {M : qHp} {f : qCf} (C : qCx G p R s m args meth c z) (h : qStepI z (.iadd) k pc L st M = some (.inl f)) (hdg : decode (qB z) pc = .ok (.iadd, k)) (kk : qWp G p l e R s m args below meth c Q N0 S0 f) : qWp G p l e R s m args below meth c Q N0 S0 (pc, L, st, M) := by
  obtain ⟨hx, hb, hml, hown, hts, hTab, hin, hRm, hbase⟩ := C
  simp only [qStepI] at h
  split at h
  rotate_left
  · cases h
  rename_i hk
  subst hk
  split at h
  rotate_left
  · cases h
  cases h
  intro H locs ls hR hS hL hll
  exact lv_iadd hx hb hdg (kk H locs ls hR hS hL hll)
theorem sd_isub  {k pc : Nat} {L : qLo} {st : List Value} {M : qHp} {f : qCf} (C : qCx G p R s m args meth c z) (h : qStepI z (.isub) k pc L st M = some (.inl f)) (hdg : decode (qB z) pc = .ok (.isub, k)) (kk : qWp G p l e R s m args below meth c Q N0 S0 f) : qWp G p l e R s m args below meth c Q N0 S0 (pc, L, st, M) := by
  obtain ⟨hx, hb, hml, hown, hts, hTab, hin, hRm, hbase⟩ := C
  simp only [qStepI] at h
  split at h
  rotate_left
  · cases h
  rename_i hk
  subst hk
  split at h
  rotate_left
  · cases h
  cases h
  intro H locs ls hR hS hL hll
  exact lv_isub hx hb hdg (kk H locs ls hR hS hL hll)
theorem sd_imul  {k pc : Nat} {L : qLo} {st : List Value} {M : qHp} {f : qCf} (C : qCx G p R s m args meth c z) (h : qStepI z (.imul) k pc L st M = some (.inl f)) (hdg : decode (qB z) pc = .ok (.imul, k)) (kk : qWp G p l e R s m args below meth c Q N0 S0 f) : qWp G p l e R s m args below meth c Q N0 S0 (pc, L, st, M) := by
  obtain ⟨hx, hb, hml, hown, hts, hTab, hin, hRm, hbase⟩ := C
  simp only [qStepI] at h
  split at h
  rotate_left
  · cases h
  rename_i hk
  subst hk
  split at h
  rotate_left
  · cases h
  cases h
  intro H locs ls hR hS hL hll
  exact lv_imul hx hb hdg (kk H locs ls hR hS hL hll)
theorem sd_iand  {k pc : Nat} {L : qLo} {st : List Value} {M : qHp} {f : qCf} (C : qCx G p R s m args meth c z) (h : qStepI z (.iand) k pc L st M = some (.inl f)) (hdg : decode (qB z) pc = .ok (.iand, k)) (kk : qWp G p l e R s m args below meth c Q N0 S0 f) : qWp G p l e R s m args below meth c Q N0 S0 (pc, L, st, M) := by
  obtain ⟨hx, hb, hml, hown, hts, hTab, hin, hRm, hbase⟩ := C
  simp only [qStepI] at h
  split at h
  rotate_left
  · cases h
  rename_i hk
  subst hk
  split at h
  rotate_left
  · cases h
  cases h
  intro H locs ls hR hS hL hll
  exact lv_iand hx hb hdg (kk H locs ls hR hS hL hll)
theorem sd_land  {k pc : Nat} {L : qLo} {st : List Value} {M : qHp} {f : qCf} (C : qCx G p R s m args meth c z) (h : qStepI z (.land) k pc L st M = some (.inl f)) (hdg : decode (qB z) pc = .ok (.land, k)) (kk : qWp G p l e R s m args below meth c Q N0 S0 f) : qWp G p l e R s m args below meth c Q N0 S0 (pc, L, st, M) := by
  obtain ⟨hx, hb, hml, hown, hts, hTab, hin, hRm, hbase⟩ := C
  simp only [qStepI] at h
  split at h
  rotate_left
  · cases h
  rename_i hk
  subst hk
  split at h
  rotate_left
  · cases h
  cases h
  intro H locs ls hR hS hL hll
  exact lv_land hx hb hdg (kk H locs ls hR hS hL hll)
theorem sd_lor  {k pc : Nat} {L : qLo} {st : List Value} {M : qHp} {f : qCf} (C : qCx G p R s m args meth c z) (h : qStepI z (.lor) k pc L st M = some (.inl f)) (hdg : decode (qB z) pc = .ok (.lor, k)) (kk : qWp G p l e R s m args below meth c Q N0 S0 f) : qWp G p l e R s m args below meth c Q N0 S0 (pc, L, st, M) := by
  obtain ⟨hx, hb, hml, hown, hts, hTab, hin, hRm, hbase⟩ := C
  simp only [qStepI] at h
  split at h
  rotate_left
  · cases h
  rename_i hk
  subst hk
  split at h
  rotate_left
  · cases h
  cases h
  intro H locs ls hR hS hL hll
  exact lv_lor hx hb hdg (kk H locs ls hR hS hL hll)
theorem sd_lshl  {k pc : Nat} {L : qLo} {st : List Value} {M : qHp} {f : qCf} (C : qCx G p R s m args meth c z) (h : qStepI z (.lshl) k pc L st M = some (.inl f)) (hdg : decode (qB z) pc = .ok (.lshl, k)) (kk : qWp G p l e R s m args below meth c Q N0 S0 f) : qWp G p l e R s m args below meth c Q N0 S0 (pc, L, st, M) := by
  obtain ⟨hx, hb, hml, hown, hts, hTab, hin, hRm, hbase⟩ := C
  simp only [qStepI] at h
  split at h
  rotate_left
  · cases h
  rename_i hk
  subst hk
  split at h
  rotate_left
  · cases h
  cases h
  intro H locs ls hR hS hL hll
  exact lv_lshl hx hb hdg rfl (kk H locs ls hR hS hL hll)
theorem sd_lshr  {k pc : Nat} {L : qLo} {st : List Value} {M : qHp} {f : qCf} (C : qCx G p R s m args meth c z) (h : qStepI z (.lshr) k pc L st M = some (.inl f)) (hdg : decode (qB z) pc = .ok (.lshr, k)) (kk : qWp G p l e R s m args below meth c Q N0 S0 f) : qWp G p l e R s m args below meth c Q N0 S0 (pc, L, st, M) := by
  obtain ⟨hx, hb, hml, hown, hts, hTab, hin, hRm, hbase⟩ := C
  simp only [qStepI] at h
  split at h
  rotate_left
  · cases h
  rename_i hk
  subst hk
  split at h
  rotate_left
  · cases h
  cases h
  intro H locs ls hR hS hL hll
  exact lv_lshr hx hb hdg rfl (kk H locs ls hR hS hL hll)
theorem sd_lushr  {k pc : Nat} {L : qLo} {st : List Value} {M : qHp} {f : qCf} (C : qCx G p R s m args meth c z) (h : qStepI z (.lushr) k pc L st M = some (.inl f)) (hdg : decode (qB z) pc = .ok (.lushr, k)) (kk : qWp G p l e R s m args below meth c Q N0 S0 f) : qWp G p l e R s m args below meth c Q N0 S0 (pc, L, st, M) := by
  obtain ⟨hx, hb, hml, hown, hts, hTab, hin, hRm, hbase⟩ := C
  simp only [qStepI] at h
  split at h
  rotate_left
  · cases h
  rename_i hk
  subst hk
  split at h
  rotate_left
  · cases h
  cases h
  intro H locs ls hR hS hL hll
  exact lv_lushr hx hb hdg rfl (kk H locs ls hR hS hL hll)
theorem sd_i2l  {k pc : Nat} {L : qLo} {st : List Value} {M : qHp} {f : qCf} (C : qCx G p R s m args meth c z) (h : qStepI z (.i2l) k pc L st M = some (.inl f)) (hdg : decode (qB z) pc = .ok (.i2l, k)) (kk : qWp G p l e R s m args below meth c Q N0 S0 f) : qWp G p l e R s m args below meth c Q N0 S0 (pc, L, st, M) := by
  obtain ⟨hx, hb, hml, hown, hts, hTab, hin, hRm, hbase⟩ := C
  simp only [qStepI] at h
  split at h
  rotate_left
  · cases h
  rename_i hk
  subst hk
  split at h
  rotate_left
  · cases h
  cases h
  intro H locs ls hR hS hL hll
  exact lv_i2l hx hb hdg rfl (kk H locs ls hR hS hL hll)
theorem sd_l2i  {k pc : Nat} {L : qLo} {st : List Value} {M : qHp} {f : qCf} (C : qCx G p R s m args meth c z) (h : qStepI z (.l2i) k pc L st M = some (.inl f)) (hdg : decode (qB z) pc = .ok (.l2i, k)) (kk : qWp G p l e R s m args below meth c Q N0 S0 f) : qWp G p l e R s m args below meth c Q N0 S0 (pc, L, st, M) := by
  obtain ⟨hx, hb, hml, hown, hts, hTab, hin, hRm, hbase⟩ := C
  simp only [qStepI] at h
  split at h
  rotate_left
  · cases h
  rename_i hk
  subst hk
  split at h
  rotate_left
  · cases h
  cases h
  intro H locs ls hR hS hL hll
  exact lv_l2i hx hb hdg rfl (kk H locs ls hR hS hL hll)
theorem sd_i2c  {k pc : Nat} {L : qLo} {st : List Value} {M : qHp} {f : qCf} (C : qCx G p R s m args meth c z) (h : qStepI z (.i2c) k pc L st M = some (.inl f)) (hdg : decode (qB z) pc = .ok (.i2c, k)) (kk : qWp G p l e R s m args below meth c Q N0 S0 f) : qWp G p l e R s m args below meth c Q N0 S0 (pc, L, st, M) := by
  obtain ⟨hx, hb, hml, hown, hts, hTab, hin, hRm, hbase⟩ := C
  simp only [qStepI] at h
  split at h
  rotate_left
  · cases h
  rename_i hk
  subst hk
  split at h
  rotate_left
  · cases h
  cases h
  intro H locs ls hR hS hL hll
  exact lv_i2c hx hb hdg rfl (kk H locs ls hR hS hL hll)
theorem sd_lcmp  {k pc : Nat} {L : qLo} {st : List Value} {M : qHp} {f : qCf} (C : qCx G p R s m args meth c z) (h : qStepI z (.lcmp) k pc L st M = some (.inl f)) (hdg : decode (qB z) pc = .ok (.lcmp, k)) (kk : qWp G p l e R s m args below meth c Q N0 S0 f) : qWp G p l e R s m args below meth c Q N0 S0 (pc, L, st, M) := by
  obtain ⟨hx, hb, hml, hown, hts, hTab, hin, hRm, hbase⟩ := C
  simp only [qStepI] at h
  split at h
  rotate_left
  · cases h
  rename_i hk
  subst hk
  split at h
  rotate_left
  · cases h
  cases h
  intro H locs ls hR hS hL hll
  exact W.lcmp hx hb hdg (kk H locs ls hR hS hL hll)
theorem sd_idiv  {k pc : Nat} {L : qLo} {st : List Value} {M : qHp} {f : qCf} (C : qCx G p R s m args meth c z) (h : qStepI z (.idiv) k pc L st M = some (.inl f)) (hdg : decode (qB z) pc = .ok (.idiv, k)) (kk : qWp G p l e R s m args below meth c Q N0 S0 f) : qWp G p l e R s m args below meth c Q N0 S0 (pc, L, st, M) := by
  obtain ⟨hx, hb, hml, hown, hts, hTab, hin, hRm, hbase⟩ := C
  simp only [qStepI] at h
  split at h
  rotate_left
  · cases h
  rename_i hk
  subst hk
  split at h
  rotate_left
  · cases h
  split at h
  · cases h
  rename_i hy
  cases h
  intro H locs ls hR hS hL hll
  exact lv_idiv hx hb hdg hy (kk H locs ls hR hS hL hll)
theorem sd_irem  {k pc : Nat} {L : qLo} {st : List Value} {M : qHp} {f : qCf} (C : qCx G p R s m args meth c z) (h : qStepI z (.irem) k pc L st M = some (.inl f)) (hdg : decode (qB z) pc = .ok (.irem, k)) (kk : qWp G p l e R s m args below meth c Q N0 S0 f) : qWp G p l e R s m args below meth c Q N0 S0 (pc, L, st, M) := by
  obtain ⟨hx, hb, hml, hown, hts, hTab, hin, hRm, hbase⟩ := C
  simp only [qStepI] at h
  split at h
  rotate_left
  · cases h
  rename_i hk
  subst hk
  split at h
  rotate_left
  · cases h
  split at h
  · cases h
  rename_i hy
  cases h
  intro H locs ls hR hS hL hll
  exact lv_irem hx hb hdg hy (kk H locs ls hR hS hL hll)
theorem sd_ldc {i : Nat} {k pc : Nat} {L : qLo} {st : List Value} {M : qHp} {f : qCf} (C : qCx G p R s m args meth c z) (h : qStepI z (.ldc i) k pc L st M = some (.inl f)) (hdg : decode (qB z) pc = .ok (.ldc i, k)) (kk : qWp G p l e R s m args below meth c Q N0 S0 f) : qWp G p l e R s m args below meth c Q N0 S0 (pc, L, st, M) := by
  obtain ⟨hx, hb, hml, hown, hts, hTab, hin, hRm, hbase⟩ := C
  simp only [qStepI] at h
  split at h
  rotate_left
  · cases h
  rename_i hk
  subst hk
  obtain ⟨v, hv, h⟩ := Option.bind_eq_some_iff.mp h
  cases h
  intro H locs ls hR hS hL hll
  exact lv_ldc hx hb hown (hts _ (q_ci hv)) hdg (kk H locs ls hR hS hL hll)
theorem sd_ldc2_w {i : Nat} {k pc : Nat} {L : qLo} {st : List Value} {M : qHp} {f : qCf} (C : qCx G p R s m args meth c z) (h : qStepI z (.ldc2_w i) k pc L st M = some (.inl f)) (hdg : decode (qB z) pc = .ok (.ldc2_w i, k)) (kk : qWp G p l e R s m args below meth c Q N0 S0 f) : qWp G p l e R s m args below meth c Q N0 S0 (pc, L, st, M) := by
  obtain ⟨hx, hb, hml, hown, hts, hTab, hin, hRm, hbase⟩ := C
  simp only [qStepI] at h
  split at h
  rotate_left
  · cases h
  rename_i hk
  subst hk
  obtain ⟨v, hv, h⟩ := Option.bind_eq_some_iff.mp h
  cases h
  intro H locs ls hR hS hL hll
  exact lv_ldc2 hx hb hown (hts _ (q_co hv)) hdg (kk H locs ls hR hS hL hll)
theorem sd_iload {i : Nat} {k pc : Nat} {L : qLo} {st : List Value} {M : qHp} {f : qCf} (C : qCx G p R s m args meth c z) (h : qStepI z (.iload i) k pc L st M = some (.inl f)) (hdg : decode (qB z) pc = .ok (.iload i, k)) (kk : qWp G p l e R s m args below meth c Q N0 S0 f) : qWp G p l e R s m args below meth c Q N0 S0 (pc, L, st, M) := by
  obtain ⟨hx, hb, hml, hown, hts, hTab, hin, hRm, hbase⟩ := C
  simp only [qStepI] at h
  split at h
  rotate_left
  · cases h
  rename_i hk
  subst hk
  split at h
  rotate_left
  · cases h
  rename_i x hv
  cases h
  intro H locs ls hR hS hL hll
  exact lv_iload hx hb hdg (hL.ld hv) (kk H locs ls hR hS hL hll)
theorem sd_iload_n {i : Fin 4} {k pc : Nat} {L : qLo} {st : List Value} {M : qHp} {f : qCf} (C : qCx G p R s m args meth c z) (h : qStepI z (.iload_n i) k pc L st M = some (.inl f)) (hdg : decode (qB z) pc = .ok (.iload_n i, k)) (kk : qWp G p l e R s m args below meth c Q N0 S0 f) : qWp G p l e R s m args below meth c Q N0 S0 (pc, L, st, M) := by
  obtain ⟨hx, hb, hml, hown, hts, hTab, hin, hRm, hbase⟩ := C
  simp only [qStepI] at h
  split at h
  rotate_left
  · cases h
  rename_i hk
  subst hk
  split at h
  rotate_left
  · cases h
  rename_i x hv
  cases h
  intro H locs ls hR hS hL hll
  exact lv_iload_n hx hb hdg rfl (hL.ld hv) (kk H locs ls hR hS hL hll)
theorem sd_lload {i : Nat} {k pc : Nat} {L : qLo} {st : List Value} {M : qHp} {f : qCf} (C : qCx G p R s m args meth c z) (h : qStepI z (.lload i) k pc L st M = some (.inl f)) (hdg : decode (qB z) pc = .ok (.lload i, k)) (kk : qWp G p l e R s m args below meth c Q N0 S0 f) : qWp G p l e R s m args below meth c Q N0 S0 (pc, L, st, M) := by
  obtain ⟨hx, hb, hml, hown, hts, hTab, hin, hRm, hbase⟩ := C
  simp only [qStepI] at h
  split at h
  rotate_left
  · cases h
  rename_i hk
  subst hk
  split at h
  rotate_left
  · cases h
  rename_i x hv
  cases h
  intro H locs ls hR hS hL hll
  exact lv_lload hx hb hdg (hL.ld hv) (kk H locs ls hR hS hL hll)
theorem sd_lload_n {i : Fin 4} {k pc : Nat} {L : qLo} {st : List Value} {M : qHp} {f : qCf} (C : qCx G p R s m args meth c z) (h : qStepI z (.lload_n i) k pc L st M = some (.inl f)) (hdg : decode (qB z) pc = .ok (.lload_n i, k)) (kk : qWp G p l e R s m args below meth c Q N0 S0 f) : qWp G p l e R s m args below meth c Q N0 S0 (pc, L, st, M) := by
  obtain ⟨hx, hb, hml, hown, hts, hTab, hin, hRm, hbase⟩ := C
  simp only [qStepI] at h
  split at h
  rotate_left
  · cases h
  rename_i hk
  subst hk
  split at h
  rotate_left
  · cases h
  rename_i x hv
  cases h
  intro H locs ls hR hS hL hll
  exact lv_lload_n hx hb hdg rfl (hL.ld hv) (kk H locs ls hR hS hL hll)
theorem sd_aload {i : Nat} {k pc : Nat} {L : qLo} {st : List Value} {M : qHp} {f : qCf} (C : qCx G p R s m args meth c z) (h : qStepI z (.aload i) k pc L st M = some (.inl f)) (hdg : decode (qB z) pc = .ok (.aload i, k)) (kk : qWp G p l e R s m args below meth c Q N0 S0 f) : qWp G p l e R s m args below meth c Q N0 S0 (pc, L, st, M) := by
  obtain ⟨hx, hb, hml, hown, hts, hTab, hin, hRm, hbase⟩ := C
  simp only [qStepI] at h
  split at h
  rotate_left
  · cases h
  rename_i hk
  subst hk
  split at h
  · rename_i x hv
    cases h
    intro H locs ls hR hS hL hll
    exact lv_aload hx hb hdg (hL.ld hv) (kk H locs ls hR hS hL hll)
  · rename_i hv
    cases h
    intro H locs ls hR hS hL hll
    exact lv_aloadN hx hb hdg (hL.ld hv) (kk H locs ls hR hS hL hll)
  · cases h
theorem sd_aload_n {i : Fin 4} {k pc : Nat} {L : qLo} {st : List Value} {M : qHp} {f : qCf} (C : qCx G p R s m args meth c z) (h : qStepI z (.aload_n i) k pc L st M = some (.inl f)) (hdg : decode (qB z) pc = .ok (.aload_n i, k)) (kk : qWp G p l e R s m args below meth c Q N0 S0 f) : qWp G p l e R s m args below meth c Q N0 S0 (pc, L, st, M) := by
  obtain ⟨hx, hb, hml, hown, hts, hTab, hin, hRm, hbase⟩ := C
  simp only [qStepI] at h
  split at h
  rotate_left
  · cases h
  rename_i hk
  subst hk
  split at h
  · rename_i x hv
    cases h
    intro H locs ls hR hS hL hll
    exact lv_aload_n hx hb hdg rfl (hL.ld hv) (kk H locs ls hR hS hL hll)
  · rename_i hv
    cases h
    intro H locs ls hR hS hL hll
    exact lv_aload_nN hx hb hdg rfl (hL.ld hv) (kk H locs ls hR hS hL hll)
  · cases h
theorem sd_istore {i : Nat} {k pc : Nat} {L : qLo} {st : List Value} {M : qHp} {f : qCf} (C : qCx G p R s m args meth c z) (h : qStepI z (.istore i) k pc L st M = some (.inl f)) (hdg : decode (qB z) pc = .ok (.istore i, k)) (kk : qWp G p l e R s m args below meth c Q N0 S0 f) : qWp G p l e R s m args below meth c Q N0 S0 (pc, L, st, M) := by
  obtain ⟨hx, hb, hml, hown, hts, hTab, hin, hRm, hbase⟩ := C
  simp only [qStepI] at h
  split at h
  rotate_left
  · cases h
  rename_i hk
  subst hk
  split at h
  rotate_left
  · cases h
  obtain ⟨L1, hL1, h⟩ := Option.bind_eq_some_iff.mp h
  cases h
  intro H locs ls hR hS hL hll
  have hlt := qS1_lt hL1
  refine lv_istore hx hb hdg (nL := L.length) hL (by exact hlt) rfl (fun ls hl => ?_)
  have h2 := qHas.s1 hL1 hl
  exact kk H locs ls hR hS h2.1 (by rw [← hll]; unfold qS1 at hL1; split at hL1 <;> first | (cases hL1; simp) | cases hL1)
theorem sd_istore_n {i : Fin 4} {k pc : Nat} {L : qLo} {st : List Value} {M : qHp} {f : qCf} (C : qCx G p R s m args meth c z) (h : qStepI z (.istore_n i) k pc L st M = some (.inl f)) (hdg : decode (qB z) pc = .ok (.istore_n i, k)) (kk : qWp G p l e R s m args below meth c Q N0 S0 f) : qWp G p l e R s m args below meth c Q N0 S0 (pc, L, st, M) := by
  obtain ⟨hx, hb, hml, hown, hts, hTab, hin, hRm, hbase⟩ := C
  simp only [qStepI] at h
  split at h
  rotate_left
  · cases h
  rename_i hk
  subst hk
  split at h
  rotate_left
  · cases h
  obtain ⟨L1, hL1, h⟩ := Option.bind_eq_some_iff.mp h
  cases h
  intro H locs ls hR hS hL hll
  have hlt := qS1_lt hL1
  refine lv_istore_n hx hb hdg rfl (nL := L.length) hL (by exact hlt) rfl (fun ls hl => ?_)
  have h2 := qHas.s1 hL1 hl
  exact kk H locs ls hR hS h2.1 (by rw [← hll]; unfold qS1 at hL1; split at hL1 <;> first | (cases hL1; simp) | cases hL1)
theorem sd_lstore {i : Nat} {k pc : Nat} {L : qLo} {st : List Value} {M : qHp} {f : qCf} (C : qCx G p R s m args meth c z) (h : qStepI z (.lstore i) k pc L st M = some (.inl f)) (hdg : decode (qB z) pc = .ok (.lstore i, k)) (kk : qWp G p l e R s m args below meth c Q N0 S0 f) : qWp G p l e R s m args below meth c Q N0 S0 (pc, L, st, M) := by
  obtain ⟨hx, hb, hml, hown, hts, hTab, hin, hRm, hbase⟩ := C
  simp only [qStepI] at h
  split at h
  rotate_left
  · cases h
  rename_i hk
  subst hk
  split at h
  rotate_left
  · cases h
  obtain ⟨L1, hL1, h⟩ := Option.bind_eq_some_iff.mp h
  cases h
  intro H locs ls hR hS hL hll
  have hlt := qS2_lt hL1
  refine lv_lstore hx hb hdg (nL := L.length) hL (by exact hlt) rfl (fun ls hl => ?_)
  have h2 := qHas.s2 hL1 hl
  exact kk H locs ls hR hS h2.1 (by rw [← hll]; unfold qS2 at hL1; split at hL1 <;> first | (cases hL1; simp) | cases hL1)
theorem sd_lstore_n {i : Fin 4} {k pc : Nat} {L : qLo} {st : List Value} {M : qHp} {f : qCf} (C : qCx G p R s m args meth c z) (h : qStepI z (.lstore_n i) k pc L st M = some (.inl f)) (hdg : decode (qB z) pc = .ok (.lstore_n i, k)) (kk : qWp G p l e R s m args below meth c Q N0 S0 f) : qWp G p l e R s m args below meth c Q N0 S0 (pc, L, st, M) := by
  obtain ⟨hx, hb, hml, hown, hts, hTab, hin, hRm, hbase⟩ := C
  simp only [qStepI] at h
  split at h
  rotate_left
  · cases h
  rename_i hk
  subst hk
  split at h
  rotate_left
  · cases h
  obtain ⟨L1, hL1, h⟩ := Option.bind_eq_some_iff.mp h
  cases h
  intro H locs ls hR hS hL hll
  have hlt := qS2_lt hL1
  refine lv_lstore_n hx hb hdg rfl (nL := L.length) hL (by exact hlt) rfl (fun ls hl => ?_)
  have h2 := qHas.s2 hL1 hl
  exact kk H locs ls hR hS h2.1 (by rw [← hll]; unfold qS2 at hL1; split at hL1 <;> first | (cases hL1; simp) | cases hL1)
theorem sd_astore {i : Nat} {k pc : Nat} {L : qLo} {st : List Value} {M : qHp} {f : qCf} (C : qCx G p R s m args meth c z) (h : qStepI z (.astore i) k pc L st M = some (.inl f)) (hdg : decode (qB z) pc = .ok (.astore i, k)) (kk : qWp G p l e R s m args below meth c Q N0 S0 f) : qWp G p l e R s m args below meth c Q N0 S0 (pc, L, st, M) := by
  obtain ⟨hx, hb, hml, hown, hts, hTab, hin, hRm, hbase⟩ := C
  simp only [qStepI] at h
  split at h
  rotate_left
  · cases h
  rename_i hk
  subst hk
  split at h
  · obtain ⟨L1, hL1, h⟩ := Option.bind_eq_some_iff.mp h
    cases h
    intro H locs ls hR hS hL hll
    have hlt := qS1_lt hL1
    refine lv_astore hx hb hdg (nL := L.length) hL (by exact hlt) rfl (fun ls hl => ?_)
    have h2 := qHas.s1 hL1 hl
    exact kk H locs ls hR hS h2.1 (by rw [← hll]; unfold qS1 at hL1; split at hL1 <;> first | (cases hL1; simp) | cases hL1)
  · obtain ⟨L1, hL1, h⟩ := Option.bind_eq_some_iff.mp h
    cases h
    intro H locs ls hR hS hL hll
    have hlt := qS1_lt hL1
    refine lv_astoreN hx hb hdg (nL := L.length) hL (by exact hlt) rfl (fun ls hl => ?_)
    have h2 := qHas.s1 hL1 hl
    exact kk H locs ls hR hS h2.1 (by rw [← hll]; unfold qS1 at hL1; split at hL1 <;> first | (cases hL1; simp) | cases hL1)
  · cases h
theorem sd_astore_n {i : Fin 4} {k pc : Nat} {L : qLo} {st : List Value} {M : qHp} {f : qCf} (C : qCx G p R s m args meth c z) (h : qStepI z (.astore_n i) k pc L st M = some (.inl f)) (hdg : decode (qB z) pc = .ok (.astore_n i, k)) (kk : qWp G p l e R s m args below meth c Q N0 S0 f) : qWp G p l e R s m args below meth c Q N0 S0 (pc, L, st, M) := by
  obtain ⟨hx, hb, hml, hown, hts, hTab, hin, hRm, hbase⟩ := C
  simp only [qStepI] at h
  split at h
  rotate_left
  · cases h
  rename_i hk
  subst hk
  split at h
  · obtain ⟨L1, hL1, h⟩ := Option.bind_eq_some_iff.mp h
    cases h
    intro H locs ls hR hS hL hll
    have hlt := qS1_lt hL1
    refine lv_astore_n hx hb hdg rfl (nL := L.length) hL (by exact hlt) rfl (fun ls hl => ?_)
    have h2 := qHas.s1 hL1 hl
    exact kk H locs ls hR hS h2.1 (by rw [← hll]; unfold qS1 at hL1; split at hL1 <;> first | (cases hL1; simp) | cases hL1)
  · obtain ⟨L1, hL1, h⟩ := Option.bind_eq_some_iff.mp h
    cases h
    intro H locs ls hR hS hL hll
    have hlt := qS1_lt hL1
    refine lv_astore_nN hx hb hdg rfl (nL := L.length) hL (by exact hlt) rfl (fun ls hl => ?_)
    have h2 := qHas.s1 hL1 hl
    exact kk H locs ls hR hS h2.1 (by rw [← hll]; unfold qS1 at hL1; split at hL1 <;> first | (cases hL1; simp) | cases hL1)
  · cases h
theorem sd_iinc {i : Nat} {n : Int} {k pc : Nat} {L : qLo} {st : List Value} {M : qHp} {f : qCf} (C : qCx G p R s m args meth c z) (h : qStepI z (.iinc i n) k pc L st M = some (.inl f)) (hdg : decode (qB z) pc = .ok (.iinc i n, k)) (kk : qWp G p l e R s m args below meth c Q N0 S0 f) : qWp G p l e R s m args below meth c Q N0 S0 (pc, L, st, M) := by
  obtain ⟨hx, hb, hml, hown, hts, hTab, hin, hRm, hbase⟩ := C
  simp only [qStepI] at h
  split at h
  rotate_left
  · cases h
  rename_i hk
  subst hk
  split at h
  rotate_left
  · cases h
  rename_i x hv
  obtain ⟨L1, hL1, h⟩ := Option.bind_eq_some_iff.mp h
  cases h
  intro H locs ls hR hS hL hll
  have hlt := qS1_lt hL1
  have hm : (i, Value.int x) ∈ (qEn L).map fun q => (q.1, cv G q.2) := by
    refine List.mem_map.mpr ⟨(i, .int x), qEn_mem.mpr ?_, rfl⟩
    unfold qLd at hv
    split at hv
    · rename_i w e; cases hv; exact e
    · cases hv
  obtain ⟨j, hj⟩ := List.getElem?_of_mem hm
  refine lv_iinc hx hb hdg (nL := L.length) hL hj rfl (by exact hlt) rfl (fun ls hl => ?_)
  have h2 := qHas.s1 hL1 (v := .int (x + Int32.ofInt n)) hl
  exact kk H locs ls hR hS h2.1 (by rw [← hll]; unfold qS1 at hL1; split at hL1 <;> first | (cases hL1; simp) | cases hL1)
theorem sd_dup  {k pc : Nat} {L : qLo} {st : List Value} {M : qHp} {f : qCf} (C : qCx G p R s m args meth c z) (h : qStepI z (.dup) k pc L st M = some (.inl f)) (hdg : decode (qB z) pc = .ok (.dup, k)) (kk : qWp G p l e R s m args below meth c Q N0 S0 f) : qWp G p l e R s m args below meth c Q N0 S0 (pc, L, st, M) := by
  obtain ⟨hx, hb, hml, hown, hts, hTab, hin, hRm, hbase⟩ := C
  simp only [qStepI] at h
  split at h
  rotate_left
  · cases h
  rename_i hk
  subst hk
  split at h
  · cases h
    intro H locs ls hR hS hL hll
    exact lv_dup hx hb hdg rfl (kk H locs ls hR hS hL hll)
  · cases h
    intro H locs ls hR hS hL hll
    exact lv_dup hx hb hdg rfl (kk H locs ls hR hS hL hll)
  · cases h
theorem sd_pop  {k pc : Nat} {L : qLo} {st : List Value} {M : qHp} {f : qCf} (C : qCx G p R s m args meth c z) (h : qStepI z (.pop) k pc L st M = some (.inl f)) (hdg : decode (qB z) pc = .ok (.pop, k)) (kk : qWp G p l e R s m args below meth c Q N0 S0 f) : qWp G p l e R s m args below meth c Q N0 S0 (pc, L, st, M) := by
  obtain ⟨hx, hb, hml, hown, hts, hTab, hin, hRm, hbase⟩ := C
  simp only [qStepI] at h
  split at h
  rotate_left
  · cases h
  rename_i hk
  subst hk
  split at h
  · cases h
    intro H locs ls hR hS hL hll
    exact lv_pop hx hb hdg rfl (kk H locs ls hR hS hL hll)
  · cases h
    intro H locs ls hR hS hL hll
    exact lv_pop hx hb hdg rfl (kk H locs ls hR hS hL hll)
  · cases h
theorem sd_dup2  {k pc : Nat} {L : qLo} {st : List Value} {M : qHp} {f : qCf} (C : qCx G p R s m args meth c z) (h : qStepI z (.dup2) k pc L st M = some (.inl f)) (hdg : decode (qB z) pc = .ok (.dup2, k)) (kk : qWp G p l e R s m args below meth c Q N0 S0 f) : qWp G p l e R s m args below meth c Q N0 S0 (pc, L, st, M) := by
  obtain ⟨hx, hb, hml, hown, hts, hTab, hin, hRm, hbase⟩ := C
  simp only [qStepI] at h
  split at h
  rotate_left
  · cases h
  rename_i hk
  subst hk
  split at h
  rotate_left
  · cases h
  cases h
  intro H locs ls hR hS hL hll
  exact lv_dup2_11 hx hb hdg rfl rfl (kk H locs ls hR hS hL hll)
theorem sd_dup_x1  {k pc : Nat} {L : qLo} {st : List Value} {M : qHp} {f : qCf} (C : qCx G p R s m args meth c z) (h : qStepI z (.dup_x1) k pc L st M = some (.inl f)) (hdg : decode (qB z) pc = .ok (.dup_x1, k)) (kk : qWp G p l e R s m args below meth c Q N0 S0 f) : qWp G p l e R s m args below meth c Q N0 S0 (pc, L, st, M) := by
  obtain ⟨hx, hb, hml, hown, hts, hTab, hin, hRm, hbase⟩ := C
  simp only [qStepI] at h
  split at h
  rotate_left
  · cases h
  rename_i hk
  subst hk
  split at h
  rotate_left
  · cases h
  cases h
  intro H locs ls hR hS hL hll
  exact lv_dup_x1 hx hb hdg rfl rfl (kk H locs ls hR hS hL hll)
theorem sd_ifCond_eq {off : Int} {k pc : Nat} {L : qLo} {st : List Value} {M : qHp} {f : qCf} (C : qCx G p R s m args meth c z) (h : qStepI z (.ifCond .eq off) k pc L st M = some (.inl f)) (hdg : decode (qB z) pc = .ok (.ifCond .eq off, k)) (kk : qWp G p l e R s m args below meth c Q N0 S0 f) : qWp G p l e R s m args below meth c Q N0 S0 (pc, L, st, M) := by
  obtain ⟨hx, hb, hml, hown, hts, hTab, hin, hRm, hbase⟩ := C
  simp only [qStepI] at h
  split at h
  rotate_left
  · cases h
  rename_i hk
  obtain ⟨rfl, ht⟩ := hk
  split at h
  rotate_left
  · cases h
  split at h
  · rename_i hP
    cases h
    intro H locs ls hR hS hL hll
    exact lv_if_eq hx hb hdg (Int.toNat_of_nonneg ht).symm (fun q => kk H locs ls hR hS hL hll) (fun q => absurd hP q)
  · rename_i hP
    cases h
    intro H locs ls hR hS hL hll
    exact lv_if_eq hx hb hdg (Int.toNat_of_nonneg ht).symm (fun q => absurd q hP) (fun q => kk H locs ls hR hS hL hll)
theorem sd_ifCond_ne {off : Int} {k pc : Nat} {L : qLo} {st : List Value} {M : qHp} {f : qCf} (C : qCx G p R s m args meth c z) (h : qStepI z (.ifCond .ne off) k pc L st M = some (.inl f)) (hdg : decode (qB z) pc = .ok (.ifCond .ne off, k)) (kk : qWp G p l e R s m args below meth c Q N0 S0 f) : qWp G p l e R s m args below meth c Q N0 S0 (pc, L, st, M) := by
  obtain ⟨hx, hb, hml, hown, hts, hTab, hin, hRm, hbase⟩ := C
  simp only [qStepI] at h
  split at h
  rotate_left
  · cases h
  rename_i hk
  obtain ⟨rfl, ht⟩ := hk
  split at h
  rotate_left
  · cases h
  split at h
  · rename_i hP
    cases h
    intro H locs ls hR hS hL hll
    exact lv_if_ne hx hb hdg (Int.toNat_of_nonneg ht).symm (fun q => absurd hP q) (fun q => kk H locs ls hR hS hL hll)
  · rename_i hP
    cases h
    intro H locs ls hR hS hL hll
    exact lv_if_ne hx hb hdg (Int.toNat_of_nonneg ht).symm (fun q => kk H locs ls hR hS hL hll) (fun q => absurd q hP)
theorem sd_ifCond_lt {off : Int} {k pc : Nat} {L : qLo} {st : List Value} {M : qHp} {f : qCf} (C : qCx G p R s m args meth c z) (h : qStepI z (.ifCond .lt off) k pc L st M = some (.inl f)) (hdg : decode (qB z) pc = .ok (.ifCond .lt off, k)) (kk : qWp G p l e R s m args below meth c Q N0 S0 f) : qWp G p l e R s m args below meth c Q N0 S0 (pc, L, st, M) := by
  obtain ⟨hx, hb, hml, hown, hts, hTab, hin, hRm, hbase⟩ := C
  simp only [qStepI] at h
  split at h
  rotate_left
  · cases h
  rename_i hk
  obtain ⟨rfl, ht⟩ := hk
  split at h
  rotate_left
  · cases h
  split at h
  · rename_i hP
    cases h
    intro H locs ls hR hS hL hll
    exact lv_if_lt hx hb hdg (Int.toNat_of_nonneg ht).symm (fun q => kk H locs ls hR hS hL hll) (fun q => absurd hP q)
  · rename_i hP
    cases h
    intro H locs ls hR hS hL hll
    exact lv_if_lt hx hb hdg (Int.toNat_of_nonneg ht).symm (fun q => absurd q hP) (fun q => kk H locs ls hR hS hL hll)
theorem sd_ifCond_ge {off : Int} {k pc : Nat} {L : qLo} {st : List Value} {M : qHp} {f : qCf} (C : qCx G p R s m args meth c z) (h : qStepI z (.ifCond .ge off) k pc L st M = some (.inl f)) (hdg : decode (qB z) pc = .ok (.ifCond .ge off, k)) (kk : qWp G p l e R s m args below meth c Q N0 S0 f) : qWp G p l e R s m args below meth c Q N0 S0 (pc, L, st, M) := by
  obtain ⟨hx, hb, hml, hown, hts, hTab, hin, hRm, hbase⟩ := C
  simp only [qStepI] at h
  split at h
  rotate_left
  · cases h
  rename_i hk
  obtain ⟨rfl, ht⟩ := hk
  split at h
  rotate_left
  · cases h
  split at h
  · rename_i hP
    cases h
    intro H locs ls hR hS hL hll
    exact lv_if_ge hx hb hdg (Int.toNat_of_nonneg ht).symm (fun q => kk H locs ls hR hS hL hll) (fun q => absurd hP q)
  · rename_i hP
    cases h
    intro H locs ls hR hS hL hll
    exact lv_if_ge hx hb hdg (Int.toNat_of_nonneg ht).symm (fun q => absurd q hP) (fun q => kk H locs ls hR hS hL hll)
theorem sd_ifCond_gt {off : Int} {k pc : Nat} {L : qLo} {st : List Value} {M : qHp} {f : qCf} (C : qCx G p R s m args meth c z) (h : qStepI z (.ifCond .gt off) k pc L st M = some (.inl f)) (hdg : decode (qB z) pc = .ok (.ifCond .gt off, k)) (kk : qWp G p l e R s m args below meth c Q N0 S0 f) : qWp G p l e R s m args below meth c Q N0 S0 (pc, L, st, M) := by
  obtain ⟨hx, hb, hml, hown, hts, hTab, hin, hRm, hbase⟩ := C
  simp only [qStepI] at h
  split at h
  rotate_left
  · cases h
  rename_i hk
  obtain ⟨rfl, ht⟩ := hk
  split at h
  rotate_left
  · cases h
  split at h
  · rename_i hP
    cases h
    intro H locs ls hR hS hL hll
    exact lv_if_gt hx hb hdg (Int.toNat_of_nonneg ht).symm (fun q => kk H locs ls hR hS hL hll) (fun q => absurd hP q)
  · rename_i hP
    cases h
    intro H locs ls hR hS hL hll
    exact lv_if_gt hx hb hdg (Int.toNat_of_nonneg ht).symm (fun q => absurd q hP) (fun q => kk H locs ls hR hS hL hll)
theorem sd_ifCond_le {off : Int} {k pc : Nat} {L : qLo} {st : List Value} {M : qHp} {f : qCf} (C : qCx G p R s m args meth c z) (h : qStepI z (.ifCond .le off) k pc L st M = some (.inl f)) (hdg : decode (qB z) pc = .ok (.ifCond .le off, k)) (kk : qWp G p l e R s m args below meth c Q N0 S0 f) : qWp G p l e R s m args below meth c Q N0 S0 (pc, L, st, M) := by
  obtain ⟨hx, hb, hml, hown, hts, hTab, hin, hRm, hbase⟩ := C
  simp only [qStepI] at h
  split at h
  rotate_left
  · cases h
  rename_i hk
  obtain ⟨rfl, ht⟩ := hk
  split at h
  rotate_left
  · cases h
  split at h
  · rename_i hP
    cases h
    intro H locs ls hR hS hL hll
    exact lv_if_le hx hb hdg (Int.toNat_of_nonneg ht).symm (fun q => kk H locs ls hR hS hL hll) (fun q => absurd hP q)
  · rename_i hP
    cases h
    intro H locs ls hR hS hL hll
    exact lv_if_le hx hb hdg (Int.toNat_of_nonneg ht).symm (fun q => absurd q hP) (fun q => kk H locs ls hR hS hL hll)
theorem sd_if_icmp_eq {off : Int} {k pc : Nat} {L : qLo} {st : List Value} {M : qHp} {f : qCf} (C : qCx G p R s m args meth c z) (h : qStepI z (.if_icmp .eq off) k pc L st M = some (.inl f)) (hdg : decode (qB z) pc = .ok (.if_icmp .eq off, k)) (kk : qWp G p l e R s m args below meth c Q N0 S0 f) : qWp G p l e R s m args below meth c Q N0 S0 (pc, L, st, M) := by
  obtain ⟨hx, hb, hml, hown, hts, hTab, hin, hRm, hbase⟩ := C
  simp only [qStepI] at h
  split at h
  rotate_left
  · cases h
  rename_i hk
  obtain ⟨rfl, ht⟩ := hk
  split at h
  rotate_left
  · cases h
  split at h
  · rename_i hP
    cases h
    intro H locs ls hR hS hL hll
    exact lv_icmp_eq hx hb hdg (Int.toNat_of_nonneg ht).symm (fun q => kk H locs ls hR hS hL hll) (fun q => absurd hP q)
  · rename_i hP
    cases h
    intro H locs ls hR hS hL hll
    exact lv_icmp_eq hx hb hdg (Int.toNat_of_nonneg ht).symm (fun q => absurd q hP) (fun q => kk H locs ls hR hS hL hll)
theorem sd_if_icmp_ne {off : Int} {k pc : Nat} {L : qLo} {st : List Value} {M : qHp} {f : qCf} (C : qCx G p R s m args meth c z) (h : qStepI z (.if_icmp .ne off) k pc L st M = some (.inl f)) (hdg : decode (qB z) pc = .ok (.if_icmp .ne off, k)) (kk : qWp G p l e R s m args below meth c Q N0 S0 f) : qWp G p l e R s m args below meth c Q N0 S0 (pc, L, st, M) := by
  obtain ⟨hx, hb, hml, hown, hts, hTab, hin, hRm, hbase⟩ := C
  simp only [qStepI] at h
  split at h
  rotate_left
  · cases h
  rename_i hk
  obtain ⟨rfl, ht⟩ := hk
  split at h
  rotate_left
  · cases h
  split at h
  · rename_i hP
    cases h
    intro H locs ls hR hS hL hll
    exact lv_icmp_ne hx hb hdg (Int.toNat_of_nonneg ht).symm (fun q => absurd hP q) (fun q => kk H locs ls hR hS hL hll)
  · rename_i hP
    cases h
    intro H locs ls hR hS hL hll
    exact lv_icmp_ne hx hb hdg (Int.toNat_of_nonneg ht).symm (fun q => kk H locs ls hR hS hL hll) (fun q => absurd q hP)
theorem sd_if_icmp_lt {off : Int} {k pc : Nat} {L : qLo} {st : List Value} {M : qHp} {f : qCf} (C : qCx G p R s m args meth c z) (h : qStepI z (.if_icmp .lt off) k pc L st M = some (.inl f)) (hdg : decode (qB z) pc = .ok (.if_icmp .lt off, k)) (kk : qWp G p l e R s m args below meth c Q N0 S0 f) : qWp G p l e R s m args below meth c Q N0 S0 (pc, L, st, M) := by
  obtain ⟨hx, hb, hml, hown, hts, hTab, hin, hRm, hbase⟩ := C
  simp only [qStepI] at h
  split at h
  rotate_left
  · cases h
  rename_i hk
  obtain ⟨rfl, ht⟩ := hk
  split at h
  rotate_left
  · cases h
  split at h
  · rename_i hP
    cases h
    intro H locs ls hR hS hL hll
    exact lv_icmp_lt hx hb hdg (Int.toNat_of_nonneg ht).symm (fun q => kk H locs ls hR hS hL hll) (fun q => absurd hP q)
  · rename_i hP
    cases h
    intro H locs ls hR hS hL hll
    exact lv_icmp_lt hx hb hdg (Int.toNat_of_nonneg ht).symm (fun q => absurd q hP) (fun q => kk H locs ls hR hS hL hll)
theorem sd_if_icmp_ge {off : Int} {k pc : Nat} {L : qLo} {st : List Value} {M : qHp} {f : qCf} (C : qCx G p R s m args meth c z) (h : qStepI z (.if_icmp .ge off) k pc L st M = some (.inl f)) (hdg : decode (qB z) pc = .ok (.if_icmp .ge off, k)) (kk : qWp G p l e R s m args below meth c Q N0 S0 f) : qWp G p l e R s m args below meth c Q N0 S0 (pc, L, st, M) := by
  obtain ⟨hx, hb, hml, hown, hts, hTab, hin, hRm, hbase⟩ := C
  simp only [qStepI] at h
  split at h
  rotate_left
  · cases h
  rename_i hk
  obtain ⟨rfl, ht⟩ := hk
  split at h
  rotate_left
  · cases h
  split at h
  · rename_i hP
    cases h
    intro H locs ls hR hS hL hll
    exact lv_icmp_ge hx hb hdg (Int.toNat_of_nonneg ht).symm (fun q => kk H locs ls hR hS hL hll) (fun q => absurd hP q)
  · rename_i hP
    cases h
    intro H locs ls hR hS hL hll
    exact lv_icmp_ge hx hb hdg (Int.toNat_of_nonneg ht).symm (fun q => absurd q hP) (fun q => kk H locs ls hR hS hL hll)
theorem sd_if_icmp_gt {off : Int} {k pc : Nat} {L : qLo} {st : List Value} {M : qHp} {f : qCf} (C : qCx G p R s m args meth c z) (h : qStepI z (.if_icmp .gt off) k pc L st M = some (.inl f)) (hdg : decode (qB z) pc = .ok (.if_icmp .gt off, k)) (kk : qWp G p l e R s m args below meth c Q N0 S0 f) : qWp G p l e R s m args below meth c Q N0 S0 (pc, L, st, M) := by
  obtain ⟨hx, hb, hml, hown, hts, hTab, hin, hRm, hbase⟩ := C
  simp only [qStepI] at h
  split at h
  rotate_left
  · cases h
  rename_i hk
  obtain ⟨rfl, ht⟩ := hk
  split at h
  rotate_left
  · cases h
  split at h
  · rename_i hP
    cases h
    intro H locs ls hR hS hL hll
    exact lv_icmp_gt hx hb hdg (Int.toNat_of_nonneg ht).symm (fun q => kk H locs ls hR hS hL hll) (fun q => absurd hP q)
  · rename_i hP
    cases h
    intro H locs ls hR hS hL hll
    exact lv_icmp_gt hx hb hdg (Int.toNat_of_nonneg ht).symm (fun q => absurd q hP) (fun q => kk H locs ls hR hS hL hll)
theorem sd_if_icmp_le {off : Int} {k pc : Nat} {L : qLo} {st : List Value} {M : qHp} {f : qCf} (C : qCx G p R s m args meth c z) (h : qStepI z (.if_icmp .le off) k pc L st M = some (.inl f)) (hdg : decode (qB z) pc = .ok (.if_icmp .le off, k)) (kk : qWp G p l e R s m args below meth c Q N0 S0 f) : qWp G p l e R s m args below meth c Q N0 S0 (pc, L, st, M) := by
  obtain ⟨hx, hb, hml, hown, hts, hTab, hin, hRm, hbase⟩ := C
  simp only [qStepI] at h
  split at h
  rotate_left
  · cases h
  rename_i hk
  obtain ⟨rfl, ht⟩ := hk
  split at h
  rotate_left
  · cases h
  split at h
  · rename_i hP
    cases h
    intro H locs ls hR hS hL hll
    exact lv_icmp_le hx hb hdg (Int.toNat_of_nonneg ht).symm (fun q => kk H locs ls hR hS hL hll) (fun q => absurd hP q)
  · rename_i hP
    cases h
    intro H locs ls hR hS hL hll
    exact lv_icmp_le hx hb hdg (Int.toNat_of_nonneg ht).symm (fun q => absurd q hP) (fun q => kk H locs ls hR hS hL hll)
theorem sd_ifnull {off : Int} {k pc : Nat} {L : qLo} {st : List Value} {M : qHp} {f : qCf} (C : qCx G p R s m args meth c z) (h : qStepI z (.ifnull off) k pc L st M = some (.inl f)) (hdg : decode (qB z) pc = .ok (.ifnull off, k)) (kk : qWp G p l e R s m args below meth c Q N0 S0 f) : qWp G p l e R s m args below meth c Q N0 S0 (pc, L, st, M) := by
  obtain ⟨hx, hb, hml, hown, hts, hTab, hin, hRm, hbase⟩ := C
  simp only [qStepI] at h
  split at h
  rotate_left
  · cases h
  rename_i hk
  obtain ⟨rfl, ht⟩ := hk
  split at h
  · cases h
    intro H locs ls hR hS hL hll
    exact lv_ifnull hx hb hdg (kk H locs ls hR hS hL hll)
  · cases h
    intro H locs ls hR hS hL hll
    exact lv_ifnullN hx hb hdg (Int.toNat_of_nonneg ht).symm (kk H locs ls hR hS hL hll)
  · cases h
theorem sd_ifnonnull {off : Int} {k pc : Nat} {L : qLo} {st : List Value} {M : qHp} {f : qCf} (C : qCx G p R s m args meth c z) (h : qStepI z (.ifnonnull off) k pc L st M = some (.inl f)) (hdg : decode (qB z) pc = .ok (.ifnonnull off, k)) (kk : qWp G p l e R s m args below meth c Q N0 S0 f) : qWp G p l e R s m args below meth c Q N0 S0 (pc, L, st, M) := by
  obtain ⟨hx, hb, hml, hown, hts, hTab, hin, hRm, hbase⟩ := C
  simp only [qStepI] at h
  split at h
  rotate_left
  · cases h
  rename_i hk
  obtain ⟨rfl, ht⟩ := hk
  split at h
  · cases h
    intro H locs ls hR hS hL hll
    exact lv_ifnonnull hx hb hdg (Int.toNat_of_nonneg ht).symm (kk H locs ls hR hS hL hll)
  · cases h
    intro H locs ls hR hS hL hll
    exact lv_ifnonnullN hx hb hdg (kk H locs ls hR hS hL hll)
  · cases h
theorem sd_goto {off : Int} {k pc : Nat} {L : qLo} {st : List Value} {M : qHp} {f : qCf} (C : qCx G p R s m args meth c z) (h : qStepI z (.goto off) k pc L st M = some (.inl f)) (hdg : decode (qB z) pc = .ok (.goto off, k)) (kk : qWp G p l e R s m args below meth c Q N0 S0 f) : qWp G p l e R s m args below meth c Q N0 S0 (pc, L, st, M) := by
  obtain ⟨hx, hb, hml, hown, hts, hTab, hin, hRm, hbase⟩ := C
  simp only [qStepI] at h
  split at h
  rotate_left
  · cases h
  rename_i hk
  obtain ⟨rfl, ht⟩ := hk
  cases h
  intro H locs ls hR hS hL hll
  exact lv_goto hx hb hdg (Int.toNat_of_nonneg ht).symm (kk H locs ls hR hS hL hll)
theorem jp_some {pc : Nat} {off : Int} {L : qLo} {st : List Value} {M : qHp} {f : qCf} (h : jp pc off L st M = some (.inl f)) : (pc : Int) + off = ((((pc : Int) + off).toNat : Nat) : Int) ∧ f = (((pc : Int) + off).toNat, L, st, M) := by
  unfold jp at h
  split at h
  · rename_i ht
    cases h
    exact ⟨(Int.toNat_of_nonneg ht).symm, rfl⟩
  · cases h
theorem sd_tableswitch {d lo hi : Int} {offs : Array Int} {k pc : Nat} {L : qLo} {st : List Value} {M : qHp} {f : qCf} (C : qCx G p R s m args meth c z) (h : qStepI z (.tableswitch d lo hi offs) k pc L st M = some (.inl f)) (hdg : decode (qB z) pc = .ok (.tableswitch d lo hi offs, k)) (kk : qWp G p l e R s m args below meth c Q N0 S0 f) : qWp G p l e R s m args below meth c Q N0 S0 (pc, L, st, M) := by
  obtain ⟨hx, hb, hml, hown, hts, hTab, hin, hRm, hbase⟩ := C
  simp only [qStepI] at h
  split at h
  rotate_left
  · cases h
  split at h
  · rename_i x st ho
    obtain ⟨ht, rfl⟩ := jp_some h
    intro H locs ls hR hS hL hll
    exact lv_tableOut hx hb hdg ho ht (kk H locs ls hR hS hL hll)
  · rename_i x st ho
    split at h
    · rename_i off hof
      obtain ⟨ht, rfl⟩ := jp_some h
      intro H locs ls hR hS hL hll
      exact lv_tableIn hx hb hdg (fun q => ho (Or.inl q)) (fun q => ho (Or.inr q)) hof ht (kk H locs ls hR hS hL hll)
    · cases h
theorem sd_lookupswitch {d : Int} {ps : Array (Int × Int)} {k pc : Nat} {L : qLo} {st : List Value} {M : qHp} {f : qCf} (C : qCx G p R s m args meth c z) (h : qStepI z (.lookupswitch d ps) k pc L st M = some (.inl f)) (hdg : decode (qB z) pc = .ok (.lookupswitch d ps, k)) (kk : qWp G p l e R s m args below meth c Q N0 S0 f) : qWp G p l e R s m args below meth c Q N0 S0 (pc, L, st, M) := by
  obtain ⟨hx, hb, hml, hown, hts, hTab, hin, hRm, hbase⟩ := C
  simp only [qStepI] at h
  split at h
  rotate_left
  · cases h
  split at h
  · rename_i x st hp
    obtain ⟨ht, rfl⟩ := jp_some h
    intro H locs ls hR hS hL hll
    exact lv_lookup hx hb hdg hp rfl ht (kk H locs ls hR hS hL hll)
  · cases h
end QW
end
section
/-! the machine follows: fields, arrays, what is made -/
theorem va_P1 {D : va_G} {cl : List vw_C} {x : Nat × va_E} {H : Heap} (h : va_at D cl x H) : va_P D cl [x] H := by
  intro k q hk
  have hz : k < 1 := (List.getElem?_eq_some_iff.mp hk).1
  rw [show k = 0 by omega] at hk
  cases hk
  exact h
theorem arrV_congr {cI : ClassId} {N : Nat} {f g : Nat → Value} (h : ∀ j, j < N → f j = g j) : arrV cI N f = arrV cI N g := by
  unfold arrV
  congr 1
  apply Array.ext
  · simp
  · intro j h1 h2
    simp only [Array.getElem_ofFn]
    exact h j (by simpa using h1)
theorem qVf_at {G : qG} {vs : List Value} {j : Nat} {v : Value} (h : vs[j]? = some v) : qVf G vs j = cv G v := by
  unfold qVf
  simp [h]
theorem qVf_set {G : qG} {vs : List Value} {k : Nat} (hk : k < vs.length) (v : Value) : updV (qVf G vs) k (cv G v) = qVf G (vs.set k v) := by
  funext j
  show updV (vp_V (vs.map (cv G))) k (cv G v) j = vp_V ((vs.set k v).map (cv G)) j
  rw [List.map_set, vp_updV_set (by simpa using hk)]
theorem qFit_ok {G : qG} {ty : FieldType} {v : Value} (h : qFit ty v = true) : narrow ty (cv G v) = cv G v ∧ fits ty (cv G v) = true := by
  unfold qFit at h
  split at h
  · split at h
    · exact ⟨rfl, rfl⟩
    · cases h
  · split at h
    · rename_i x
      have hx : (x.toUInt32 % 65536).toInt32 = x := by simpa using h
      have h1 := pk_nc x
      have h2 := pk_fc x
      rw [hx] at h1 h2
      exact ⟨h1, h2⟩
    · cases h
  · split at h
    · exact ⟨rfl, rfl⟩
    · cases h
  · split at h
    · exact ⟨rfl, rfl⟩
    · cases h
  · cases h
theorem hG_some {M : qHp} {a c k : Nat} {v : Value} (h : hG M a c k = some v) : ∃ vs, M.2 a = some (c, vs) ∧ vs[k]? = some v := by
  obtain ⟨q, hq, h1⟩ := Option.bind_eq_some_iff.mp h
  obtain ⟨t, vs⟩ := q
  simp only at h1
  split at h1
  · rename_i e
    subst e
    exact ⟨vs, hq, h1⟩
  · cases h1
theorem hP_some {M M1 : qHp} {a c k : Nat} {ty : FieldType} {v : Value} (h : hP M a c k ty v = some M1) : ∃ vs, M.2 a = some (c, vs) ∧ k < vs.length ∧ qFit ty v = true ∧ M1 = hU M a (c, vs.set k v) := by
  obtain ⟨q, hq, h1⟩ := Option.bind_eq_some_iff.mp h
  obtain ⟨t, vs⟩ := q
  simp only at h1
  split at h1
  · rename_i e
    obtain ⟨rfl, e2, e3⟩ := e
    cases h1
    exact ⟨vs, hq, e2, e3, rfl⟩
  · cases h1
theorem hL_some {M : qHp} {t a : Nat} {i : Int32} {v : Value} (h : hL M t a i = some v) : ∃ vs, M.2 a = some (t, vs) ∧ ¬ i < 0 ∧ vs[i.toNatClampNeg]? = some v := by
  obtain ⟨q, hq, h1⟩ := Option.bind_eq_some_iff.mp h
  obtain ⟨t', vs⟩ := q
  simp only at h1
  split at h1
  · rename_i e
    obtain ⟨rfl, e2⟩ := e
    exact ⟨vs, hq, e2, h1⟩
  · cases h1
theorem hLI_some {M : qHp} {a : Nat} {i : Int32} {v : Value} (h : hLI M a i = some v) : ∃ t vs, (t = 8 ∨ t = 14) ∧ M.2 a = some (t, vs) ∧ ¬ i < 0 ∧ vs[i.toNatClampNeg]? = some v := by
  obtain ⟨q, hq, h1⟩ := Option.bind_eq_some_iff.mp h
  obtain ⟨t', vs⟩ := q
  simp only at h1
  split at h1
  · rename_i e
    exact ⟨t', vs, e.1, hq, e.2, h1⟩
  · cases h1
theorem hLA_some {M : qHp} {a : Nat} {i : Int32} {v : Value} (h : hLA M a i = some v) : ∃ t vs, (11 ≤ t ∧ t ≤ 13) ∧ M.2 a = some (t, vs) ∧ ¬ i < 0 ∧ vs[i.toNatClampNeg]? = some v := by
  obtain ⟨q, hq, h1⟩ := Option.bind_eq_some_iff.mp h
  obtain ⟨t', vs⟩ := q
  simp only at h1
  split at h1
  · rename_i e
    exact ⟨t', vs, e.1, hq, e.2, h1⟩
  · cases h1
theorem hS_some {M M1 : qHp} {t a : Nat} {i : Int32} {v : Value} (h : hS M t a i v = some M1) : ∃ vs, M.2 a = some (t, vs) ∧ ¬ i < 0 ∧ i.toNatClampNeg < vs.length ∧ M1 = hU M a (t, vs.set i.toNatClampNeg v) := by
  obtain ⟨q, hq, h1⟩ := Option.bind_eq_some_iff.mp h
  obtain ⟨t', vs⟩ := q
  simp only at h1
  split at h1
  · rename_i e
    obtain ⟨rfl, e2, e3⟩ := e
    cases h1
    exact ⟨vs, hq, e2, e3, rfl⟩
  · cases h1
theorem hSA_some {M M1 : qHp} {a b : Nat} {i : Int32} (h : hSA M a i b = some M1) : ∃ t vs c ws, M.2 a = some (t, vs) ∧ M.2 b = some (c, ws) ∧ qCo2 t = some c ∧ ¬ i < 0 ∧ i.toNatClampNeg < vs.length ∧ M1 = hU M a (t, vs.set i.toNatClampNeg (.ref b)) := by
  obtain ⟨q, hq, h1⟩ := Option.bind_eq_some_iff.mp h
  obtain ⟨o, ho, h2⟩ := Option.bind_eq_some_iff.mp h1
  obtain ⟨t, vs⟩ := q
  obtain ⟨c, ws⟩ := o
  simp only at h2
  split at h2
  · rename_i e
    cases h2
    exact ⟨t, vs, c, ws, hq, ho, e.1, e.2.1, e.2.2, rfl⟩
  · cases h2
theorem qCo2_some {t c : Nat} (h : qCo2 t = some c) : (t = 11 ∧ c = 0) ∨ (t = 12 ∧ c = 3) ∨ (t = 13 ∧ c = 1) := by
  unfold qCo2 at h
  split at h
  · cases h; exact Or.inl ⟨by assumption, rfl⟩
  · split at h
    · cases h; exact Or.inr (Or.inl ⟨by assumption, rfl⟩)
    · split at h
      · cases h; exact Or.inr (Or.inr ⟨by assumption, rfl⟩)
      · cases h
theorem qTg_some {t c : Nat} (h : qTg c = some t) : (t = 11 ∧ c = 0) ∨ (t = 12 ∧ c = 3) ∨ (t = 13 ∧ c = 1) := by
  unfold qTg at h
  split at h
  · cases h; exact Or.inl ⟨rfl, by assumption⟩
  · split at h
    · cases h; exact Or.inr (Or.inl ⟨rfl, by assumption⟩)
    · split at h
      · cases h; exact Or.inr (Or.inr ⟨rfl, by assumption⟩)
      · cases h
theorem qInts_at {vs : List Value} (h : qInts vs = true) {j : Nat} {v : Value} (hj : vs[j]? = some v) : ∃ x : Int32, v = .int x := by
  have h1 := List.all_eq_true.mp h v (List.mem_of_getElem? hj)
  cases v <;> first | exact ⟨_, rfl⟩ | (simp at h1)
def qI (v : Value) : Int32 := match v with
  | .int x => x
  | _ => 0
theorem qInts_get {G : qG} {vs : List Value} (h : qInts vs = true) {j : Nat} (hj : j < vs.length) : qVf G vs j = .int (qI (vs.getD j .null)) := by
  have e : vs[j]? = some vs[j] := List.getElem?_eq_getElem hj
  obtain ⟨x, hx⟩ := qInts_at h e
  rw [qVf_at e, hx]
  simp [hj, hx, qI, cv]
theorem hC_some {M M1 : qHp} {a b : Nat} {s d n : Int32} (h : hC M a s b d n = some M1) : ∃ vs ws, M.2 a = some (8, vs) ∧ M.2 b = some (8, ws) ∧ (¬ s < 0 ∧ ¬ d < 0 ∧ ¬ n < 0) ∧ (s.toNatClampNeg + n.toNatClampNeg ≤ vs.length ∧ d.toNatClampNeg + n.toNatClampNeg ≤ ws.length) ∧ (qInts vs = true ∧ qInts ws = true) ∧ M1 = hU M b (8, qCpy vs ws s.toNatClampNeg d.toNatClampNeg n.toNatClampNeg) := by
  obtain ⟨q, hq, h1⟩ := Option.bind_eq_some_iff.mp h
  obtain ⟨o, ho, h2⟩ := Option.bind_eq_some_iff.mp h1
  obtain ⟨t, vs⟩ := q
  obtain ⟨c, ws⟩ := o
  simp only at h2
  split at h2
  · rename_i e
    obtain ⟨⟨rfl, rfl⟩, e2, e3, e4⟩ := e
    cases h2
    exact ⟨vs, ws, hq, ho, e2, e3, e4, rfl⟩
  · cases h2
section QH
variable {G : qG} {p : Program} {l : Launch} {e : Env} {R : Room} {s : State} {m : MethodId} {args : Array Value} {below : List Frame} {meth : Method} {c : Code} {H : Heap} {locs : List Loc} {cells slots : Nat} {Q : State → Prop} {z N0 S0 : Nat}
variable {cc : ByteArray} {pc : Nat} {ls : Array Slot} {rest : List Value} {D : va_G} {cl : List vw_C} {a : Nat} {tys : List (ClassId × FieldType)}
theorem q_put (hexec : p.tables.exec = Jvm.exec) (hb : c.code = cc) {own ref C : String} {T : u_T} {N ci index : Nat} {Ts : List Jvm.Cond} (hts : ∀ w ∈ Ts, w.before args s = true) (hin : ∀ w ∈ u_ws C T N, w ∈ Ts) (ty0 : Nat → FieldType) (hty : ∀ k, k < N → parseFieldDescriptor (T k).2.2.1 = some (ty0 k)) (hnm : ∀ a, a < N → ∀ b, b < N → a ≠ b → (T a).2.1 ≠ (T b).2.1) (hown : s.vm.findClass own = some m.cls) (hK : va_K D cl tys s) {fs : List Value} (hP : t_OB a (D.1 ci) N (D.2 ci) H (vp_V fs)) (hc : cl[ci]? = some (C, T, N)) (k : Nat) (hk : k < N) (hlink : (Cond.fieldLink own index ref (T k).2.1 (T k).2.2.1).before args s = true) (hsame : ∀ x, s.fieldFound? (T k).1 (T k).2.1 (T k).2.2.1 = some x → s.fieldFound? ref (T k).2.1 (T k).2.2.1 = some x) (hfin : (T k).2.2.2 = true → meth.name = "<init>" ∧ (T k).1 = own) {ty : FieldType} {v : Value} (hd : parseFieldDescriptor (T k).2.2.1 = some ty) (hn : narrow ty v = v) (hfit : fits ty v = true) (hl : k < fs.length)
    (hdg : decode cc pc = .ok (.putfield index, 3)) (kk : ∀ (H1 : Heap) (j : Nat), t_OB a (D.1 ci) N (D.2 ci) H1 (vp_V (fs.set k v)) → H1.size = H.size → (∀ q : Nat, q ≠ a → H1[q]? = H[q]?) → W p l e R s m args below meth c H1 (locs ++ [⟨a, j⟩]) cells slots Q (F0 m (pc + 3) ls rest)) : W p l e R s m args below meth c H locs cells slots Q (F0 m pc ls (v :: .ref a :: rest)) := by
  have hap := va_apart (own := own) hts hin ty0 hty hnm hK hc
  obtain ⟨cell, q1, q2, q3, q4⟩ := hP
  obtain ⟨hS, hfc, kC, hkC, hkind⟩ := hK.1 ci _ hc
  obtain ⟨cf, kf, fi, f, hi, hsl⟩ := hS k hk
  have hlay := hts _ (hin _ (u_in_lay hk))
  have hst := (u_facts hfc hkC (u_lays hts hin hk) hi).1
  have fin1 : ∀ (H' : Heap), H'[a]? = some (cell.setSlot f.slot v) → H'.size = H.size → (∀ q, q ≠ a → H'[q]? = H[q]?) → W p l e R s m args below meth c H' (locs ++ [⟨a, f.slot⟩]) cells slots Q (F0 m (pc + 3) ls rest) := by
    intro H' e1 e2 e3
    rw [hsl] at e1 ⊢
    exact kk H' _ (t_OB.to (V := updV (vp_V fs) k v) ⟨_, e1, q2, q3, t_set q4 hap hk v⟩ (fun j _ => vp_updV_set hl v j)) e2 e3
  unfold u_lay at hlay
  by_cases hf : (T k).2.2.2 = true
  · rw [if_pos hf] at hlay
    obtain ⟨hin2, hdecl⟩ := hfin hf
    have hcf : m.cls = cf := by
      obtain ⟨_, _, c', _, _, _, -, -, hf', -, -, -, hown2, -⟩ := Cond.laysFinal_spec hlay
      have e1 : c' = cf := by have := hi.symm.trans hf'; simp at this; exact this.1.symm
      rw [hdecl] at hown2
      rw [← e1]; exact Option.some.inj (hown.symm.trans hown2)
    have h6 := u_fits hfc hkC hkind (Or.inr hlay) hi hd hn hfit
    exact W.putFinK hexec hb hown hlink (hsame _ hi) hst hcf hin2 (by rw [q2]; exact h6) q1 q3 (by rw [hsl]; exact k2_hasslot (q4 k hk)) rfl rfl hdg fin1
  · rw [if_neg hf] at hlay
    have h6 := u_store hfc hkC hkind hlay hi hd hn hfit
    exact W.putK hexec hb (f := f) ⟨hown, hlink, ⟨_, _, _, hsame _ hi⟩, hst⟩ (by rw [q2]; exact h6) q1 q3 (by rw [hsl]; exact k2_hasslot (q4 k hk)) rfl rfl hdg fin1
theorem q_copy {cc : ByteArray} (hexec : p.tables.exec = Jvm.exec) (hb : c.code = cc) (hml : c.maxLocals = ls.size) {own : String} {index : Nat} (hown : s.vm.findClass own = some m.cls) (hlink : (Cond.methodLink own index arraycopyName).before args s = true) (hnat : (Cond.native arraycopyName).before args s = true) (hstat : (Cond.static arraycopyName).before args s = true) (hini : (Cond.initialized "java/lang/System").before args s = true)
    {a0 : Nat} {c0 c1 : ClassId} {n0 n1 : Nat} {f g : Nat → Int32} {ty : FieldType} (hA0 : ArrOfT s c0 ty) (hA1 : ArrOfT s c1 ty) (hc0 : H[a0]? = some (arrV c0 n0 (fun j => .int (f j)))) (hc1 : H[a]? = some (arrV c1 n1 (fun j => .int (g j)))) (hprim : refKind ty = false)
    {sp dp n : Int32} (h1 : ¬ sp < 0) (h2 : ¬ dp < 0) (h3 : ¬ n < 0) (h4 : sp.toNatClampNeg + n.toNatClampNeg ≤ n0) (h5 : dp.toNatClampNeg + n.toNatClampNeg ≤ n1) (hfit : ∀ i, i < n.toNatClampNeg → fits ty (.int (f (sp.toNatClampNeg + i))) = true)
    (hframes : 1 ≤ R.frames) (hlocals : (rest.map fun v => v.category).sum + (nativeFrameWords "java/lang/System" "arraycopy" 5 + 11) ≤ R.locals) (hdg : decode cc pc = .ok (.invokestatic index, 3))
    (kk : ∀ (H1 : Heap) (l1 : List Loc), H1[a]? = some (arrV c1 n1 (fun j => .int (va_cpy f g sp.toNatClampNeg dp.toNatClampNeg n.toNatClampNeg j))) → H1.size = H.size → (∀ q : Nat, q ≠ a → H1[q]? = H[q]?) → (∀ q ∈ l1, q.base = a) → W p l e R s m args below meth c H1 (locs ++ l1) cells slots Q (F0 m (pc + 3) ls rest)) : W p l e R s m args below meth c H locs cells slots Q (F0 m pc ls (.int n :: .int dp :: .ref a :: .int sp :: .ref a0 :: rest)) := by
  have nn : ∀ z : Int32, ¬ z < 0 → z.toInt = (z.toNatClampNeg : Int) := by
    intro z hz
    have hz0 : (0 : Int) ≤ z.toInt := by
      have := Int32.not_lt.mp hz
      simpa using Int32.le_iff_toInt_le.mp this
    show z.toInt = ((z.toInt.toNat : Nat) : Int)
    omega
  intro T hT X
  obtain ⟨-, k0, hk0, cm0, hkk0⟩ := hA0 n0 (fun j => .int (f j))
  obtain ⟨-, k1, hk1, cm1, hkk1⟩ := hA1 n1 (fun j => .int (g j))
  obtain ⟨vm', X', step⟩ := X.arraycopy hexec hown hlink hnat hstat hini (src := a0) (dst := a) (cs := arrV c0 n0 (fun j => .int (f j))) (cd := arrV c1 n1 (fun j => .int (g j))) (srcPos := sp) (destPos := dp) (n := n) (by rw [hT]; exact hc0) (by rw [hT]; exact hc1)
    (fun _ h => by cases h) (fun _ h => by cases h) (fun h => by cases h) (fun h => by cases h) hk0 hk1 hkk0 hkk1 (by simp [hprim]) h1 h2 h3
    (by rw [nn sp h1, nn n h3, arrV_size]; omega)
    (by rw [nn dp h2, nn n h3, arrV_size]; omega)
    (fun vm₁ _ i hi => by
      have e : (arrV c0 n0 (fun j => .int (f j))).slots.getD (sp.toNatClampNeg + i) .null = .int (f (sp.toNatClampNeg + i)) := by
        rw [Array.getD_eq_getD_getElem?, arrV_read _ _ (by omega)]
        rfl
      refine ⟨?_, ?_⟩
      · rw [e]
        exact hfit i hi
      · rw [e]
        exact trivial)
    (g := F0 m pc ls (.int n :: .int dp :: .ref a :: .int sp :: .ref a0 :: rest)) rfl (by rw [hml]) (rest := rest) rfl (by rw [hb]; exact hdg) hframes (by show 2 * 0 + _ + _ ≤ _; omega)
  have e1 : copied (arrV c0 n0 (fun j => .int (f j))) (arrV c1 n1 (fun j => .int (g j))) sp dp n = arrV c1 n1 (fun j => .int (va_cpy f g sp.toNatClampNeg dp.toNatClampNeg n.toNatClampNeg j)) := va_copied (fun z => .int z) c0 c1 f g h4
  rw [e1] at X' step
  have hl : a < H.size := (Array.getElem?_eq_some_iff.mp hc1).1
  have hheap : ((T.setVm vm').setCell a (arrV c1 n1 (fun j => .int (va_cpy f g sp.toNatClampNeg dp.toNatClampNeg n.toNatClampNeg j)))).heap = H.setIfInBounds a (arrV c1 n1 (fun j => .int (va_cpy f g sp.toNatClampNeg dp.toNatClampNeg n.toNatClampNeg j))) := by rw [← hT]; rfl
  have oq : ∀ q : Nat, q ≠ a → (H.setIfInBounds a (arrV c1 n1 (fun j => .int (va_cpy f g sp.toNatClampNeg dp.toNatClampNeg n.toNatClampNeg j))))[q]? = H[q]? := fun q hq => by simp [Array.getElem?_setIfInBounds, Ne.symm hq]
  obtain ⟨t, a1, b1⟩ := kk _ _ (show (H.setIfInBounds a _)[a]? = some _ by simp [Array.getElem?_setIfInBounds, hl]) (by simp) oq (fun q hq => by
      obtain ⟨z, -, hz⟩ := List.mem_map.mp hq
      rw [← hz]) _ hheap X'
  exact ⟨t, step t a1, b1⟩
theorem qS_put {H1 : Heap} {k : Nat} (hS : va_S (gA G) s.heap H locs) (hz : H1.size = H.size) (ho : ∀ q : Nat, q ≠ a → H1[q]? = H[q]?) (ha : gA G a) : va_S (gA G) s.heap H1 (locs ++ [⟨a, k⟩]) := hS.put hz ho ha
theorem sd_getfield {i k : Nat} {L : qLo} {st : List Value} {M : qHp} {f : qCf} (C : qCx G p R s m args meth c z) (h : qStepI z (.getfield i) k pc L st M = some (.inl f)) (hdg : decode (qB z) pc = .ok (.getfield i, k)) (kk : qWp G p l e R s m args below meth c Q N0 S0 f) : qWp G p l e R s m args below meth c Q N0 S0 (pc, L, st, M) := by
  obtain ⟨hx, hb, hml, hown, hts, hTab, hin, hRm, hbase⟩ := C
  simp only [qStepI] at h
  split at h
  rotate_left
  · cases h
  rename_i hk
  subst hk
  split at h
  rotate_left
  · cases h
  obtain ⟨⟨ci, k⟩, hq, h⟩ := Option.bind_eq_some_iff.mp h
  obtain ⟨v, hv, h⟩ := Option.bind_eq_some_iff.mp h
  cases h
  obtain ⟨vs, hM, hvs⟩ := hG_some hv
  obtain ⟨h8, hkn, hlk⟩ := q_fld hq
  intro H locs ls hR hS hL hll
  have hc := hR.at hM
  unfold qCell at hc
  rw [if_pos h8] at hc
  refine va_get (D := G.2.1) (C := qR ci) (T := qT ci) (N := qN ci) (ci := ci) hx hb hts (q_lay _ h8) hown hTab.1 (va_P1 (x := (adr G _, .inr (ci, vs.map (cv G)))) ⟨_, qCl_at _ h8, hc.2⟩) 0 rfl (qCl_at _ h8) k hkn (hts _ hlk) (fun x h9 => by rw [q_dc _ h8 _ hkn] at h9; exact h9) (v := cv G v) (by rw [List.getElem?_map, hvs]; rfl) hdg (kk H locs ls hR hS hL hll)
theorem sd_putfield {i k : Nat} {L : qLo} {st : List Value} {M : qHp} {f : qCf} (C : qCx G p R s m args meth c z) (h : qStepI z (.putfield i) k pc L st M = some (.inl f)) (hdg : decode (qB z) pc = .ok (.putfield i, k)) (kk : qWp G p l e R s m args below meth c Q N0 S0 f) : qWp G p l e R s m args below meth c Q N0 S0 (pc, L, st, M) := by
  obtain ⟨hx, hb, hml, hown, hts, hTab, hin, hRm, hbase⟩ := C
  simp only [qStepI] at h
  split at h
  rotate_left
  · cases h
  rename_i hk
  subst hk
  split at h
  rotate_left
  · cases h
  obtain ⟨⟨ci, k⟩, hq, h⟩ := Option.bind_eq_some_iff.mp h
  simp only at h
  split at h
  · cases h
  rename_i hfin
  obtain ⟨M1, hM1, h⟩ := Option.bind_eq_some_iff.mp h
  cases h
  obtain ⟨vs, hM, hkl, hfit, rfl⟩ := hP_some hM1
  obtain ⟨h8, hkn, hlk⟩ := q_fld hq
  intro H locs ls hR hS hL hll
  have hc := hR.at hM
  unfold qCell at hc
  rw [if_pos h8] at hc
  have h4 := hR.four hM (by show ci ≠ 14; omega)
  have hfo := qFit_ok (G := G) hfit
  refine q_put (D := G.2.1) (C := qR ci) (T := qT ci) (N := qN ci) (ci := ci) hx hb hts (q_lay _ h8) (qV ci) (q_ty _ h8) (q_nm _ h8) hown hTab.1 hc.2 (qCl_at _ h8) k hkn (hts _ hlk) (fun x h9 => by rw [q_dc _ h8 _ hkn] at h9; exact h9) (fun hf => ?_) (q_ty _ h8 _ hkn) hfo.1 hfo.2 (by simpa using hkl) hdg (fun H1 j o1 o2 o3 => ?_)
  · have h2 : qK z = 2 ∧ qO z = ci := Classical.byContradiction fun q => hfin ⟨hf, q⟩
    exact ⟨hin h2.1, by rw [q_dc _ h8 _ hkn, h2.2]⟩
  · refine kk H1 _ ls (hR.set hM rfl h4 o2 o3 ?_) (qS_put hS o2 o3 (adr_A h4)) hL hll
    unfold qCell
    rw [if_pos h8]
    refine ⟨by rw [List.length_set]; exact hc.1, ?_⟩
    rw [List.map_set]
    exact o1
theorem sd_getstatic {i k : Nat} {L : qLo} {st : List Value} {M : qHp} {f : qCf} (C : qCx G p R s m args meth c z) (h : qStepI z (.getstatic i) k pc L st M = some (.inl f)) (hdg : decode (qB z) pc = .ok (.getstatic i, k)) (kk : qWp G p l e R s m args below meth c Q N0 S0 f) : qWp G p l e R s m args below meth c Q N0 S0 (pc, L, st, M) := by
  obtain ⟨hx, hb, hml, hown, hts, hTab, hin, hRm, hbase⟩ := C
  simp only [qStepI] at h
  split at h
  rotate_left
  · cases h
  rename_i hk
  subst hk
  obtain ⟨⟨b, t⟩, hq, h⟩ := Option.bind_eq_some_iff.mp h
  cases h
  intro H locs ls hR hS hL hll
  cases b with
  | false =>
    obtain ⟨h14, hlk⟩ := q_sta hq
    exact va_gets hx hb (hTab.2.2.2.2.1 t h14.1 h14.2) hS hown (hts _ hlk) (fun _ h9 => h9) hdg (kk H locs ls hR hS hL hll)
  | true =>
    unfold qSta at hq
    split at hq
    · cases hq
    · obtain ⟨q, hq1, he⟩ := Option.map_eq_some_iff.mp hq
      have hp := List.find?_some hq1
      simp only [Bool.and_eq_true, beq_iff_eq] at hp
      obtain ⟨e1, e2⟩ := hp
      have hmem := List.mem_of_find?_eq_some hq1
      have ht : q.2.2.1 = t := by simpa using he
      have h14 : 1 ≤ q.2.2.1 ∧ q.2.2.1 < 4 := by
        have : qSlN.all (fun q => decide (1 ≤ q.2.2.1 ∧ q.2.2.1 < 4)) = true := by decide +kernel
        simpa using List.all_eq_true.mp this q hmem
      have hn := hTab.2.2.1 q hmem
      rw [e1, e2] at hn
      subst ht
      exact va_getsN hx hb (hTab.2.2.2.2.1 _ h14.1 h14.2) hS hown (va_Nw.use rfl hn) (fun _ h9 => h9) hdg (kk H locs ls hR hS hL hll)
theorem sd_iaload {k : Nat} {L : qLo} {st : List Value} {M : qHp} {f : qCf} (C : qCx G p R s m args meth c z) (h : qStepI z .iaload k pc L st M = some (.inl f)) (hdg : decode (qB z) pc = .ok (.iaload, k)) (kk : qWp G p l e R s m args below meth c Q N0 S0 f) : qWp G p l e R s m args below meth c Q N0 S0 (pc, L, st, M) := by
  obtain ⟨hx, hb, hml, hown, hts, hTab, hin, hRm, hbase⟩ := C
  simp only [qStepI] at h
  split at h
  rotate_left
  · cases h
  rename_i hk
  subst hk
  split at h
  rotate_left
  · cases h
  obtain ⟨v, hv, h⟩ := Option.bind_eq_some_iff.mp h
  cases h
  obtain ⟨t, vs, ht, hM, hi, hvs⟩ := hLI_some hv
  intro H locs ls hR hS hL hll
  have hc := hR.at hM
  unfold qCell at hc
  have hlt := (List.getElem?_eq_some_iff.mp hvs).1
  rcases ht with rfl | rfl
  · rw [if_neg (by show ¬ 8 < 8; omega), if_neg (by show ¬ 8 = 14; omega)] at hc
    exact W.iald (v := cv G v) hx hb hc ((hTab.1.2 0 _ rfl).1 _ _) (fun q => by cases q) (by rw [arrV_size]; exact fun q => q.elim hi (fun q => absurd hlt (Nat.not_lt.mpr q))) (by rw [arrV_read _ _ hlt, qVf_at hvs]) rfl rfl hdg (kk H locs ls hR hS hL hll)
  · rw [if_neg (by show ¬ 14 < 8; omega), if_pos rfl] at hc
    obtain ⟨ha4, he⟩ := hc
    simp only at he
    subst he
    obtain ⟨x, rfl⟩ := qInts_at (hTab.2.2.2.2.2.2 _ ha4) hvs
    exact va_ti (v := .int x) hx hb (hTab.2.2.2.2.2.1 _ ha4) hS (fun q => q.elim hi (fun q => absurd hlt (Nat.not_lt.mpr q))) (by simp [hvs]) hdg (kk H locs ls hR hS hL hll)
theorem sd_arraylength {k : Nat} {L : qLo} {st : List Value} {M : qHp} {f : qCf} (C : qCx G p R s m args meth c z) (h : qStepI z .arraylength k pc L st M = some (.inl f)) (hdg : decode (qB z) pc = .ok (.arraylength, k)) (kk : qWp G p l e R s m args below meth c Q N0 S0 f) : qWp G p l e R s m args below meth c Q N0 S0 (pc, L, st, M) := by
  obtain ⟨hx, hb, hml, hown, hts, hTab, hin, hRm, hbase⟩ := C
  simp only [qStepI] at h
  split at h
  rotate_left
  · cases h
  rename_i hk
  subst hk
  split at h
  rotate_left
  · cases h
  obtain ⟨⟨t, vs⟩, hM, h⟩ := Option.bind_eq_some_iff.mp h
  simp only at h
  split at h
  rotate_left
  · cases h
  rename_i ht
  subst ht
  cases h
  intro H locs ls hR hS hL hll
  have hc := hR.at hM
  unfold qCell at hc
  rw [if_neg (by show ¬ 14 < 8; omega), if_pos rfl] at hc
  obtain ⟨ha4, he⟩ := hc
  simp only at he
  subst he
  exact va_tlen hx hb (hTab.2.2.2.2.2.1 _ ha4) hS rfl hdg (kk H locs ls hR hS hL hll)
theorem sd_baload {k : Nat} {L : qLo} {st : List Value} {M : qHp} {f : qCf} (C : qCx G p R s m args meth c z) (h : qStepI z .baload k pc L st M = some (.inl f)) (hdg : decode (qB z) pc = .ok (.baload, k)) (kk : qWp G p l e R s m args below meth c Q N0 S0 f) : qWp G p l e R s m args below meth c Q N0 S0 (pc, L, st, M) := by
  obtain ⟨hx, hb, hml, hown, hts, hTab, hin, hRm, hbase⟩ := C
  simp only [qStepI] at h
  split at h
  rotate_left
  · cases h
  rename_i hk
  subst hk
  split at h
  rotate_left
  · cases h
  obtain ⟨v, hv, h⟩ := Option.bind_eq_some_iff.mp h
  cases h
  obtain ⟨vs, hM, hi, hvs⟩ := hL_some hv
  intro H locs ls hR hS hL hll
  have hc := hR.at hM
  unfold qCell at hc
  have hlt := (List.getElem?_eq_some_iff.mp hvs).1
  rw [if_neg (by show ¬ 9 < 8; omega), if_neg (by show ¬ 9 = 14; omega)] at hc
  exact W.zald (v := cv G v) hx hb hc ((hTab.1.2 1 _ rfl).1 _ _) (fun q => by cases q) (by rw [arrV_size]; exact fun q => q.elim hi (fun q => absurd hlt (Nat.not_lt.mpr q))) (by rw [arrV_read _ _ hlt, qVf_at hvs]) rfl rfl hdg (kk H locs ls hR hS hL hll)
theorem sd_caload {k : Nat} {L : qLo} {st : List Value} {M : qHp} {f : qCf} (C : qCx G p R s m args meth c z) (h : qStepI z .caload k pc L st M = some (.inl f)) (hdg : decode (qB z) pc = .ok (.caload, k)) (kk : qWp G p l e R s m args below meth c Q N0 S0 f) : qWp G p l e R s m args below meth c Q N0 S0 (pc, L, st, M) := by
  obtain ⟨hx, hb, hml, hown, hts, hTab, hin, hRm, hbase⟩ := C
  simp only [qStepI] at h
  split at h
  rotate_left
  · cases h
  rename_i hk
  subst hk
  split at h
  rotate_left
  · cases h
  obtain ⟨v, hv, h⟩ := Option.bind_eq_some_iff.mp h
  cases h
  obtain ⟨vs, hM, hi, hvs⟩ := hL_some hv
  intro H locs ls hR hS hL hll
  have hc := hR.at hM
  unfold qCell at hc
  have hlt := (List.getElem?_eq_some_iff.mp hvs).1
  rw [if_neg (by show ¬ 10 < 8; omega), if_neg (by show ¬ 10 = 14; omega)] at hc
  exact W.cald (v := cv G v) hx hb hc ((hTab.1.2 2 _ rfl).1 _ _) (fun q => by cases q) (by rw [arrV_size]; exact fun q => q.elim hi (fun q => absurd hlt (Nat.not_lt.mpr q))) (by rw [arrV_read _ _ hlt, qVf_at hvs]) rfl rfl hdg (kk H locs ls hR hS hL hll)
theorem sd_aaload {k : Nat} {L : qLo} {st : List Value} {M : qHp} {f : qCf} (C : qCx G p R s m args meth c z) (h : qStepI z .aaload k pc L st M = some (.inl f)) (hdg : decode (qB z) pc = .ok (.aaload, k)) (kk : qWp G p l e R s m args below meth c Q N0 S0 f) : qWp G p l e R s m args below meth c Q N0 S0 (pc, L, st, M) := by
  obtain ⟨hx, hb, hml, hown, hts, hTab, hin, hRm, hbase⟩ := C
  simp only [qStepI] at h
  split at h
  rotate_left
  · cases h
  rename_i hk
  subst hk
  split at h
  rotate_left
  · cases h
  obtain ⟨v, hv, h⟩ := Option.bind_eq_some_iff.mp h
  cases h
  obtain ⟨t, vs, ht, hM, hi, hvs⟩ := hLA_some hv
  intro H locs ls hR hS hL hll
  have hc := hR.at hM
  unfold qCell at hc
  have hlt := (List.getElem?_eq_some_iff.mp hvs).1
  rw [if_neg (by show ¬ t < 8; omega), if_neg (by show ¬ t = 14; omega)] at hc
  obtain ⟨ty, hA, hrf⟩ : ∃ ty, ArrOfT s (G.2.1.1 t) ty ∧ ty.isReference = true := by
    rcases (show t = 11 ∨ t = 12 ∨ t = 13 by omega) with rfl | rfl | rfl
    · exact ⟨_, (hTab.1.2 3 _ rfl).1, rfl⟩
    · exact ⟨_, (hTab.1.2 4 _ rfl).1, rfl⟩
    · exact ⟨_, (hTab.1.2 5 _ rfl).1, rfl⟩
  exact W.aald (v := cv G v) hx hb hc (hA _ _) hrf (fun q => by cases q) (by rw [arrV_size]; exact fun q => q.elim hi (fun q => absurd hlt (Nat.not_lt.mpr q))) (by rw [arrV_read _ _ hlt, qVf_at hvs]) rfl rfl hdg (kk H locs ls hR hS hL hll)
theorem qArr_set {M : qHp} {H1 : Heap} {t i : Nat} {vs : List Value} {v : Value} (hR : qRep G M H) (hM : M.2 a = some (t, vs)) (ht : 8 ≤ t ∧ t ≠ 14) (hi : i < vs.length) (he : H1[adr G a]? = some ((arrV (G.2.1.1 t) vs.length (qVf G vs)).setSlot i (cv G v))) (hz : H1.size = H.size) (ho : ∀ q, q ≠ adr G a → H1[q]? = H[q]?) : qRep G (hU M a (t, vs.set i v)) H1 := by
  refine hR.set hM rfl (hR.four hM ht.2) hz ho ?_
  unfold qCell
  rw [if_neg (by show ¬ t < 8; omega), if_neg (by show ¬ t = 14; exact ht.2)]
  rw [he, arrV_store, qVf_set hi]
  show _ = some (arrV (G.2.1.1 t) (vs.set i v).length _)
  rw [List.length_set]
theorem sd_iastore {k : Nat} {L : qLo} {st : List Value} {M : qHp} {f : qCf} (C : qCx G p R s m args meth c z) (h : qStepI z .iastore k pc L st M = some (.inl f)) (hdg : decode (qB z) pc = .ok (.iastore, k)) (kk : qWp G p l e R s m args below meth c Q N0 S0 f) : qWp G p l e R s m args below meth c Q N0 S0 (pc, L, st, M) := by
  obtain ⟨hx, hb, hml, hown, hts, hTab, hin, hRm, hbase⟩ := C
  simp only [qStepI] at h
  split at h
  rotate_left
  · cases h
  rename_i hk
  subst hk
  split at h
  rotate_left
  · cases h
  obtain ⟨M1, hM1, h⟩ := Option.bind_eq_some_iff.mp h
  cases h
  obtain ⟨vs, hM, hi, hlt, rfl⟩ := hS_some hM1
  intro H locs ls hR hS hL hll
  have hc := hR.at hM
  unfold qCell at hc
  rw [if_neg (by show ¬ 8 < 8; omega), if_neg (by show ¬ 8 = 14; omega)] at hc
  have h4 := hR.four hM (by show 8 ≠ 14; omega)
  exact W.iast hx hb hc ((hTab.1.2 0 _ rfl).1 _ _) (fun q => by cases q) (by rw [arrV_size]; exact fun q => q.elim hi (fun q => absurd hlt (Nat.not_lt.mpr q))) rfl rfl hdg (fun H1 o1 o2 o3 => kk H1 _ ls (qArr_set hR hM ⟨by omega, by omega⟩ hlt (v := .int _) o1 o2 o3) (qS_put hS o2 o3 (adr_A h4)) hL hll)
theorem sd_bastore {k : Nat} {L : qLo} {st : List Value} {M : qHp} {f : qCf} (C : qCx G p R s m args meth c z) (h : qStepI z .bastore k pc L st M = some (.inl f)) (hdg : decode (qB z) pc = .ok (.bastore, k)) (kk : qWp G p l e R s m args below meth c Q N0 S0 f) : qWp G p l e R s m args below meth c Q N0 S0 (pc, L, st, M) := by
  obtain ⟨hx, hb, hml, hown, hts, hTab, hin, hRm, hbase⟩ := C
  simp only [qStepI] at h
  split at h
  rotate_left
  · cases h
  rename_i hk
  subst hk
  split at h
  rotate_left
  · cases h
  split at h
  rotate_left
  · cases h
  rename_i hx01
  obtain ⟨M1, hM1, h⟩ := Option.bind_eq_some_iff.mp h
  cases h
  obtain ⟨vs, hM, hi, hlt, rfl⟩ := hS_some hM1
  intro H locs ls hR hS hL hll
  have hc := hR.at hM
  unfold qCell at hc
  rw [if_neg (by show ¬ 9 < 8; omega), if_neg (by show ¬ 9 = 14; omega)] at hc
  have h4 := hR.four hM (by show 9 ≠ 14; omega)
  exact W.zast hx hb hc ((hTab.1.2 1 _ rfl).1 _ _) (fun q => by cases q) (by rw [arrV_size]; exact fun q => q.elim hi (fun q => absurd hlt (Nat.not_lt.mpr q))) rfl rfl hdg (fun H1 o1 o2 o3 => kk H1 _ ls (qArr_set hR hM ⟨by omega, by omega⟩ hlt (v := .int _) (by rw [o1]; rcases hx01 with rfl | rfl <;> rfl) o2 o3) (qS_put hS o2 o3 (adr_A h4)) hL hll)
theorem sd_castore {k : Nat} {L : qLo} {st : List Value} {M : qHp} {f : qCf} (C : qCx G p R s m args meth c z) (h : qStepI z .castore k pc L st M = some (.inl f)) (hdg : decode (qB z) pc = .ok (.castore, k)) (kk : qWp G p l e R s m args below meth c Q N0 S0 f) : qWp G p l e R s m args below meth c Q N0 S0 (pc, L, st, M) := by
  obtain ⟨hx, hb, hml, hown, hts, hTab, hin, hRm, hbase⟩ := C
  simp only [qStepI] at h
  split at h
  rotate_left
  · cases h
  rename_i hk
  subst hk
  split at h
  rotate_left
  · cases h
  split at h
  rotate_left
  · cases h
  rename_i hx01
  obtain ⟨M1, hM1, h⟩ := Option.bind_eq_some_iff.mp h
  cases h
  obtain ⟨vs, hM, hi, hlt, rfl⟩ := hS_some hM1
  intro H locs ls hR hS hL hll
  have hc := hR.at hM
  unfold qCell at hc
  rw [if_neg (by show ¬ 10 < 8; omega), if_neg (by show ¬ 10 = 14; omega)] at hc
  have h4 := hR.four hM (by show 10 ≠ 14; omega)
  have hnc := (qFit_ok (G := G) (ty := .char) (v := .int _) (by unfold qFit; exact decide_eq_true hx01)).1
  exact W.cast hx hb hc ((hTab.1.2 2 _ rfl).1 _ _) (fun q => by cases q) (by rw [arrV_size]; exact fun q => q.elim hi (fun q => absurd hlt (Nat.not_lt.mpr q))) rfl rfl hdg (fun H1 o1 o2 o3 => kk H1 _ ls (qArr_set hR hM ⟨by omega, by omega⟩ hlt (v := .int _) (o1.trans (congrArg (fun w => some ((arrV _ _ _).setSlot _ w)) hnc)) o2 o3) (qS_put hS o2 o3 (adr_A h4)) hL hll)
theorem sd_aastore {k : Nat} {L : qLo} {st : List Value} {M : qHp} {f : qCf} (C : qCx G p R s m args meth c z) (h : qStepI z .aastore k pc L st M = some (.inl f)) (hdg : decode (qB z) pc = .ok (.aastore, k)) (kk : qWp G p l e R s m args below meth c Q N0 S0 f) : qWp G p l e R s m args below meth c Q N0 S0 (pc, L, st, M) := by
  obtain ⟨hx, hb, hml, hown, hts, hTab, hin, hRm, hbase⟩ := C
  simp only [qStepI] at h
  split at h
  rotate_left
  · cases h
  rename_i hk
  subst hk
  split at h
  rotate_left
  · cases h
  obtain ⟨M1, hM1, h⟩ := Option.bind_eq_some_iff.mp h
  cases h
  obtain ⟨t, vs, ci, ws, hM, hMb, hco, hi, hlt, rfl⟩ := hSA_some hM1
  intro H locs ls hR hS hL hll
  have hc := hR.at hM
  have hcb := hR.at hMb
  unfold qCell at hc hcb
  obtain ⟨h8, ht, hRA⟩ : ci < 8 ∧ (8 ≤ t ∧ t ≠ 14) ∧ va_RA s (G.2.1.1 t) (.object (qR ci)) := by
    rcases qCo2_some hco with ⟨rfl, rfl⟩ | ⟨rfl, rfl⟩ | ⟨rfl, rfl⟩
    · exact ⟨by omega, ⟨by omega, by omega⟩, (hTab.1.2 3 _ rfl).2⟩
    · exact ⟨by omega, ⟨by omega, by omega⟩, (hTab.1.2 4 _ rfl).2⟩
    · exact ⟨by omega, ⟨by omega, by omega⟩, (hTab.1.2 5 _ rfl).2⟩
  rw [if_neg (by show ¬ t < 8; omega), if_neg (by show ¬ t = 14; exact ht.2)] at hc
  rw [if_pos h8] at hcb
  obtain ⟨cellV, g1, g2, g3, -⟩ := hcb.2
  have hcls := (hTab.1.1 ci _ (qCl_at _ h8)).2
  obtain ⟨kA, comp, k1, k2, k3, -⟩ := hRA
  have hcomp : comp = G.2.1.1 ci := Option.some.inj (k3.symm.trans hcls.1)
  subst hcomp
  obtain ⟨kC, hkC, -⟩ := hcls.2
  have h4 := hR.four hM (by show t ≠ 14; exact ht.2)
  exact W.aast hx hb hc (fun q h => by cases h) (fun h => by cases h) k1 k2 rfl hkC ⟨hi, by rw [arrV_size]; exact hlt⟩ g1 (fun q h => by rw [g3] at h; cases h) (by rw [g2]; exact hkC) (by rw [g2]; exact va_assign hcls) rfl rfl hdg (fun H1 o1 o2 o3 => kk H1 _ ls (qArr_set hR hM ht hlt (v := .ref _) o1 o2 o3) (qS_put hS o2 o3 (adr_A h4)) hL hll)
end QH
end
section
/-! the machine follows: what is made; the JDK's few; calls; ends; all together -/
theorem qTab.mv {G : qG} {u U : State} (hW : u.WarmedH U.vm) (hk : ∀ q : Nat, q < u.heap.size → ¬ gA G q → U.heap[q]? = u.heap[q]?) (h : qTab G u) : qTab G U := by
  obtain ⟨h1, h2, h3, h4, h5, h6, h7⟩ := h
  exact ⟨h1.moved hW.alike, fun q hq => va_Nw.warmM hW (h2 q hq), fun q hq => va_Nw.warmF hW (h3 q hq), fun c hc => (h4 c hc).moved hW.alike, fun t a b => ((h5 t a b).kept hk).moved hW.alike, fun a ha => ((h6 a ha).kept hk).moved hW.alike, h7⟩
def qPc (G : qG) (As : List Value) (M : qHp) : Array Value → State → Prop := fun v U => v = (As.map (cv G)).toArray ∧ qRep G M U.heap ∧ qTab G U
def qQc (G : qG) (r : Option Value) (M : qHp) : Array Value → State → Outcome → State → Prop := fun _ st o t => o = .returned (r.map (cv G)) ∧ qRep G M t.heap ∧ va_F (gA G) st t
theorem qPc_blind {G : qG} {As : List Value} {M : qHp} : FrameBlind (qPc G As M) := by
  intro a U g mk h
  obtain ⟨h1, h2, h3⟩ := h
  exact ⟨h1, h2, h3.mv (State.WarmedH.refl U) (fun _ _ _ => rfl)⟩
theorem qW_in {y : Nat} (hy : y < 148) : GoodIn qW (qCw y :: qW) := by
  intro w hw
  rcases List.mem_cons.mp hw with rfl | hw
  · exact ⟨q_cw y hy, qW_good (q_cw y hy)⟩
  · exact ⟨hw, qW_good hw⟩
theorem q_rt2 : ∀ y, y < 148 → qK y = 2 → qRt y = none := by
  have h : (List.range 148).all (fun y => !(qK y == 2) || decide (qRt y = none)) = true := by decide +kernel
  intro y hy hk
  have := List.all_eq_true.mp h y (List.mem_range.mpr hy)
  simpa [hk] using this
theorem cv_def (G : qG) (ty : FieldType) : cv G (defaultValue ty) = defaultValue ty := by cases ty <;> rfl
section QC
variable {G : qG} {p : Program} {l : Launch} {e : Env} {R : Room} {s : State} {m : MethodId} {args : Array Value} {below : List Frame} {meth : Method} {c : Code} {H : Heap} {locs : List Loc} {Q : State → Prop} {z N0 S0 : Nat} {pc : Nat} {ls : Array Slot}
theorem qS_push {H1 : Heap} (hS : va_S (gA G) s.heap H locs) (hz : H1.size = H.size + 1) (ho : ∀ q : Nat, q < H.size → H1[q]? = H[q]?) : va_S (gA G) s.heap H1 locs :=
  ⟨Nat.le_trans hS.1 (by omega), fun q h1 h2 => (ho q (Nat.lt_of_lt_of_le h1 hS.1)).trans (hS.2.1 q h1 h2), hS.2.2⟩
theorem qRep_arr {M : qHp} {H1 : Heap} {t n : Nat} {d : Value} (hR : qRep G M H) (ht : 8 ≤ t ∧ t < 14) (hd : cv G d = d) (o1 : H1[adr G M.1.1]? = some (arrV (G.2.1.1 t) n (fun _ => d))) (o2 : H1.size = adr G M.1.1 + 1) (o3 : ∀ q, q < adr G M.1.1 → H1[q]? = H[q]?) : qRep G (hN M (t, List.replicate n d)) H1 := by
  refine hR.push (by show t < 14; omega) (by rw [o2, hR.new]) (fun q hq => o3 q (by rw [hR.new]; exact hq)) ?_
  unfold qCell
  rw [if_neg (by show ¬ t < 8; omega), if_neg (by show ¬ t = 14; omega)]
  show H1[adr G M.1.1]? = some (arrV (G.2.1.1 t) (List.replicate n d).length (qVf G (List.replicate n d)))
  rw [o1, List.length_replicate]
  congr 1
  refine arrV_congr fun j hj => ?_
  rw [qVf_at (v := d) (by simp [hj]), hd]
theorem sd_newarray {t : ArrayType} {k : Nat} {L : qLo} {st : List Value} {M : qHp} {f : qCf} (C : qCx G p R s m args meth c z) (hNN : N0 ≤ M.1.1 ∧ S0 ≤ M.1.2) (hB : f.2.2.2.1.1 - N0 ≤ R.cells ∧ f.2.2.2.1.2 - S0 ≤ R.slots) (h : qStepI z (.newarray t) k pc L st M = some (.inl f)) (hdg : decode (qB z) pc = .ok (.newarray t, k)) (kk : qWp G p l e R s m args below meth c Q N0 S0 f) : qWp G p l e R s m args below meth c Q N0 S0 (pc, L, st, M) := by
  obtain ⟨hx, hb, hml, hown, hts, hTab, hin, hRm, hbase⟩ := C
  simp only [qStepI] at h
  split at h
  rotate_left
  · cases h
  rename_i hk
  subst hk
  split at h
  rotate_left
  · cases h
  rename_i n st
  split at h
  rotate_left
  · cases h
  rename_i hn
  split at h
  · cases h
    intro H locs ls hR hS hL hll
    try dsimp only at hR hS hL hll hB ⊢
    have hB2 : M.1.1 + 1 - N0 ≤ R.cells ∧ M.1.2 + (List.replicate n.toNatClampNeg (Value.int 0)).length - S0 ≤ R.slots := hB
    rw [List.length_replicate] at hB2
    refine va_newaK (atype := .int) hx hb (hts _ q_acl.1) rfl hdg rfl hn.1 rfl (by show n.toNatClampNeg * 4 ≤ 536870912; omega) (by omega) (by omega) hR.new.symm (fun H1 cA o1 o2 o3 oA oN => ?_)
    have hid : cA = G.2.1.1 8 := Option.some.inj (oN.symm.trans (hTab.1.2 0 _ rfl).2)
    subst hid
    refine W.cs (cells' := (hN M (8, List.replicate n.toNatClampNeg (.int 0))).1.1 - N0) (slots' := (hN M (8, List.replicate n.toNatClampNeg (.int 0))).1.2 - S0) (by show M.1.1 - N0 + 1 = M.1.1 + 1 - N0; omega) (by show M.1.2 - S0 + _ = M.1.2 + (List.replicate n.toNatClampNeg (Value.int 0)).length - S0; rw [List.length_replicate]; omega) ?_
    exact kk H1 locs ls (qRep_arr hR ⟨by omega, by omega⟩ rfl o1 o2 o3) (qS_push hS (by rw [o2, hR.new]) (fun q hq => o3 q (by rw [hR.new]; exact hq))) hL hll
  · cases h
    intro H locs ls hR hS hL hll
    try dsimp only at hR hS hL hll hB ⊢
    have hB2 : M.1.1 + 1 - N0 ≤ R.cells ∧ M.1.2 + (List.replicate n.toNatClampNeg (Value.int 0)).length - S0 ≤ R.slots := hB
    rw [List.length_replicate] at hB2
    refine va_newaK (atype := .boolean) hx hb (hts _ q_acl.2.1) rfl hdg rfl hn.1 rfl (by show n.toNatClampNeg * 1 ≤ 536870912; omega) (by omega) (by omega) hR.new.symm (fun H1 cA o1 o2 o3 oA oN => ?_)
    have hid : cA = G.2.1.1 9 := Option.some.inj (oN.symm.trans (hTab.1.2 1 _ rfl).2)
    subst hid
    refine W.cs (cells' := (hN M (9, List.replicate n.toNatClampNeg (.int 0))).1.1 - N0) (slots' := (hN M (9, List.replicate n.toNatClampNeg (.int 0))).1.2 - S0) (by show M.1.1 - N0 + 1 = M.1.1 + 1 - N0; omega) (by show M.1.2 - S0 + _ = M.1.2 + (List.replicate n.toNatClampNeg (Value.int 0)).length - S0; rw [List.length_replicate]; omega) ?_
    exact kk H1 locs ls (qRep_arr hR ⟨by omega, by omega⟩ rfl o1 o2 o3) (qS_push hS (by rw [o2, hR.new]) (fun q hq => o3 q (by rw [hR.new]; exact hq))) hL hll
  · cases h
    intro H locs ls hR hS hL hll
    try dsimp only at hR hS hL hll hB ⊢
    have hB2 : M.1.1 + 1 - N0 ≤ R.cells ∧ M.1.2 + (List.replicate n.toNatClampNeg (Value.int 0)).length - S0 ≤ R.slots := hB
    rw [List.length_replicate] at hB2
    refine va_newaK (atype := .char) hx hb (hts _ q_acl.2.2) rfl hdg rfl hn.1 rfl (by show n.toNatClampNeg * 2 ≤ 536870912; omega) (by omega) (by omega) hR.new.symm (fun H1 cA o1 o2 o3 oA oN => ?_)
    have hid : cA = G.2.1.1 10 := Option.some.inj (oN.symm.trans (hTab.1.2 2 _ rfl).2)
    subst hid
    refine W.cs (cells' := (hN M (10, List.replicate n.toNatClampNeg (.int 0))).1.1 - N0) (slots' := (hN M (10, List.replicate n.toNatClampNeg (.int 0))).1.2 - S0) (by show M.1.1 - N0 + 1 = M.1.1 + 1 - N0; omega) (by show M.1.2 - S0 + _ = M.1.2 + (List.replicate n.toNatClampNeg (Value.int 0)).length - S0; rw [List.length_replicate]; omega) ?_
    exact kk H1 locs ls (qRep_arr hR ⟨by omega, by omega⟩ rfl o1 o2 o3) (qS_push hS (by rw [o2, hR.new]) (fun q hq => o3 q (by rw [hR.new]; exact hq))) hL hll
  · cases h
theorem sd_anewarray {i k : Nat} {L : qLo} {st : List Value} {M : qHp} {f : qCf} (C : qCx G p R s m args meth c z) (hNN : N0 ≤ M.1.1 ∧ S0 ≤ M.1.2) (hB : f.2.2.2.1.1 - N0 ≤ R.cells ∧ f.2.2.2.1.2 - S0 ≤ R.slots) (h : qStepI z (.anewarray i) k pc L st M = some (.inl f)) (hdg : decode (qB z) pc = .ok (.anewarray i, k)) (kk : qWp G p l e R s m args below meth c Q N0 S0 f) : qWp G p l e R s m args below meth c Q N0 S0 (pc, L, st, M) := by
  obtain ⟨hx, hb, hml, hown, hts, hTab, hin, hRm, hbase⟩ := C
  simp only [qStepI] at h
  split at h
  rotate_left
  · cases h
  rename_i hk
  subst hk
  split at h
  rotate_left
  · cases h
  rename_i n st
  split at h
  rotate_left
  · cases h
  rename_i hn
  obtain ⟨ci, hci, h⟩ := Option.bind_eq_some_iff.mp h
  obtain ⟨t, ht, h⟩ := Option.bind_eq_some_iff.mp h
  cases h
  intro H locs ls hR hS hL hll
  try dsimp only at hR hS hL hll hB ⊢
  have hB2 : M.1.1 + 1 - N0 ≤ R.cells ∧ M.1.2 + (List.replicate n.toNatClampNeg Value.null).length - S0 ≤ R.slots := hB
  rw [List.length_replicate] at hB2
  obtain ⟨h8, hlk⟩ := q_cla hci
  obtain ⟨ht8, hRA, hAO⟩ : (8 ≤ t ∧ t < 14) ∧ va_RA s (G.2.1.1 t) (.object (qR ci)) ∧ va_AO (qR ci) s := by
    rcases qTg_some ht with ⟨rfl, rfl⟩ | ⟨rfl, rfl⟩ | ⟨rfl, rfl⟩
    · exact ⟨⟨by omega, by omega⟩, (hTab.1.2 3 _ rfl).2, hTab.2.2.2.1 _ (Or.inl rfl)⟩
    · exact ⟨⟨by omega, by omega⟩, (hTab.1.2 4 _ rfl).2, hTab.2.2.2.1 _ (Or.inr (Or.inr rfl))⟩
    · exact ⟨⟨by omega, by omega⟩, (hTab.1.2 5 _ rfl).2, hTab.2.2.2.1 _ (Or.inr (Or.inl rfl))⟩
  refine W.anew hx hb hown (hts _ hlk) (va_AO.use hAO) rfl hdg rfl hn.1 (by omega) (by omega) (by omega) fun cA kA comp f1 f2 f3 f4 => ?_
  obtain ⟨kA', comp', -, -, -, g4⟩ := hRA
  have hid : cA = G.2.1.1 t := Option.some.inj (f1.symm.trans g4)
  subst hid
  generalize hH1 : H.push ({ cls := G.2.1.1 t, slots := Array.replicate n.toNatClampNeg .null, vm := .none } : Cell) = H1
  have z1 : H1.size = H.size + 1 := by rw [← hH1, Array.size_push]
  have e1 : H1[H.size]? = some (arrV (G.2.1.1 t) n.toNatClampNeg (fun _ => .null)) := by rw [← hH1, Array.getElem?_push_size, ← arrV_new]
  have o1 : ∀ q : Nat, q < H.size → H1[q]? = H[q]? := fun q hq => by rw [← hH1, Array.getElem?_push, if_neg (Nat.ne_of_lt hq)]
  refine W.cs (cells' := (hN M (t, List.replicate n.toNatClampNeg .null)).1.1 - N0) (slots' := (hN M (t, List.replicate n.toNatClampNeg .null)).1.2 - S0) (by show M.1.1 - N0 + 1 = M.1.1 + 1 - N0; omega) (by show M.1.2 - S0 + _ = M.1.2 + (List.replicate n.toNatClampNeg Value.null).length - S0; rw [List.length_replicate]; omega) ?_
  have hk := kk H1 locs ls (qRep_arr hR ht8 rfl (by rw [hR.new]; exact e1) (by rw [hR.new]; exact z1) (fun q hq => o1 q (by rw [← hR.new]; exact hq))) (qS_push hS z1 o1) hL hll
  have he : (Value.ref M.1.1 :: st).map (cv G) = .ref H.size :: st.map (cv G) := by
    show Value.ref (adr G M.1.1) :: _ = _
    rw [hR.new]
  simp only [he] at hk
  exact hk
theorem sd_new {i k : Nat} {L : qLo} {st : List Value} {M : qHp} {f : qCf} (C : qCx G p R s m args meth c z) (hNN : N0 ≤ M.1.1 ∧ S0 ≤ M.1.2) (hB : f.2.2.2.1.1 - N0 ≤ R.cells ∧ f.2.2.2.1.2 - S0 ≤ R.slots) (h : qStepI z (.new i) k pc L st M = some (.inl f)) (hdg : decode (qB z) pc = .ok (.new i, k)) (kk : qWp G p l e R s m args below meth c Q N0 S0 f) : qWp G p l e R s m args below meth c Q N0 S0 (pc, L, st, M) := by
  obtain ⟨hx, hb, hml, hown, hts, hTab, hin, hRm, hbase⟩ := C
  simp only [qStepI] at h
  split at h
  rotate_left
  · cases h
  rename_i hk
  subst hk
  obtain ⟨ci, hci, h⟩ := Option.bind_eq_some_iff.mp h
  cases h
  intro H locs ls hR hS hL hll
  try dsimp only at hR hS hL hll hB ⊢
  have hdl : (qDf ci).length = qN ci := by simp [qDf]
  have hB2 : M.1.1 + 1 - N0 ≤ R.cells ∧ M.1.2 + (qDf ci).length - S0 ≤ R.slots := hB
  rw [hdl] at hB2
  obtain ⟨h8, hlk⟩ := q_cla hci
  have hKn := hTab.1.1 ci _ (qCl_at _ h8)
  refine W.newcK hx hb hown (hts _ hlk) (hts _ (q_inst _ h8)) (hts _ (q_ini _ (by omega))) rfl hdg (by omega) (by omega) hKn.2.1 hR.new.symm fun H1 kC hkC e1 z1 o1 => ?_
  refine W.cs (cells' := (hN M (ci, qDf ci)).1.1 - N0) (slots' := (hN M (ci, qDf ci)).1.2 - S0) (by show M.1.1 - N0 + 1 = M.1.1 + 1 - N0; omega) (by show M.1.2 - S0 + _ = M.1.2 + (qDf ci).length - S0; rw [hdl]; omega) ?_
  refine kk H1 locs ls (hR.push (by show ci < 14; omega) (by rw [z1, hR.new]) (fun q hq => o1 q (by rw [hR.new]; exact hq)) ?_) (qS_push hS (by rw [z1, hR.new]) (fun q hq => o1 q (by rw [hR.new]; exact hq))) hL hll
  unfold qCell
  rw [if_pos h8]
  refine ⟨hdl, (u_born (qV ci) hts (q_lay _ h8) hKn hkC e1 (q_ty _ h8)).to fun j hj => ?_⟩
  simp [vp_V, qDf, hj, cv_def]
theorem sd_invokestatic {i k : Nat} {L : qLo} {st : List Value} {M : qHp} {f : qCf} (C : qCx G p R s m args meth c z) (hNN : N0 ≤ M.1.1 ∧ S0 ≤ M.1.2) (hB : f.2.2.2.1.1 - N0 ≤ R.cells ∧ f.2.2.2.1.2 - S0 ≤ R.slots) (h : qStepI z (.invokestatic i) k pc L st M = some (.inl f)) (hdg : decode (qB z) pc = .ok (.invokestatic i, k)) (kk : qWp G p l e R s m args below meth c Q N0 S0 f) : qWp G p l e R s m args below meth c Q N0 S0 (pc, L, st, M) := by
  obtain ⟨hx, hb, hml, hown, hts, hTab, hin, hRm, hbase⟩ := C
  simp only [qStepI] at h
  split at h
  rotate_left
  · cases h
  rename_i hk
  subst hk
  obtain ⟨⟨b, y⟩, hq, h⟩ := Option.bind_eq_some_iff.mp h
  simp only at h
  split at h
  rotate_left
  · cases h
  rename_i hbf
  subst hbf
  have hok := qMth_ok hq
  split at h
  · rename_i hy
    subst hy
    split at h
    rotate_left
    · cases h
    rename_i yy xx st hjk
    split at h
    rotate_left
    · cases h
    rename_i hc
    cases h
    rcases hok with ⟨-, -, hlk⟩ | ⟨q, -⟩ | ⟨-, q, -⟩ | ⟨-, q, -⟩
    rotate_left
    · cases q
    · cases q
    · cases q
    intro H locs ls hR hS hL hll
    try dsimp only at hR hS hL hll hB ⊢
    refine va_mmax hx hb (by rw [← hll]; exact hL.1.symm) hown (hts _ hlk) (hts _ (q_kw 148 (by omega))) (hts _ (q_ini 9 (by omega))) (hts _ q_mmx.1) (by omega) ?_ hB.1 hB.2 hdg (kk H locs ls hR hS hL hll)
    rw [cv_sum]
    have := cat_le st
    omega
  · split at h
    · rename_i hy
      subst hy
      split at h
      rotate_left
      · cases h
      rename_i yy xx st hjk
      split at h
      rotate_left
      · cases h
      rename_i hc
      cases h
      rcases hok with ⟨-, -, hlk⟩ | ⟨q, -⟩ | ⟨-, q, -⟩ | ⟨-, q, -⟩
      rotate_left
      · cases q
      · cases q
      · cases q
      intro H locs ls hR hS hL hll
      try dsimp only at hR hS hL hll hB ⊢
      refine va_mmin hx hb (by rw [← hll]; exact hL.1.symm) hown (hts _ hlk) (hts _ (q_kw 149 (by omega))) (hts _ (q_ini 9 (by omega))) (hts _ q_mmx.2) (by omega) ?_ hB.1 hB.2 hdg (kk H locs ls hR hS hL hll)
      rw [cv_sum]
      have := cat_le st
      omega
    · split at h
      · rename_i hy
        subst hy
        split at h
        rotate_left
        · cases h
        rename_i n d b sp a st hjk
        split at h
        rotate_left
        · cases h
        rename_i hc
        obtain ⟨M1, hM1, h⟩ := Option.bind_eq_some_iff.mp h
        cases h
        rcases hok with ⟨-, q, -⟩ | ⟨q, -⟩ | ⟨-, q, -⟩ | ⟨-, -, hlk⟩
        · omega
        · cases q
        · cases q
        obtain ⟨vs, ws, hMa, hMb, ⟨n1, n2, n3⟩, ⟨l1, l2⟩, ⟨i1, i2⟩, rfl⟩ := hC_some hM1
        intro H locs ls hR hS hL hll
        try dsimp only at hR hS hL hll hB ⊢
        have hca := hR.at hMa
        have hcb := hR.at hMb
        unfold qCell at hca hcb
        rw [if_neg (by show ¬ 8 < 8; omega), if_neg (by show ¬ 8 = 14; omega)] at hca hcb
        have h4 := hR.four hMb (by show 8 ≠ 14; omega)
        have ea : arrV (G.2.1.1 8) vs.length (qVf G vs) = arrV (G.2.1.1 8) vs.length (fun j => .int (qI (vs.getD j .null))) := arrV_congr fun j hj => qInts_get i1 hj
        have eb : arrV (G.2.1.1 8) ws.length (qVf G ws) = arrV (G.2.1.1 8) ws.length (fun j => .int (qI (ws.getD j .null))) := arrV_congr fun j hj => qInts_get i2 hj
        have hA8 := (hTab.1.2 0 _ rfl).1
        refine q_copy hx hb (by rw [← hll]; exact hL.1.symm) hown (hts _ hlk) (hts _ q_arc.1) (hts _ q_arc.2.1) (hts _ q_arc.2.2) hA8 hA8 (hca.trans (congrArg some ea)) (hcb.trans (congrArg some eb)) rfl n1 n2 n3 l1 l2 (fun _ _ => rfl) (by omega) ?_ hdg (fun H1 ll o1 o2 o3 o4 => ?_)
        · rw [cv_sum]
          have := cat_le st
          show _ + (5 + 2 + 11) ≤ R.locals
          omega
        · refine kk H1 _ ls (hR.set hMb rfl h4 o2 o3 ?_) ⟨by rw [o2]; exact hS.1, fun q g1 g2 => (o3 q (fun e => g2 (by rw [e]; exact adr_A h4))).trans (hS.2.1 q g1 g2), fun q hq => ?_⟩ hL hll
          · unfold qCell
            rw [if_neg (by show ¬ 8 < 8; omega), if_neg (by show ¬ 8 = 14; omega), o1]
            show _ = some (arrV (G.2.1.1 8) (qCpy vs ws sp.toNatClampNeg d.toNatClampNeg n.toNatClampNeg).length _)
            have hlen : (qCpy vs ws sp.toNatClampNeg d.toNatClampNeg n.toNatClampNeg).length = ws.length := by simp [qCpy]
            rw [hlen]
            congr 1
            refine arrV_congr fun j hj => ?_
            rw [qVf_at (v := if d.toNatClampNeg ≤ j ∧ j < d.toNatClampNeg + n.toNatClampNeg then vs.getD (sp.toNatClampNeg + (j - d.toNatClampNeg)) .null else ws.getD j .null) (by simp [qCpy, hj])]
            unfold va_cpy
            split
            · have hj2 : sp.toNatClampNeg + (j - d.toNatClampNeg) < vs.length := by omega
              rw [← qInts_get (G := G) i1 hj2]
              rw [qVf_at (List.getElem?_eq_getElem hj2)]
              simp [hj2]
            · rw [← qInts_get (G := G) i2 hj]
              rw [qVf_at (List.getElem?_eq_getElem hj)]
              simp [hj]
          · rcases List.mem_append.mp hq with h | h
            · exact hS.2.2 q h
            · rw [o4 q h]; exact adr_A h4
      · split at h
        · unfold qCall at h
          split at h <;> cases h
        · cases h
theorem sd_invokespecial {i k : Nat} {L : qLo} {st : List Value} {M : qHp} {f : qCf} (C : qCx G p R s m args meth c z) (h : qStepI z (.invokespecial i) k pc L st M = some (.inl f)) (hdg : decode (qB z) pc = .ok (.invokespecial i, k)) (kk : qWp G p l e R s m args below meth c Q N0 S0 f) : qWp G p l e R s m args below meth c Q N0 S0 (pc, L, st, M) := by
  obtain ⟨hx, hb, hml, hown, hts, hTab, hin, hRm, hbase⟩ := C
  simp only [qStepI] at h
  split at h
  rotate_left
  · cases h
  rename_i hk
  subst hk
  obtain ⟨⟨b, y⟩, hq, h⟩ := Option.bind_eq_some_iff.mp h
  simp only at h
  have hok := qMth_ok hq
  split at h
  · rename_i hy
    subst hy
    split at h
    rotate_left
    · cases h
    rename_i a st hjk
    split at h
    rotate_left
    · cases h
    rename_i hc
    cases h
    have hlk : Jvm.Cond.methodLink (qR (qO z)) i Lib.objectInit ∈ qW := by
      rcases hok with ⟨-, q, -⟩ | ⟨-, q⟩ | ⟨-, -, hlk⟩ | ⟨-, q, -⟩
      · omega
      · exfalso
        have : qMnL.all (fun q => decide (q.2.2 < 148)) = true := by decide +kernel
        have := List.all_eq_true.mp this _ q
        simp at this
      · exact hlk
      · cases q
    intro H locs ls hR hS hL hll
    try dsimp only at hR hS hL hll hB ⊢
    refine W.objInit hx hb hown (hts _ hlk) (hts _ q_obj.1) (hts _ q_obj.2) rfl (by show ls.size = _; rw [← hll]; exact hL.1) rfl hdg (by omega) ?_ (kk H locs ls hR hS hL hll)
    show 2 * 0 + ((st.map (cv G)).map fun v => v.category).sum + 12 ≤ R.locals
    rw [cv_sum]
    have := cat_le st
    omega
  · split at h
    · split at h
      · unfold qCall at h
        split at h <;> cases h
      · cases h
    · cases h
theorem sd_invokevirtual {i k : Nat} {L : qLo} {st : List Value} {M : qHp} {f : qCf} (h : qStepI z (.invokevirtual i) k pc L st M = some (.inl f)) : False := by
  simp only [qStepI] at h
  split at h
  rotate_left
  · cases h
  obtain ⟨⟨b, y⟩, hq, h⟩ := Option.bind_eq_some_iff.mp h
  simp only at h
  split at h
  rotate_left
  · cases h
  split at h
  rotate_left
  · cases h
  obtain ⟨o, ho, h⟩ := Option.bind_eq_some_iff.mp h
  split at h
  rotate_left
  · cases h
  unfold qCall at h
  split at h <;> cases h
end QC
end
section
/-! calls of the class's own methods, ends, and the walk by induction -/
section QD
variable {G : qG} {p : Program} {l : Launch} {e : Env} {R : Room} {s : State} {m : MethodId} {args : Array Value} {below : List Frame} {meth : Method} {c : Code} {Q : State → Prop} {z N0 S0 : Nat} {pc : Nat}
theorem qCall_some {y : Nat} {As rest : List Value} {L : qLo} {M : qHp} {q : Nat × List Value × qCf} (h : qCall z y As rest pc L M = some (.inr (.inl q))) : (qFr y + 1 ≤ qFr z ∧ 8 + (qL y + 11) + qWd y ≤ qWd z) ∧ (rest.length ≤ 4 ∧ (lg_sl As).length ≤ qL y) ∧ q = (y, As, (pc + 3, L, rest, M)) := by
  unfold qCall at h
  split at h
  · rename_i hc
    cases h
    exact ⟨hc.1, hc.2, rfl⟩
  · cases h
/-- behind a call -/
theorem qW_back {L : qLo} {rest : List Value} {y : Nat} {M M1 : qHp} {r : Option Value} {H : Heap} {locs : List Loc} {ls : Array Slot} {st0 : List Value} {v : Array Value}
    (run : va_Run p l e R s m args below meth c H locs (M.1.1 - N0) (M.1.2 - S0) (qMc y) (qMs y) (F0 m pc ls st0) (rest.map (cv G)) (qQc G r M1 v) (gA G))
    (hNN : N0 ≤ M.1.1 ∧ S0 ≤ M.1.2) (hc : M1.1 = (M.1.1 + qMc y, M.1.2 + qMs y)) (hR : qRep G M H) (hS : va_S (gA G) s.heap H locs) (hL : qHas G ls L) (hll : L.length = c.maxLocals)
    (kk : qWp G p l e R s m args below meth c Q N0 S0 (pc + 3, L, r.toList ++ rest, M1)) : W p l e R s m args below meth c H locs (M.1.1 - N0) (M.1.2 - S0) Q (F0 m pc ls st0) := by
  intro T hT X
  obtain ⟨w, st₀, t, T', L', h0, X', hL', e1, e2, ⟨ho, hRt, hF⟩, st⟩ := run T hT X
  have hw : w = r.map (cv G) := by cases ho; rfl
  subst hw
  have hS' : va_S (gA G) s.heap T'.heap (locs ++ L') := by
    obtain ⟨f1, f2⟩ := hF
    rw [h0] at f1 f2
    refine ⟨Nat.le_trans hS.1 (by rw [e1]; exact f1), fun q h1 h2 => ?_, fun q hq => ?_⟩
    · rw [e1, f2 q (Nat.lt_of_lt_of_le h1 hS.1) h2]
      exact hS.2.1 q h1 h2
    · rcases List.mem_append.mp hq with h | h
      · exact hS.2.2 q h
      · exact hL' q h
  have k1 := kk T'.heap (locs ++ L') ls (by rw [e1]; exact hRt) hS' hL hll
  have c1 : M1.1.1 - N0 = M.1.1 - N0 + qMc y := by rw [hc]; show M.1.1 + qMc y - N0 = _; omega
  have c2 : M1.1.2 - S0 = M.1.2 - S0 + qMs y := by rw [hc]; show M.1.2 + qMs y - S0 = _; omega
  have e5 : ((r.toList ++ rest).map (cv G)) = (r.map (cv G)).toList ++ rest.map (cv G) := by cases r <;> rfl
  dsimp only at k1
  rw [c1, c2, e5] at k1
  obtain ⟨t2, a1, b1⟩ := k1 T' rfl X'
  exact ⟨t2, st t2 a1, b1⟩
theorem qB_call {y idx : Nat} (hy : y < 148) (hts : ∀ w ∈ qW, w.before args s = true) (hl : Jvm.Cond.methodLink (qR (qO z)) idx (qY y) ∈ qW) (hR : qFr y + 1 ≤ R.frames ∧ 8 + (qL y + 11) + qWd y ≤ R.locals) : CallB R s args (qR (qO z)) idx (qY y) (qB y) (qL y) (qRt y) (qCw y :: qW) (qRm y) (qMc y) (qMs y) (qA y) := by
  obtain ⟨y1, y2, y3, y4, y5, -⟩ := q_y y hy
  exact callB_of (qA y) hts (qW_in hy) rfl rfl rfl (by rw [y1]; exact hts _ (q_ini _ y5)) (hts _ hl) ⟨y2, y3, y4⟩ hR
theorem sd_call {i : Instr} {k : Nat} {L : qLo} {st : List Value} {M : qHp} {y : Nat} {As : List Value} {f : qCf} {M1 : qHp} {r : Option Value} (C : qCx G p R s m args meth c z) (hNN : N0 ≤ M.1.1 ∧ S0 ≤ M.1.2) (h : qStepI z i k pc L st M = some (.inr (.inl (y, As, f)))) (hi : qInv i = true) (hdg : decode (qB z) pc = .ok (i, k))
    (hM : y < 148 → (lg_sl As).length ≤ qL y → Met l (qY y) (qCw y :: qW) (qRm y) (qPc G As M) (qQc G r M1) (qMc y) (qMs y) (gA G)) (hc : M1.1 = (M.1.1 + qMc y, M.1.2 + qMs y)) (hB : M1.1.1 - N0 ≤ R.cells ∧ M1.1.2 - S0 ≤ R.slots)
    (kk : qWp G p l e R s m args below meth c Q N0 S0 (f.1, f.2.1, r.toList ++ f.2.2.1, M1)) : qWp G p l e R s m args below meth c Q N0 S0 (pc, L, st, M) := by
  obtain ⟨hx, hb, hml, hown, hts, hTab, hin, hRm, hbase⟩ := C
  have hB2 : M.1.1 - N0 + qMc y ≤ R.cells ∧ M.1.2 - S0 + qMs y ≤ R.slots := by
    rw [hc] at hB
    have q1 : M.1.1 + qMc y - N0 ≤ R.cells ∧ M.1.2 + qMs y - S0 ≤ R.slots := hB
    omega
  have pre : ∀ {H : Heap} {locs : List Loc}, qRep G M H → va_S (gA G) s.heap H locs → ∀ U : State, U.heap = H → s.WarmedH U.vm → qPc G As M (As.map (cv G)).toArray U := fun {H locs} hR hS U hU hW =>
    ⟨rfl, by rw [hU]; exact hR, hTab.mv hW (fun q q1 q2 => by rw [hU]; exact hS.2.1 q q1 q2)⟩
  cases i with
  | invokevirtual i =>
    simp only [qStepI] at h
    split at h
    rotate_left
    · cases h
    rename_i hk
    subst hk
    obtain ⟨⟨b, y'⟩, hq, h⟩ := Option.bind_eq_some_iff.mp h
    simp only at h
    split at h
    rotate_left
    · cases h
    rename_i hcn
    obtain ⟨rfl, hy, hK0⟩ := hcn
    split at h
    rotate_left
    · cases h
    rename_i a rest hdr
    obtain ⟨⟨t, vs⟩, hMa, h⟩ := Option.bind_eq_some_iff.mp h
    simp only at h
    split at h
    rotate_left
    · cases h
    rename_i hto
    obtain ⟨rfl, h8⟩ := hto
    obtain ⟨hrm, ⟨hrest, hsl⟩, he⟩ := qCall_some h
    cases he
    have hlk : Jvm.Cond.methodLink (qR (qO z)) i (qY y) ∈ qW := by
      rcases qMth_ok hq with ⟨-, -, hlk⟩ | ⟨q, -⟩ | ⟨-, q, -⟩ | ⟨-, q, -⟩
      · exact hlk
      · cases q
      · omega
      · omega
    intro H locs ls hR hS hL hll
    dsimp only at hR hS hL hll ⊢
    have hc0 := hR.at hMa
    unfold qCell at hc0
    rw [if_pos h8] at hc0
    obtain ⟨cell, g1, g2, g3, -⟩ := hc0.2
    have hfc := (hTab.1.1 (qO y) _ (qCl_at _ h8)).2.1
    have hlen : qA y < st.length := by
      rcases Nat.lt_or_ge (qA y) st.length with q | q
      · exact q
      · rw [List.drop_eq_nil_of_le q] at hdr; cases hdr
    have hst : st.map (cv G) = (((st.take (qA y)).reverse).map (cv G)).reverse ++ .ref (adr G a) :: rest.map (cv G) := by
      rw [← List.map_reverse, List.reverse_reverse]
      show _ = (st.take (qA y)).map (cv G) ++ (Value.ref a :: rest).map (cv G)
      rw [← hdr, ← List.map_append, List.take_append_drop]
    refine qW_back (r := r) (M1 := M1) (va_runV (C := qR (qO y)) (b := adr G a) (As := (st.take (qA y)).reverse.map (cv G)) (n := qA y) (nL := c.maxLocals) ⟨hx, hb, rfl, hown, hts⟩ (hM hy hsl) ⟨qB_call hy hts hlk ⟨by omega, by omega⟩, ?_, hts _ (q_sel y (by omega) hK0)⟩ ⟨qPc_blind, ⟨cell, g1, by rw [g3]; rfl, by rw [g2]; exact hfc⟩, pre hR hS⟩ rfl ?_ (by rw [← hll]; exact hL.1) hst (cv_room G hrest) hdg hB2) hNN hc hR hS hL hll kk
    · have := q_kw y (by omega)
      unfold qKw at this
      rw [if_neg (by omega)] at this
      exact hts _ this
    · rw [List.length_map, List.length_reverse, List.length_take]; omega
  | invokestatic i =>
    simp only [qStepI] at h
    split at h
    rotate_left
    · cases h
    rename_i hk
    subst hk
    obtain ⟨⟨b, y'⟩, hq, h⟩ := Option.bind_eq_some_iff.mp h
    simp only at h
    split at h
    rotate_left
    · cases h
    rename_i hbf
    subst hbf
    split at h
    · split at h
      · split at h <;> cases h
      · cases h
    · split at h
      · split at h
        · split at h <;> cases h
        · cases h
      · split at h
        · split at h
          · split at h
            · obtain ⟨M2, -, h⟩ := Option.bind_eq_some_iff.mp h
              cases h
            · cases h
          · cases h
        · split at h
          rotate_left
          · cases h
          rename_i n1 n2 n3 hcn
          obtain ⟨hy, hK1, hlen⟩ := hcn
          obtain ⟨hrm, ⟨hrest, hsl⟩, he⟩ := qCall_some h
          cases he
          have hlk : Jvm.Cond.methodLink (qR (qO z)) i (qY y) ∈ qW := by
            rcases qMth_ok hq with ⟨-, -, hlk⟩ | ⟨q, -⟩ | ⟨-, q, -⟩ | ⟨-, q, -⟩
            · exact hlk
            · cases q
            · omega
            · omega
          intro H locs ls hR hS hL hll
          dsimp only at hR hS hL hll ⊢
          have hst : st.map (cv G) = (((st.take (qA y)).reverse).map (cv G)).reverse ++ (st.drop (qA y)).map (cv G) := by
            rw [← List.map_reverse, List.reverse_reverse, ← List.map_append, List.take_append_drop]
          refine qW_back (r := r) (M1 := M1) (va_runS (As := (st.take (qA y)).reverse.map (cv G)) (n := qA y) (nL := c.maxLocals) ⟨hx, hb, rfl, hown, hts⟩ (hM hy hsl) ⟨qB_call hy hts hlk ⟨by omega, by omega⟩, ?_⟩ ⟨qPc_blind, pre hR hS⟩ rfl ?_ (by rw [← hll]; exact hL.1) hst (cv_room G hrest) hdg hB2) hNN hc hR hS hL hll kk
          · have := q_kw y (by omega)
            unfold qKw at this
            rw [if_pos hK1] at this
            exact hts _ this
          · rw [List.length_map, List.length_reverse, List.length_take]; omega
  | invokespecial i =>
    simp only [qStepI] at h
    split at h
    rotate_left
    · cases h
    rename_i hk
    subst hk
    obtain ⟨⟨b, y'⟩, hq, h⟩ := Option.bind_eq_some_iff.mp h
    simp only at h
    split at h
    · split at h
      · split at h <;> cases h
      · cases h
    · split at h
      rotate_left
      · cases h
      rename_i hn2 hcn
      obtain ⟨hy, hK2⟩ := hcn
      split at h
      rotate_left
      · cases h
      rename_i a rest hdr
      obtain ⟨hrm, ⟨hrest, hsl⟩, he⟩ := qCall_some h
      cases he
      intro H locs ls hR hS hL hll
      dsimp only at hR hS hL hll ⊢
      have hlen : qA y < st.length := by
        rcases Nat.lt_or_ge (qA y) st.length with q | q
        · exact q
        · rw [List.drop_eq_nil_of_le q] at hdr; cases hdr
      have hst : st.map (cv G) = (((st.take (qA y)).reverse).map (cv G)).reverse ++ .ref (adr G a) :: rest.map (cv G) := by
        rw [← List.map_reverse, List.reverse_reverse]
        show _ = (st.take (qA y)).map (cv G) ++ (Value.ref a :: rest).map (cv G)
        rw [← hdr, ← List.map_append, List.take_append_drop]
      obtain ⟨y1, y2, y3, y4, y5, y6, y7⟩ := q_y y hy
      have hrt := q_rt2 y hy hK2
      have hinit : (qY y).name = "<init>" := by
        rw [hK2] at y7
        simpa using y7.symm
      have hinst : (Jvm.Cond.instanceMethod (qY y)).before args s = true := by
        have := q_kw y (by omega)
        unfold qKw at this
        rw [if_neg (by omega)] at this
        exact hts _ this
      have hMet := hM hy hsl
      have hlenA : ((st.take (qA y)).reverse.map (cv G)).length = qA y := by
        rw [List.length_map, List.length_reverse, List.length_take]; omega
      have hcwd : qCw y = .code (qY y) (qB y) (qL y) none := by unfold qCw; rw [hrt]
      rw [hcwd] at hMet
      rcases qMth_ok hq with ⟨-, -, hlk⟩ | ⟨-, hne⟩ | ⟨-, q, -⟩ | ⟨-, q, -⟩
      · have hcb := qB_call (z := z) (R := R) hy hts hlk ⟨by omega, by omega⟩
        rw [hcwd, hrt] at hcb
        exact qW_back (r := r) (M1 := M1) (va_runI (b := adr G a) (As := (st.take (qA y)).reverse.map (cv G)) (n := qA y) (nL := c.maxLocals) ⟨hx, hb, rfl, hown, hts⟩ hMet ⟨hcb, hinit, hinst⟩ ⟨qPc_blind, pre hR hS⟩ rfl hlenA (by rw [← hll]; exact hL.1) hst (cv_room G hrest) hdg hB2) hNN hc hR hS hL hll kk
      · have hnw := hTab.2.1 _ hne
        have hcb : va_CN R s args (qR (qO z)) i (qY y) "LetterRuns" (qB y) (qL y) none (.code (qY y) (qB y) (qL y) none :: qW) (qRm y) (qMc y) (qMs y) (qA y) :=
          va_cnB (qA y) hts (by rw [← hcwd]; exact qW_in hy) rfl rfl rfl hnw (by rw [y1]; exact hts _ (q_ini _ y5)) ⟨y2, y3, y4⟩ ⟨by show qFr y + 1 ≤ R.frames; omega, by show 8 + (qL y + 11) + qWd y ≤ R.locals; omega⟩
        exact qW_back (r := r) (M1 := M1) (va_runIN (b := adr G a) (As := (st.take (qA y)).reverse.map (cv G)) (n := qA y) (nL := c.maxLocals) ⟨hx, hb, rfl, hown, hts⟩ hMet ⟨hcb, hinit, hinst⟩ ⟨qPc_blind, pre hR hS⟩ rfl hlenA (by rw [← hll]; exact hL.1) hst (cv_room G hrest) hdg hB2) hNN hc hR hS hL hll kk
      · omega
      · omega
  | _ => cases hi
theorem sd_ret {i : Instr} {k : Nat} {L : qLo} {st : List Value} {M : qHp} {v : Option Value} {mc ms : Nat} {Qc : Array Value → State → Outcome → State → Prop} (C : qCx G p R s m args meth c z) (h : qStepI z i k pc L st M = some (.inr (.inr v))) (hi : qEnd i = true) (hdg : decode (qB z) pc = .ok (i, k)) (hr : meth.sig.returnType = qRt z) (hlocks : meth.locks = false)
    (hq : ∀ (H : Heap) (locs : List Loc) (t : State), qRep G M H → va_S (gA G) s.heap H locs → t.heap = H → Qc args s (.returned (v.map (cv G))) t) (hcs : M.1.1 - N0 = mc ∧ M.1.2 - S0 = ms) : qWp G p l e R s m args below meth c (MQ below Qc args s mc ms (gA G)) N0 S0 (pc, L, st, M) := by
  obtain ⟨hx, hb, hml, hown, hts, hTab, hin, hRm, hbase⟩ := C
  obtain ⟨rfl, rfl⟩ := hcs
  cases i with
  | ireturn =>
    simp only [qStepI] at h
    split at h
    rotate_left
    · cases h
    rename_i hk
    subst hk
    split at h
    rotate_left
    · cases h
    rename_i x
    split at h
    rotate_left
    · cases h
    rename_i hrk
    cases h
    intro H locs ls hR hS hL hll
    unfold qRk at hrk
    split at hrk
    · rename_i e; exact W.iret (v := x) hx hb (hr.trans e) (fun t ht hW => hq H locs t hR hS ht) hS.2.2 hdg hlocks
    · rename_i e
      refine W.zret (v := x) (ty := .boolean) hx hb (hr.trans e) ?_ (fun t ht hW => hq H locs t hR hS ht) hS.2.2 hdg hlocks
      have : x = 0 ∨ x = 1 := by simpa using hrk
      rcases this with rfl | rfl <;> rfl
    · rename_i e
      refine W.zret (v := x) (ty := .char) hx hb (hr.trans e) ?_ (fun t ht hW => hq H locs t hR hS ht) hS.2.2 hdg hlocks
      exact (qFit_ok (G := G) (ty := .char) (v := .int x) hrk).1
    · cases hrk
  | lreturn =>
    simp only [qStepI] at h
    split at h
    rotate_left
    · cases h
    rename_i hk
    subst hk
    split at h
    rotate_left
    · cases h
    rename_i x
    split at h
    rotate_left
    · cases h
    rename_i hrk
    cases h
    intro H locs ls hR hS hL hll
    exact W.lret (v := x) hx hb (hr.trans hrk) (fun t ht hW => hq H locs t hR hS ht) hS.2.2 hdg hlocks
  | areturn =>
    simp only [qStepI] at h
    split at h
    rotate_left
    · cases h
    rename_i hk
    subst hk
    split at h
    · rename_i x
      split at h
      rotate_left
      · cases h
      rename_i hrk
      cases h
      intro H locs ls hR hS hL hll
      obtain ⟨n, hn⟩ : ∃ n, qRt z = some (.object n) := by
        unfold qRo at hrk
        split at hrk
        · rename_i n e; exact ⟨n, e⟩
        · cases hrk
      exact W.aret (v := .ref (adr G x)) hx hb (hr.trans hn) (Or.inl ⟨_, rfl⟩) (Or.inr ⟨_, rfl⟩) (fun t ht hW => hq H locs t hR hS ht) hS.2.2 hdg hlocks
    · split at h
      rotate_left
      · cases h
      rename_i hrk
      cases h
      intro H locs ls hR hS hL hll
      obtain ⟨n, hn⟩ : ∃ n, qRt z = some (.object n) := by
        unfold qRo at hrk
        split at hrk
        · rename_i n e; exact ⟨n, e⟩
        · cases hrk
      exact W.aret (v := .null) hx hb (hr.trans hn) (Or.inl ⟨_, rfl⟩) (Or.inl rfl) (fun t ht hW => hq H locs t hR hS ht) hS.2.2 hdg hlocks
    · cases h
  | return_ =>
    simp only [qStepI] at h
    split at h
    rotate_left
    · cases h
    rename_i hk
    subst hk
    split at h
    rotate_left
    · cases h
    split at h
    rotate_left
    · cases h
    rename_i hrk
    cases h
    intro H locs ls hR hS hL hll
    exact W.vret hx hb (hr.trans hrk) (fun t ht hW => hq H locs t hR hS ht) hS.2.2 hdg hlocks
  | _ => cases hi
theorem sd_all {i : Instr} {k : Nat} {L : qLo} {st : List Value} {M : qHp} {f : qCf} (C : qCx G p R s m args meth c z) (hNN : N0 ≤ M.1.1 ∧ S0 ≤ M.1.2) (hB : f.2.2.2.1.1 - N0 ≤ R.cells ∧ f.2.2.2.1.2 - S0 ≤ R.slots) (h : qStepI z i k pc L st M = some (.inl f)) (hdg : decode (qB z) pc = .ok (i, k)) (kk : qWp G p l e R s m args below meth c Q N0 S0 f) : qWp G p l e R s m args below meth c Q N0 S0 (pc, L, st, M) := by
  cases i with
  | iconst n => exact sd_iconst C h hdg kk
  | bipush n => exact sd_bipush C h hdg kk
  | sipush n => exact sd_sipush C h hdg kk
  | lconst n => exact sd_lconst C h hdg kk
  | aconst_null => exact sd_aconst_null C h hdg kk
  | ldc i => exact sd_ldc C h hdg kk
  | ldc2_w i => exact sd_ldc2_w C h hdg kk
  | iload i => exact sd_iload C h hdg kk
  | iload_n i => exact sd_iload_n C h hdg kk
  | lload i => exact sd_lload C h hdg kk
  | lload_n i => exact sd_lload_n C h hdg kk
  | aload i => exact sd_aload C h hdg kk
  | aload_n i => exact sd_aload_n C h hdg kk
  | istore i => exact sd_istore C h hdg kk
  | istore_n i => exact sd_istore_n C h hdg kk
  | lstore i => exact sd_lstore C h hdg kk
  | lstore_n i => exact sd_lstore_n C h hdg kk
  | astore i => exact sd_astore C h hdg kk
  | astore_n i => exact sd_astore_n C h hdg kk
  | iinc i n => exact sd_iinc C h hdg kk
  | iadd => exact sd_iadd C h hdg kk
  | isub => exact sd_isub C h hdg kk
  | imul => exact sd_imul C h hdg kk
  | iand => exact sd_iand C h hdg kk
  | idiv => exact sd_idiv C h hdg kk
  | irem => exact sd_irem C h hdg kk
  | land => exact sd_land C h hdg kk
  | lor => exact sd_lor C h hdg kk
  | lshl => exact sd_lshl C h hdg kk
  | lshr => exact sd_lshr C h hdg kk
  | lushr => exact sd_lushr C h hdg kk
  | lcmp => exact sd_lcmp C h hdg kk
  | i2l => exact sd_i2l C h hdg kk
  | l2i => exact sd_l2i C h hdg kk
  | i2c => exact sd_i2c C h hdg kk
  | dup => exact sd_dup C h hdg kk
  | dup2 => exact sd_dup2 C h hdg kk
  | dup_x1 => exact sd_dup_x1 C h hdg kk
  | pop => exact sd_pop C h hdg kk
  | ifnull o => exact sd_ifnull C h hdg kk
  | ifnonnull o => exact sd_ifnonnull C h hdg kk
  | goto o => exact sd_goto C h hdg kk
  | tableswitch d lo hi o => exact sd_tableswitch C h hdg kk
  | lookupswitch d o => exact sd_lookupswitch C h hdg kk
  | getfield i => exact sd_getfield C h hdg kk
  | putfield i => exact sd_putfield C h hdg kk
  | getstatic i => exact sd_getstatic C h hdg kk
  | iaload => exact sd_iaload C h hdg kk
  | baload => exact sd_baload C h hdg kk
  | caload => exact sd_caload C h hdg kk
  | aaload => exact sd_aaload C h hdg kk
  | iastore => exact sd_iastore C h hdg kk
  | bastore => exact sd_bastore C h hdg kk
  | castore => exact sd_castore C h hdg kk
  | aastore => exact sd_aastore C h hdg kk
  | arraylength => exact sd_arraylength C h hdg kk
  | invokespecial i => exact sd_invokespecial C h hdg kk
  | ifCond cd o => cases cd with
    | eq => exact sd_ifCond_eq C h hdg kk
    | ne => exact sd_ifCond_ne C h hdg kk
    | lt => exact sd_ifCond_lt C h hdg kk
    | ge => exact sd_ifCond_ge C h hdg kk
    | gt => exact sd_ifCond_gt C h hdg kk
    | le => exact sd_ifCond_le C h hdg kk
  | if_icmp cd o => cases cd with
    | eq => exact sd_if_icmp_eq C h hdg kk
    | ne => exact sd_if_icmp_ne C h hdg kk
    | lt => exact sd_if_icmp_lt C h hdg kk
    | ge => exact sd_if_icmp_ge C h hdg kk
    | gt => exact sd_if_icmp_gt C h hdg kk
    | le => exact sd_if_icmp_le C h hdg kk
  | newarray t => exact sd_newarray C hNN hB h hdg kk
  | anewarray i => exact sd_anewarray C hNN hB h hdg kk
  | new i => exact sd_new C hNN hB h hdg kk
  | invokestatic i => exact sd_invokestatic C hNN hB h hdg kk
  | invokevirtual i => exact (sd_invokevirtual h).elim
  | ireturn => simp only [qStepI] at h; (repeat' (split at h)) <;> cases h
  | lreturn => simp only [qStepI] at h; (repeat' (split at h)) <;> cases h
  | areturn => simp only [qStepI] at h; (repeat' (split at h)) <;> cases h
  | return_ => simp only [qStepI] at h; (repeat' (split at h)) <;> cases h
  | _ => cases h
theorem qFetch_ok {q : Instr × Nat} (h : qFetch z pc = some q) : decode (qB z) pc = .ok q := by
  unfold qFetch at h
  split at h
  · rename_i e; cases h; exact e
  · cases h
end QD
/-- ALL TOGETHER: where the interpreter comes to an end, the machine does, whatever waits for it there -/
theorem qWalk (G : qG) (l : Launch) : ∀ (n z : Nat) (f : qCf) (r : Option Value) (M' : qHp), qExec n z f = some (r, M') →
    (∀ (n' : Nat), n' < n → ∀ (y : Nat) (As : List Value) (M1 M2 : qHp) (r2 : Option Value), y < 148 → (lg_sl As).length ≤ qL y → qExec n' y (0, qEntry y As, [], M1) = some (r2, M2) → M2.1 = (M1.1.1 + qMc y, M1.1.2 + qMs y) → Met l (qY y) (qCw y :: qW) (qRm y) (qPc G As M1) (qQc G r2 M2) (qMc y) (qMs y) (gA G)) →
    ∀ {p : Program} {e : Env} {R : Room} {s : State} {m : MethodId} {args : Array Value} {below : List Frame} {meth : Method} {c : Code} {Q : State → Prop} {N0 S0 : Nat}, qCx G p R s m args meth c z → (N0 ≤ f.2.2.2.1.1 ∧ S0 ≤ f.2.2.2.1.2) → (M'.1.1 - N0 ≤ R.cells ∧ M'.1.2 - S0 ≤ R.slots) →
    (∀ (i : Instr) (k pc : Nat) (L : qLo) (st : List Value), qStepI z i k pc L st M' = some (.inr (.inr r)) → qEnd i = true → decode (qB z) pc = .ok (i, k) → qWp G p l e R s m args below meth c Q N0 S0 (pc, L, st, M')) → qWp G p l e R s m args below meth c Q N0 S0 f := by
  intro n
  induction n with
  | zero => intro z f r M' h; simp [qExec] at h
  | succ n ih =>
    intro z f r M' h IH p e R s m args below meth c Q N0 S0 C hNN hB hend
    have hup := qExec_up _ _ _ _ _ h
    rw [qExec] at h
    cases hs : qStep z f with
    | none => rw [hs] at h; cases h
    | some q =>
      rw [hs] at h
      unfold qStep at hs
      obtain ⟨⟨i, k⟩, hf, hs⟩ := Option.bind_eq_some_iff.mp hs
      have hdg := qFetch_ok hf
      obtain ⟨pc, L, st, M⟩ := f
      rcases q with f' | ⟨y, As, f'⟩ | v
      · simp only at h
        split at h
        rotate_left
        · cases h
        rename_i hle
        have hst := qFlt_inl hs
        have hup2 := qExec_up _ _ _ _ _ h
        exact sd_all C hNN (by omega) hst hdg (ih z f' r M' h (fun n' hn' => IH n' (by omega)) C (by simp only at hle hNN; omega) hB hend)
      · simp only at h
        obtain ⟨⟨r1, M1⟩, hq, hk⟩ := Option.bind_eq_some_iff.mp h
        split at hk
        rotate_left
        · cases hk
        rename_i he
        obtain ⟨hst, hi⟩ := qFlt_call hs
        have hup2 := qExec_up _ _ _ _ _ hk
        simp only at he hup2
        refine sd_call (r := r1) (M1 := M1) C hNN hst hi hdg (fun hy hsl => IH n (by omega) y As M M1 r1 hy hsl hq he) he (by omega) ?_
        exact ih z _ r M' hk (fun n' hn' => IH n' (by omega)) C (by rw [he]; simp only at hNN ⊢; omega) hB hend
      · cases h
        obtain ⟨hst, hi⟩ := qFlt_end hs
        exact hend i k pc L st hst hi hdg
/-- every method's contract out of the interpreter -/
theorem qMet (G : qG) (l : Launch) : ∀ (n y : Nat) (As : List Value) (M1 M2 : qHp) (r2 : Option Value), y < 148 → (lg_sl As).length ≤ qL y → qExec n y (0, qEntry y As, [], M1) = some (r2, M2) → M2.1 = (M1.1.1 + qMc y, M1.1.2 + qMs y) → Met l (qY y) (qCw y :: qW) (qRm y) (qPc G As M1) (qQc G r2 M2) (qMc y) (qMs y) (gA G) := by
  intro n
  induction n using Nat.strongRecOn with
  | _ n ih =>
    intro y As M1 M2 r2 hy hsl hex hc
    obtain ⟨y1, y2, y3, y4, y5, y6, y7⟩ := q_y y hy
    refine Met.ofW (cc := qB y) (maxL := qL y) (ret := qRt y) y6 rfl ?_
    intro p e s m args below meth c s₁ B hml hv
    obtain ⟨rfl, hR, hTab⟩ := hv
    have hts := atoms_spec (ws := qCw y :: qW) B.pre
    have hown : s.vm.findClass (qR (qO y)) = some m.cls := by rw [← y1]; exact findClass_of_methodNamed B.named
    have hbase : gB G ≤ s.heap.size := by have := hR.1; have := hR.2.1; omega
    have C : qCx G p (headSpec (qCw y :: qW) (qRm y)).room s m ((As.map (cv G)).toArray) meth c y :=
      ⟨B.exec, B.bytes, hml, hown, fun w hw => hts w (List.mem_cons_of_mem _ hw), hTab, fun hk => by
        rw [hk] at y7
        have h1 : (qY y).name = "<init>" := by simpa using y7.symm
        rw [← h1]; exact (name_of_methodNamed B.named B.method).1, ⟨Nat.le_refl _, Nat.le_refl _⟩, hbase⟩
    rw [lg_entry_eq]
    obtain ⟨hL, hll⟩ := qHas.entry (G := G) (z := y) hsl
    have hcM : M2.1.1 = M1.1.1 + qMc y ∧ M2.1.2 = M1.1.2 + qMs y := by rw [hc]; exact ⟨rfl, rfl⟩
    have hw := qWalk G l n y (0, qEntry y As, [], M1) r2 M2 hex (fun n' hn' => ih n' hn') (below := below) (e := e) (Q := MQ below (qQc G r2 M2) ((As.map (cv G)).toArray) s (qMc y) (qMs y) (gA G)) (N0 := M1.1.1) (S0 := M1.1.2) C ⟨Nat.le_refl _, Nat.le_refl _⟩ ⟨by show _ ≤ qMc y; omega, by show _ ≤ qMs y; omega⟩
      (fun i k pc L st hst hi hdg => sd_ret C hst hi hdg B.returns B.notSynchronized (fun H locs t hR' hS' ht => ⟨rfl, by rw [ht]; exact hR', hS'.F ht⟩) ⟨by omega, by omega⟩)
    have hw2 := hw s.heap [] _ hR va_S.rf hL (by show _ = c.maxLocals; rw [hml]; exact hll)
    simp only [Nat.sub_self] at hw2
    exact hw2
end
section
/-! one equation for each kind of instruction -/
theorem qFetch_of {z pc : Nat} {q : Instr × Nat} (h : decode (qB z) pc = .ok q) : qFetch z pc = some q := by
  unfold qFetch
  rw [h]
def hT (M : qHp) (a c : Nat) : Bool := match M.2 a with
  | some q => decide (q.1 = c)
  | none => false
theorem qNl_i {x : Int32} : qNl (some (some (.int x))) = true := rfl
theorem qNl_r {x : Nat} : qNl (some (some (.ref x))) = true := rfl
theorem qNl_u : qNl (some none) = true := rfl
theorem qNl_n : qNl (some (some .null)) = true := rfl
section QK
variable {z pc : Nat} {L : qLo} {st : List Value} {M : qHp}
theorem qStep_at {q : Instr × Nat} (h : qFetch z pc = some q) : qStep z (pc, L, st, M) = qFlt q.1 (qStepI z q.1 q.2 pc L st M) := by
  show (qFetch z pc).bind _ = _
  rw [h]
  rfl
theorem kk_next {i : Instr} {k : Nat} {f : qCf} (h : qFetch z pc = some (i, k)) (hs : qStepI z i k pc L st M = some (.inl f)) (hle : M.1.1 ≤ f.2.2.2.1.1 ∧ M.1.2 ≤ f.2.2.2.1.2) : qEx z (pc, L, st, M) = qEx z f :=
  qEx_next (by rw [qStep_at h, hs]; rfl) hle
theorem kk_same {i : Instr} {k pc' : Nat} {L' : qLo} {st' : List Value} (h : qFetch z pc = some (i, k)) (hs : qStepI z i k pc L st M = some (.inl (pc', L', st', M))) : qEx z (pc, L, st, M) = qEx z (pc', L', st', M) :=
  kk_next h hs ⟨Nat.le_refl _, Nat.le_refl _⟩
theorem kk_none {i : Instr} {k : Nat} (h : qFetch z pc = some (i, k)) (hs : qStepI z i k pc L st M = none) : qEx z (pc, L, st, M) = none := by
  have hst : qStep z (pc, L, st, M) = none := by rw [qStep_at h, hs]; rfl
  cases he : qEx z (pc, L, st, M) with
  | none => rfl
  | some r =>
    obtain ⟨n, hn⟩ := qEx_iff.mp he
    cases n with
    | zero => simp [qExec] at hn
    | succ n => rw [qExec, hst] at hn; cases hn
theorem kk_bind {α : Type} {i : Instr} {k : Nat} {o : Option α} {g : α → qCf} (h : qFetch z pc = some (i, k)) (hs : qStepI z i k pc L st M = o.bind fun v => some (.inl (g v))) (hle : ∀ v, o = some v → M.1.1 ≤ (g v).2.2.2.1.1 ∧ M.1.2 ≤ (g v).2.2.2.1.2) : qEx z (pc, L, st, M) = o.bind fun v => qEx z (g v) := by
  cases o with
  | none => exact kk_none h hs
  | some v => exact kk_next h hs (hle v rfl)
theorem kk_if {c : Prop} {dc : Decidable c} {i : Instr} {k : Nat} {f g : qCf} (h : qFetch z pc = some (i, k)) (hs : qStepI z i k pc L st M = if c then some (.inl f) else some (.inl g)) (h1 : f.2.2.2 = M) (h2 : g.2.2.2 = M) : qEx z (pc, L, st, M) = if c then qEx z f else qEx z g := by
  by_cases hc : c
  · rw [if_pos hc] at hs ⊢
    exact kk_next h hs (by rw [h1]; exact ⟨Nat.le_refl _, Nat.le_refl _⟩)
  · rw [if_neg hc] at hs ⊢
    exact kk_next h hs (by rw [h2]; exact ⟨Nat.le_refl _, Nat.le_refl _⟩)
theorem kk_ret {i : Instr} {k : Nat} {v : Option Value} (h : qFetch z pc = some (i, k)) (hi : qEnd i = true) (hs : qStepI z i k pc L st M = some (.inr (.inr v))) : qEx z (pc, L, st, M) = some (v, M) :=
  qEx_ret (by rw [qStep_at h, hs]; simp [qFlt, hi])
theorem kk_retC {c : Prop} {dc : Decidable c} {i : Instr} {k : Nat} {v : Option Value} (h : qFetch z pc = some (i, k)) (hi : qEnd i = true) (hs : qStepI z i k pc L st M = if c then some (.inr (.inr v)) else none) (hc : c) : qEx z (pc, L, st, M) = some (v, M) :=
  kk_ret h hi (by rw [hs, if_pos hc])
theorem kk_call {i : Instr} {k y pc' : Nat} {As : List Value} {L' : qLo} {st' : List Value} {M' : qHp} (h : qFetch z pc = some (i, k)) (hi : qInv i = true) (hs : qStepI z i k pc L st M = some (.inr (.inl (y, As, (pc', L', st', M'))))) : qEx z (pc, L, st, M) = (qRun y As M).bind fun q => qEx z (pc', L', q.1.toList ++ st', q.2) :=
  qEx_call (c' := (pc', L', st', M')) (by rw [qStep_at h, hs]; simp [qFlt, hi])
theorem kk_callV {a c : Nat} {i : Instr} {k y pc' : Nat} {As : List Value} {L' : qLo} {st' : List Value} {M' : qHp} (h : qFetch z pc = some (i, k)) (hi : qInv i = true) (hs : qStepI z i k pc L st M = (M.2 a).bind fun o => if o.1 = c ∧ o.1 < 8 then some (.inr (.inl (y, As, (pc', L', st', M')))) else none) (h8 : c < 8) : qEx z (pc, L, st, M) = if hT M a c = true then (qRun y As M).bind fun q => qEx z (pc', L', q.1.toList ++ st', q.2) else none := by
  unfold hT
  cases ho : M.2 a with
  | none => rw [ho] at hs; exact kk_none h hs
  | some o =>
    rw [ho] at hs
    simp only [Option.bind_some] at hs
    by_cases hc : o.1 = c
    · rw [if_pos ⟨hc, by omega⟩] at hs
      simp only [hc, decide_true, if_true]
      exact kk_call h hi hs
    · rw [if_neg (fun q => hc q.1)] at hs
      simp only [hc, decide_false, Bool.false_eq_true, if_false]
      exact kk_none h hs
theorem hU_up {a : Nat} {c : qCel} : M.1.1 ≤ (hU M a c).1.1 ∧ M.1.2 ≤ (hU M a c).1.2 := ⟨Nat.le_refl _, Nat.le_refl _⟩
theorem hN_up {c : qCel} : M.1.1 ≤ (hN M c).1.1 ∧ M.1.2 ≤ (hN M c).1.2 := ⟨Nat.le_succ _, Nat.le_add_right _ _⟩
theorem hP_up {M1 : qHp} {a c k : Nat} {ty : FieldType} {v : Value} (h : hP M a c k ty v = some M1) : M.1.1 ≤ M1.1.1 ∧ M.1.2 ≤ M1.1.2 := by
  obtain ⟨vs, -, -, -, rfl⟩ := hP_some h; exact hU_up
theorem hS_up {M1 : qHp} {t a : Nat} {i : Int32} {v : Value} (h : hS M t a i v = some M1) : M.1.1 ≤ M1.1.1 ∧ M.1.2 ≤ M1.1.2 := by
  obtain ⟨vs, -, -, -, rfl⟩ := hS_some h; exact hU_up
theorem hSA_up {M1 : qHp} {a b : Nat} {i : Int32} (h : hSA M a i b = some M1) : M.1.1 ≤ M1.1.1 ∧ M.1.2 ≤ M1.1.2 := by
  obtain ⟨t, vs, c, ws, -, -, -, -, -, rfl⟩ := hSA_some h; exact hU_up
theorem hC_up {M1 : qHp} {a b : Nat} {s d n : Int32} (h : hC M a s b d n = some M1) : M.1.1 ≤ M1.1.1 ∧ M.1.2 ≤ M1.1.2 := by
  obtain ⟨vs, ws, -, -, -, -, -, rfl⟩ := hC_some h; exact hU_up
end QK
end
section
/-! the code of methods 0 to 9, an equation an instruction (by program: wip/whole/gen10.py) -/
theorem f_0_0 : qFetch 0 0 = some (.aload_n 0, 1) := qFetch_of (by decide +kernel)
theorem x_0_0 {l0 : Option Value} {x : Nat} {st : List Value} {M : qHp} : qEx 0 (0, [some (.ref x)], st, M) = qEx 0 (1, [some (.ref x)], .ref x :: st, M) := kk_same f_0_0 (rfl)
theorem f_0_1 : qFetch 0 1 = some (.invokespecial 3, 3) := qFetch_of (by decide +kernel)
theorem x_0_1 {l0 : Option Value} {o : Nat} {M : qHp} : qEx 0 (1, [l0], [.ref o], M) = qEx 0 (4, [l0], [], M) := kk_same f_0_1 rfl
theorem f_0_4 : qFetch 0 4 = some (.return_, 1) := qFetch_of (by decide +kernel)
theorem x_0_4 {l0 : Option Value} {M : qHp} : qEx 0 (4, [l0], [], M) = some (none, M) := kk_ret f_0_4 rfl rfl
theorem f_1_0 : qFetch 1 0 = some (.aload_n 0, 1) := qFetch_of (by decide +kernel)
theorem x_1_0 {l0 l1 l2 l3 l4 : Option Value} {x : Nat} {st : List Value} {M : qHp} : qEx 1 (0, [some (.ref x), l1, l2, l3, l4], st, M) = qEx 1 (1, [some (.ref x), l1, l2, l3, l4], .ref x :: st, M) := kk_same f_1_0 (rfl)
theorem f_1_1 : qFetch 1 1 = some (.iload_n 1, 1) := qFetch_of (by decide +kernel)
theorem x_1_1 {l0 l1 l2 l3 l4 : Option Value} {x : Int32} {st : List Value} {M : qHp} : qEx 1 (1, [l0, some (.int x), l2, l3, l4], st, M) = qEx 1 (2, [l0, some (.int x), l2, l3, l4], .int x :: st, M) := kk_same f_1_1 (rfl)
theorem f_1_2 : qFetch 1 2 = some (.putfield 9, 3) := qFetch_of (by decide +kernel)
theorem x_1_2 {l0 l1 l2 l3 l4 : Option Value} {x : Int32} {a : Nat} {st : List Value} {M : qHp} : qEx 1 (2, [l0, l1, l2, l3, l4], .int x :: .ref a :: st, M) = (hP M a 0 0 .int (.int x)).bind fun M => qEx 1 (5, [l0, l1, l2, l3, l4], st, M) := kk_bind f_1_2 rfl (fun _ h => hP_up h)
theorem f_1_5 : qFetch 1 5 = some (.aload_n 0, 1) := qFetch_of (by decide +kernel)
theorem x_1_5 {l0 l1 l2 l3 l4 : Option Value} {x : Nat} {st : List Value} {M : qHp} : qEx 1 (5, [some (.ref x), l1, l2, l3, l4], st, M) = qEx 1 (6, [some (.ref x), l1, l2, l3, l4], .ref x :: st, M) := kk_same f_1_5 (rfl)
theorem f_1_6 : qFetch 1 6 = some (.iload_n 2, 1) := qFetch_of (by decide +kernel)
theorem x_1_6 {l0 l1 l2 l3 l4 : Option Value} {x : Int32} {st : List Value} {M : qHp} : qEx 1 (6, [l0, l1, some (.int x), l3, l4], st, M) = qEx 1 (7, [l0, l1, some (.int x), l3, l4], .int x :: st, M) := kk_same f_1_6 (rfl)
theorem f_1_7 : qFetch 1 7 = some (.putfield 15, 3) := qFetch_of (by decide +kernel)
theorem x_1_7 {l0 l1 l2 l3 l4 : Option Value} {x : Int32} {a : Nat} {st : List Value} {M : qHp} : qEx 1 (7, [l0, l1, l2, l3, l4], .int x :: .ref a :: st, M) = (hP M a 0 1 .int (.int x)).bind fun M => qEx 1 (10, [l0, l1, l2, l3, l4], st, M) := kk_bind f_1_7 rfl (fun _ h => hP_up h)
theorem f_1_10 : qFetch 1 10 = some (.aload_n 0, 1) := qFetch_of (by decide +kernel)
theorem x_1_10 {l0 l1 l2 l3 l4 : Option Value} {x : Nat} {st : List Value} {M : qHp} : qEx 1 (10, [some (.ref x), l1, l2, l3, l4], st, M) = qEx 1 (11, [some (.ref x), l1, l2, l3, l4], .ref x :: st, M) := kk_same f_1_10 (rfl)
theorem f_1_11 : qFetch 1 11 = some (.iload_n 3, 1) := qFetch_of (by decide +kernel)
theorem x_1_11 {l0 l1 l2 l3 l4 : Option Value} {x : Int32} {st : List Value} {M : qHp} : qEx 1 (11, [l0, l1, l2, some (.int x), l4], st, M) = qEx 1 (12, [l0, l1, l2, some (.int x), l4], .int x :: st, M) := kk_same f_1_11 (rfl)
theorem f_1_12 : qFetch 1 12 = some (.putfield 18, 3) := qFetch_of (by decide +kernel)
theorem x_1_12 {l0 l1 l2 l3 l4 : Option Value} {x : Int32} {a : Nat} {st : List Value} {M : qHp} : qEx 1 (12, [l0, l1, l2, l3, l4], .int x :: .ref a :: st, M) = (hP M a 0 2 .int (.int x)).bind fun M => qEx 1 (15, [l0, l1, l2, l3, l4], st, M) := kk_bind f_1_12 rfl (fun _ h => hP_up h)
theorem f_1_15 : qFetch 1 15 = some (.aload_n 0, 1) := qFetch_of (by decide +kernel)
theorem x_1_15 {l0 l1 l2 l3 l4 : Option Value} {x : Nat} {st : List Value} {M : qHp} : qEx 1 (15, [some (.ref x), l1, l2, l3, l4], st, M) = qEx 1 (16, [some (.ref x), l1, l2, l3, l4], .ref x :: st, M) := kk_same f_1_15 (rfl)
theorem f_1_16 : qFetch 1 16 = some (.iload 4, 2) := qFetch_of (by decide +kernel)
theorem x_1_16 {l0 l1 l2 l3 l4 : Option Value} {x : Int32} {st : List Value} {M : qHp} : qEx 1 (16, [l0, l1, l2, l3, some (.int x)], st, M) = qEx 1 (18, [l0, l1, l2, l3, some (.int x)], .int x :: st, M) := kk_same f_1_16 (rfl)
theorem f_1_18 : qFetch 1 18 = some (.putfield 21, 3) := qFetch_of (by decide +kernel)
theorem x_1_18 {l0 l1 l2 l3 l4 : Option Value} {x : Int32} {a : Nat} {st : List Value} {M : qHp} : qEx 1 (18, [l0, l1, l2, l3, l4], .int x :: .ref a :: st, M) = (hP M a 0 3 .int (.int x)).bind fun M => qEx 1 (21, [l0, l1, l2, l3, l4], st, M) := kk_bind f_1_18 rfl (fun _ h => hP_up h)
theorem f_1_21 : qFetch 1 21 = some (.aload_n 0, 1) := qFetch_of (by decide +kernel)
theorem x_1_21 {l0 l1 l2 l3 l4 : Option Value} {x : Nat} {st : List Value} {M : qHp} : qEx 1 (21, [some (.ref x), l1, l2, l3, l4], st, M) = qEx 1 (22, [some (.ref x), l1, l2, l3, l4], .ref x :: st, M) := kk_same f_1_21 (rfl)
theorem f_1_22 : qFetch 1 22 = some (.iload_n 2, 1) := qFetch_of (by decide +kernel)
theorem x_1_22 {l0 l1 l2 l3 l4 : Option Value} {x : Int32} {st : List Value} {M : qHp} : qEx 1 (22, [l0, l1, some (.int x), l3, l4], st, M) = qEx 1 (23, [l0, l1, some (.int x), l3, l4], .int x :: st, M) := kk_same f_1_22 (rfl)
theorem f_1_23 : qFetch 1 23 = some (.putfield 24, 3) := qFetch_of (by decide +kernel)
theorem x_1_23 {l0 l1 l2 l3 l4 : Option Value} {x : Int32} {a : Nat} {st : List Value} {M : qHp} : qEx 1 (23, [l0, l1, l2, l3, l4], .int x :: .ref a :: st, M) = (hP M a 0 4 .int (.int x)).bind fun M => qEx 1 (26, [l0, l1, l2, l3, l4], st, M) := kk_bind f_1_23 rfl (fun _ h => hP_up h)
theorem f_1_26 : qFetch 1 26 = some (.aload_n 0, 1) := qFetch_of (by decide +kernel)
theorem x_1_26 {l0 l1 l2 l3 l4 : Option Value} {x : Nat} {st : List Value} {M : qHp} : qEx 1 (26, [some (.ref x), l1, l2, l3, l4], st, M) = qEx 1 (27, [some (.ref x), l1, l2, l3, l4], .ref x :: st, M) := kk_same f_1_26 (rfl)
theorem f_1_27 : qFetch 1 27 = some (.iconst 0, 1) := qFetch_of (by decide +kernel)
theorem x_1_27 {l0 l1 l2 l3 l4 : Option Value} {st : List Value} {M : qHp} : qEx 1 (27, [l0, l1, l2, l3, l4], st, M) = qEx 1 (28, [l0, l1, l2, l3, l4], .int 0 :: st, M) := kk_same f_1_27 (rfl)
theorem f_1_28 : qFetch 1 28 = some (.putfield 27, 3) := qFetch_of (by decide +kernel)
theorem x_1_28 {l0 l1 l2 l3 l4 : Option Value} {x : Int32} {a : Nat} {st : List Value} {M : qHp} : qEx 1 (28, [l0, l1, l2, l3, l4], .int x :: .ref a :: st, M) = (hP M a 0 5 .int (.int x)).bind fun M => qEx 1 (31, [l0, l1, l2, l3, l4], st, M) := kk_bind f_1_28 rfl (fun _ h => hP_up h)
theorem f_1_31 : qFetch 1 31 = some (.aload_n 0, 1) := qFetch_of (by decide +kernel)
theorem x_1_31 {l0 l1 l2 l3 l4 : Option Value} {x : Nat} {st : List Value} {M : qHp} : qEx 1 (31, [some (.ref x), l1, l2, l3, l4], st, M) = qEx 1 (32, [some (.ref x), l1, l2, l3, l4], .ref x :: st, M) := kk_same f_1_31 (rfl)
theorem f_1_32 : qFetch 1 32 = some (.iconst 0, 1) := qFetch_of (by decide +kernel)
theorem x_1_32 {l0 l1 l2 l3 l4 : Option Value} {st : List Value} {M : qHp} : qEx 1 (32, [l0, l1, l2, l3, l4], st, M) = qEx 1 (33, [l0, l1, l2, l3, l4], .int 0 :: st, M) := kk_same f_1_32 (rfl)
theorem f_1_33 : qFetch 1 33 = some (.putfield 30, 3) := qFetch_of (by decide +kernel)
theorem x_1_33 {l0 l1 l2 l3 l4 : Option Value} {x : Int32} {a : Nat} {st : List Value} {M : qHp} : qEx 1 (33, [l0, l1, l2, l3, l4], .int x :: .ref a :: st, M) = (hP M a 0 6 .int (.int x)).bind fun M => qEx 1 (36, [l0, l1, l2, l3, l4], st, M) := kk_bind f_1_33 rfl (fun _ h => hP_up h)
theorem f_1_36 : qFetch 1 36 = some (.aload_n 0, 1) := qFetch_of (by decide +kernel)
theorem x_1_36 {l0 l1 l2 l3 l4 : Option Value} {x : Nat} {st : List Value} {M : qHp} : qEx 1 (36, [some (.ref x), l1, l2, l3, l4], st, M) = qEx 1 (37, [some (.ref x), l1, l2, l3, l4], .ref x :: st, M) := kk_same f_1_36 (rfl)
theorem f_1_37 : qFetch 1 37 = some (.iconst 0, 1) := qFetch_of (by decide +kernel)
theorem x_1_37 {l0 l1 l2 l3 l4 : Option Value} {st : List Value} {M : qHp} : qEx 1 (37, [l0, l1, l2, l3, l4], st, M) = qEx 1 (38, [l0, l1, l2, l3, l4], .int 0 :: st, M) := kk_same f_1_37 (rfl)
theorem f_1_38 : qFetch 1 38 = some (.putfield 33, 3) := qFetch_of (by decide +kernel)
theorem x_1_38 {l0 l1 l2 l3 l4 : Option Value} {x : Int32} {a : Nat} {st : List Value} {M : qHp} : qEx 1 (38, [l0, l1, l2, l3, l4], .int x :: .ref a :: st, M) = (hP M a 0 7 .int (.int x)).bind fun M => qEx 1 (41, [l0, l1, l2, l3, l4], st, M) := kk_bind f_1_38 rfl (fun _ h => hP_up h)
theorem f_1_41 : qFetch 1 41 = some (.aload_n 0, 1) := qFetch_of (by decide +kernel)
theorem x_1_41 {l0 l1 l2 l3 l4 : Option Value} {x : Nat} {st : List Value} {M : qHp} : qEx 1 (41, [some (.ref x), l1, l2, l3, l4], st, M) = qEx 1 (42, [some (.ref x), l1, l2, l3, l4], .ref x :: st, M) := kk_same f_1_41 (rfl)
theorem f_1_42 : qFetch 1 42 = some (.iconst 0, 1) := qFetch_of (by decide +kernel)
theorem x_1_42 {l0 l1 l2 l3 l4 : Option Value} {st : List Value} {M : qHp} : qEx 1 (42, [l0, l1, l2, l3, l4], st, M) = qEx 1 (43, [l0, l1, l2, l3, l4], .int 0 :: st, M) := kk_same f_1_42 (rfl)
theorem f_1_43 : qFetch 1 43 = some (.putfield 36, 3) := qFetch_of (by decide +kernel)
theorem x_1_43 {l0 l1 l2 l3 l4 : Option Value} {x : Int32} {a : Nat} {st : List Value} {M : qHp} : qEx 1 (43, [l0, l1, l2, l3, l4], .int x :: .ref a :: st, M) = (hP M a 0 8 .int (.int x)).bind fun M => qEx 1 (46, [l0, l1, l2, l3, l4], st, M) := kk_bind f_1_43 rfl (fun _ h => hP_up h)
theorem f_1_46 : qFetch 1 46 = some (.aload_n 0, 1) := qFetch_of (by decide +kernel)
theorem x_1_46 {l0 l1 l2 l3 l4 : Option Value} {x : Nat} {st : List Value} {M : qHp} : qEx 1 (46, [some (.ref x), l1, l2, l3, l4], st, M) = qEx 1 (47, [some (.ref x), l1, l2, l3, l4], .ref x :: st, M) := kk_same f_1_46 (rfl)
theorem f_1_47 : qFetch 1 47 = some (.iconst 0, 1) := qFetch_of (by decide +kernel)
theorem x_1_47 {l0 l1 l2 l3 l4 : Option Value} {st : List Value} {M : qHp} : qEx 1 (47, [l0, l1, l2, l3, l4], st, M) = qEx 1 (48, [l0, l1, l2, l3, l4], .int 0 :: st, M) := kk_same f_1_47 (rfl)
theorem f_1_48 : qFetch 1 48 = some (.putfield 39, 3) := qFetch_of (by decide +kernel)
theorem x_1_48 {l0 l1 l2 l3 l4 : Option Value} {x : Int32} {a : Nat} {st : List Value} {M : qHp} : qEx 1 (48, [l0, l1, l2, l3, l4], .int x :: .ref a :: st, M) = (hP M a 0 9 .int (.int x)).bind fun M => qEx 1 (51, [l0, l1, l2, l3, l4], st, M) := kk_bind f_1_48 rfl (fun _ h => hP_up h)
theorem f_1_51 : qFetch 1 51 = some (.aload_n 0, 1) := qFetch_of (by decide +kernel)
theorem x_1_51 {l0 l1 l2 l3 l4 : Option Value} {x : Nat} {st : List Value} {M : qHp} : qEx 1 (51, [some (.ref x), l1, l2, l3, l4], st, M) = qEx 1 (52, [some (.ref x), l1, l2, l3, l4], .ref x :: st, M) := kk_same f_1_51 (rfl)
theorem f_1_52 : qFetch 1 52 = some (.bipush (-6), 2) := qFetch_of (by decide +kernel)
theorem x_1_52 {l0 l1 l2 l3 l4 : Option Value} {st : List Value} {M : qHp} : qEx 1 (52, [l0, l1, l2, l3, l4], st, M) = qEx 1 (54, [l0, l1, l2, l3, l4], .int (-6) :: st, M) := kk_same f_1_52 (rfl)
theorem f_1_54 : qFetch 1 54 = some (.putfield 42, 3) := qFetch_of (by decide +kernel)
theorem x_1_54 {l0 l1 l2 l3 l4 : Option Value} {x : Int32} {a : Nat} {st : List Value} {M : qHp} : qEx 1 (54, [l0, l1, l2, l3, l4], .int x :: .ref a :: st, M) = (hP M a 0 10 .int (.int x)).bind fun M => qEx 1 (57, [l0, l1, l2, l3, l4], st, M) := kk_bind f_1_54 rfl (fun _ h => hP_up h)
theorem f_1_57 : qFetch 1 57 = some (.return_, 1) := qFetch_of (by decide +kernel)
theorem x_1_57 {l0 l1 l2 l3 l4 : Option Value} {M : qHp} : qEx 1 (57, [l0, l1, l2, l3, l4], [], M) = some (none, M) := kk_ret f_1_57 rfl rfl
theorem f_2_0 : qFetch 2 0 = some (.aload_n 0, 1) := qFetch_of (by decide +kernel)
theorem x_2_0 {l0 l1 : Option Value} {x : Nat} {st : List Value} {M : qHp} : qEx 2 (0, [some (.ref x), l1], st, M) = qEx 2 (1, [some (.ref x), l1], .ref x :: st, M) := kk_same f_2_0 (rfl)
theorem f_2_1 : qFetch 2 1 = some (.aload_n 1, 1) := qFetch_of (by decide +kernel)
theorem x_2_1 {l0 l1 : Option Value} {x : Nat} {st : List Value} {M : qHp} : qEx 2 (1, [l0, some (.ref x)], st, M) = qEx 2 (2, [l0, some (.ref x)], .ref x :: st, M) := kk_same f_2_1 (rfl)
theorem f_2_2 : qFetch 2 2 = some (.getfield 9, 3) := qFetch_of (by decide +kernel)
theorem x_2_2 {l0 l1 : Option Value} {a : Nat} {st : List Value} {M : qHp} : qEx 2 (2, [l0, l1], .ref a :: st, M) = (hG M a 0 0).bind fun v => qEx 2 (5, [l0, l1], v :: st, M) := kk_bind f_2_2 rfl (fun _ _ => ⟨Nat.le_refl _, Nat.le_refl _⟩)
theorem f_2_5 : qFetch 2 5 = some (.putfield 9, 3) := qFetch_of (by decide +kernel)
theorem x_2_5 {l0 l1 : Option Value} {x : Int32} {a : Nat} {st : List Value} {M : qHp} : qEx 2 (5, [l0, l1], .int x :: .ref a :: st, M) = (hP M a 0 0 .int (.int x)).bind fun M => qEx 2 (8, [l0, l1], st, M) := kk_bind f_2_5 rfl (fun _ h => hP_up h)
theorem f_2_8 : qFetch 2 8 = some (.aload_n 0, 1) := qFetch_of (by decide +kernel)
theorem x_2_8 {l0 l1 : Option Value} {x : Nat} {st : List Value} {M : qHp} : qEx 2 (8, [some (.ref x), l1], st, M) = qEx 2 (9, [some (.ref x), l1], .ref x :: st, M) := kk_same f_2_8 (rfl)
theorem f_2_9 : qFetch 2 9 = some (.aload_n 1, 1) := qFetch_of (by decide +kernel)
theorem x_2_9 {l0 l1 : Option Value} {x : Nat} {st : List Value} {M : qHp} : qEx 2 (9, [l0, some (.ref x)], st, M) = qEx 2 (10, [l0, some (.ref x)], .ref x :: st, M) := kk_same f_2_9 (rfl)
theorem f_2_10 : qFetch 2 10 = some (.getfield 15, 3) := qFetch_of (by decide +kernel)
theorem x_2_10 {l0 l1 : Option Value} {a : Nat} {st : List Value} {M : qHp} : qEx 2 (10, [l0, l1], .ref a :: st, M) = (hG M a 0 1).bind fun v => qEx 2 (13, [l0, l1], v :: st, M) := kk_bind f_2_10 rfl (fun _ _ => ⟨Nat.le_refl _, Nat.le_refl _⟩)
theorem f_2_13 : qFetch 2 13 = some (.putfield 15, 3) := qFetch_of (by decide +kernel)
theorem x_2_13 {l0 l1 : Option Value} {x : Int32} {a : Nat} {st : List Value} {M : qHp} : qEx 2 (13, [l0, l1], .int x :: .ref a :: st, M) = (hP M a 0 1 .int (.int x)).bind fun M => qEx 2 (16, [l0, l1], st, M) := kk_bind f_2_13 rfl (fun _ h => hP_up h)
theorem f_2_16 : qFetch 2 16 = some (.aload_n 0, 1) := qFetch_of (by decide +kernel)
theorem x_2_16 {l0 l1 : Option Value} {x : Nat} {st : List Value} {M : qHp} : qEx 2 (16, [some (.ref x), l1], st, M) = qEx 2 (17, [some (.ref x), l1], .ref x :: st, M) := kk_same f_2_16 (rfl)
theorem f_2_17 : qFetch 2 17 = some (.aload_n 1, 1) := qFetch_of (by decide +kernel)
theorem x_2_17 {l0 l1 : Option Value} {x : Nat} {st : List Value} {M : qHp} : qEx 2 (17, [l0, some (.ref x)], st, M) = qEx 2 (18, [l0, some (.ref x)], .ref x :: st, M) := kk_same f_2_17 (rfl)
theorem f_2_18 : qFetch 2 18 = some (.getfield 18, 3) := qFetch_of (by decide +kernel)
theorem x_2_18 {l0 l1 : Option Value} {a : Nat} {st : List Value} {M : qHp} : qEx 2 (18, [l0, l1], .ref a :: st, M) = (hG M a 0 2).bind fun v => qEx 2 (21, [l0, l1], v :: st, M) := kk_bind f_2_18 rfl (fun _ _ => ⟨Nat.le_refl _, Nat.le_refl _⟩)
theorem f_2_21 : qFetch 2 21 = some (.putfield 18, 3) := qFetch_of (by decide +kernel)
theorem x_2_21 {l0 l1 : Option Value} {x : Int32} {a : Nat} {st : List Value} {M : qHp} : qEx 2 (21, [l0, l1], .int x :: .ref a :: st, M) = (hP M a 0 2 .int (.int x)).bind fun M => qEx 2 (24, [l0, l1], st, M) := kk_bind f_2_21 rfl (fun _ h => hP_up h)
theorem f_2_24 : qFetch 2 24 = some (.aload_n 0, 1) := qFetch_of (by decide +kernel)
theorem x_2_24 {l0 l1 : Option Value} {x : Nat} {st : List Value} {M : qHp} : qEx 2 (24, [some (.ref x), l1], st, M) = qEx 2 (25, [some (.ref x), l1], .ref x :: st, M) := kk_same f_2_24 (rfl)
theorem f_2_25 : qFetch 2 25 = some (.aload_n 1, 1) := qFetch_of (by decide +kernel)
theorem x_2_25 {l0 l1 : Option Value} {x : Nat} {st : List Value} {M : qHp} : qEx 2 (25, [l0, some (.ref x)], st, M) = qEx 2 (26, [l0, some (.ref x)], .ref x :: st, M) := kk_same f_2_25 (rfl)
theorem f_2_26 : qFetch 2 26 = some (.getfield 21, 3) := qFetch_of (by decide +kernel)
theorem x_2_26 {l0 l1 : Option Value} {a : Nat} {st : List Value} {M : qHp} : qEx 2 (26, [l0, l1], .ref a :: st, M) = (hG M a 0 3).bind fun v => qEx 2 (29, [l0, l1], v :: st, M) := kk_bind f_2_26 rfl (fun _ _ => ⟨Nat.le_refl _, Nat.le_refl _⟩)
theorem f_2_29 : qFetch 2 29 = some (.putfield 21, 3) := qFetch_of (by decide +kernel)
theorem x_2_29 {l0 l1 : Option Value} {x : Int32} {a : Nat} {st : List Value} {M : qHp} : qEx 2 (29, [l0, l1], .int x :: .ref a :: st, M) = (hP M a 0 3 .int (.int x)).bind fun M => qEx 2 (32, [l0, l1], st, M) := kk_bind f_2_29 rfl (fun _ h => hP_up h)
theorem f_2_32 : qFetch 2 32 = some (.aload_n 0, 1) := qFetch_of (by decide +kernel)
theorem x_2_32 {l0 l1 : Option Value} {x : Nat} {st : List Value} {M : qHp} : qEx 2 (32, [some (.ref x), l1], st, M) = qEx 2 (33, [some (.ref x), l1], .ref x :: st, M) := kk_same f_2_32 (rfl)
theorem f_2_33 : qFetch 2 33 = some (.aload_n 1, 1) := qFetch_of (by decide +kernel)
theorem x_2_33 {l0 l1 : Option Value} {x : Nat} {st : List Value} {M : qHp} : qEx 2 (33, [l0, some (.ref x)], st, M) = qEx 2 (34, [l0, some (.ref x)], .ref x :: st, M) := kk_same f_2_33 (rfl)
theorem f_2_34 : qFetch 2 34 = some (.getfield 24, 3) := qFetch_of (by decide +kernel)
theorem x_2_34 {l0 l1 : Option Value} {a : Nat} {st : List Value} {M : qHp} : qEx 2 (34, [l0, l1], .ref a :: st, M) = (hG M a 0 4).bind fun v => qEx 2 (37, [l0, l1], v :: st, M) := kk_bind f_2_34 rfl (fun _ _ => ⟨Nat.le_refl _, Nat.le_refl _⟩)
theorem f_2_37 : qFetch 2 37 = some (.putfield 24, 3) := qFetch_of (by decide +kernel)
theorem x_2_37 {l0 l1 : Option Value} {x : Int32} {a : Nat} {st : List Value} {M : qHp} : qEx 2 (37, [l0, l1], .int x :: .ref a :: st, M) = (hP M a 0 4 .int (.int x)).bind fun M => qEx 2 (40, [l0, l1], st, M) := kk_bind f_2_37 rfl (fun _ h => hP_up h)
theorem f_2_40 : qFetch 2 40 = some (.aload_n 0, 1) := qFetch_of (by decide +kernel)
theorem x_2_40 {l0 l1 : Option Value} {x : Nat} {st : List Value} {M : qHp} : qEx 2 (40, [some (.ref x), l1], st, M) = qEx 2 (41, [some (.ref x), l1], .ref x :: st, M) := kk_same f_2_40 (rfl)
theorem f_2_41 : qFetch 2 41 = some (.aload_n 1, 1) := qFetch_of (by decide +kernel)
theorem x_2_41 {l0 l1 : Option Value} {x : Nat} {st : List Value} {M : qHp} : qEx 2 (41, [l0, some (.ref x)], st, M) = qEx 2 (42, [l0, some (.ref x)], .ref x :: st, M) := kk_same f_2_41 (rfl)
theorem f_2_42 : qFetch 2 42 = some (.getfield 27, 3) := qFetch_of (by decide +kernel)
theorem x_2_42 {l0 l1 : Option Value} {a : Nat} {st : List Value} {M : qHp} : qEx 2 (42, [l0, l1], .ref a :: st, M) = (hG M a 0 5).bind fun v => qEx 2 (45, [l0, l1], v :: st, M) := kk_bind f_2_42 rfl (fun _ _ => ⟨Nat.le_refl _, Nat.le_refl _⟩)
theorem f_2_45 : qFetch 2 45 = some (.putfield 27, 3) := qFetch_of (by decide +kernel)
theorem x_2_45 {l0 l1 : Option Value} {x : Int32} {a : Nat} {st : List Value} {M : qHp} : qEx 2 (45, [l0, l1], .int x :: .ref a :: st, M) = (hP M a 0 5 .int (.int x)).bind fun M => qEx 2 (48, [l0, l1], st, M) := kk_bind f_2_45 rfl (fun _ h => hP_up h)
theorem f_2_48 : qFetch 2 48 = some (.aload_n 0, 1) := qFetch_of (by decide +kernel)
theorem x_2_48 {l0 l1 : Option Value} {x : Nat} {st : List Value} {M : qHp} : qEx 2 (48, [some (.ref x), l1], st, M) = qEx 2 (49, [some (.ref x), l1], .ref x :: st, M) := kk_same f_2_48 (rfl)
theorem f_2_49 : qFetch 2 49 = some (.aload_n 1, 1) := qFetch_of (by decide +kernel)
theorem x_2_49 {l0 l1 : Option Value} {x : Nat} {st : List Value} {M : qHp} : qEx 2 (49, [l0, some (.ref x)], st, M) = qEx 2 (50, [l0, some (.ref x)], .ref x :: st, M) := kk_same f_2_49 (rfl)
theorem f_2_50 : qFetch 2 50 = some (.getfield 30, 3) := qFetch_of (by decide +kernel)
theorem x_2_50 {l0 l1 : Option Value} {a : Nat} {st : List Value} {M : qHp} : qEx 2 (50, [l0, l1], .ref a :: st, M) = (hG M a 0 6).bind fun v => qEx 2 (53, [l0, l1], v :: st, M) := kk_bind f_2_50 rfl (fun _ _ => ⟨Nat.le_refl _, Nat.le_refl _⟩)
theorem f_2_53 : qFetch 2 53 = some (.putfield 30, 3) := qFetch_of (by decide +kernel)
theorem x_2_53 {l0 l1 : Option Value} {x : Int32} {a : Nat} {st : List Value} {M : qHp} : qEx 2 (53, [l0, l1], .int x :: .ref a :: st, M) = (hP M a 0 6 .int (.int x)).bind fun M => qEx 2 (56, [l0, l1], st, M) := kk_bind f_2_53 rfl (fun _ h => hP_up h)
theorem f_2_56 : qFetch 2 56 = some (.aload_n 0, 1) := qFetch_of (by decide +kernel)
theorem x_2_56 {l0 l1 : Option Value} {x : Nat} {st : List Value} {M : qHp} : qEx 2 (56, [some (.ref x), l1], st, M) = qEx 2 (57, [some (.ref x), l1], .ref x :: st, M) := kk_same f_2_56 (rfl)
theorem f_2_57 : qFetch 2 57 = some (.aload_n 1, 1) := qFetch_of (by decide +kernel)
theorem x_2_57 {l0 l1 : Option Value} {x : Nat} {st : List Value} {M : qHp} : qEx 2 (57, [l0, some (.ref x)], st, M) = qEx 2 (58, [l0, some (.ref x)], .ref x :: st, M) := kk_same f_2_57 (rfl)
theorem f_2_58 : qFetch 2 58 = some (.getfield 33, 3) := qFetch_of (by decide +kernel)
theorem x_2_58 {l0 l1 : Option Value} {a : Nat} {st : List Value} {M : qHp} : qEx 2 (58, [l0, l1], .ref a :: st, M) = (hG M a 0 7).bind fun v => qEx 2 (61, [l0, l1], v :: st, M) := kk_bind f_2_58 rfl (fun _ _ => ⟨Nat.le_refl _, Nat.le_refl _⟩)
theorem f_2_61 : qFetch 2 61 = some (.putfield 33, 3) := qFetch_of (by decide +kernel)
theorem x_2_61 {l0 l1 : Option Value} {x : Int32} {a : Nat} {st : List Value} {M : qHp} : qEx 2 (61, [l0, l1], .int x :: .ref a :: st, M) = (hP M a 0 7 .int (.int x)).bind fun M => qEx 2 (64, [l0, l1], st, M) := kk_bind f_2_61 rfl (fun _ h => hP_up h)
theorem f_2_64 : qFetch 2 64 = some (.aload_n 0, 1) := qFetch_of (by decide +kernel)
theorem x_2_64 {l0 l1 : Option Value} {x : Nat} {st : List Value} {M : qHp} : qEx 2 (64, [some (.ref x), l1], st, M) = qEx 2 (65, [some (.ref x), l1], .ref x :: st, M) := kk_same f_2_64 (rfl)
theorem f_2_65 : qFetch 2 65 = some (.aload_n 1, 1) := qFetch_of (by decide +kernel)
theorem x_2_65 {l0 l1 : Option Value} {x : Nat} {st : List Value} {M : qHp} : qEx 2 (65, [l0, some (.ref x)], st, M) = qEx 2 (66, [l0, some (.ref x)], .ref x :: st, M) := kk_same f_2_65 (rfl)
theorem f_2_66 : qFetch 2 66 = some (.getfield 36, 3) := qFetch_of (by decide +kernel)
theorem x_2_66 {l0 l1 : Option Value} {a : Nat} {st : List Value} {M : qHp} : qEx 2 (66, [l0, l1], .ref a :: st, M) = (hG M a 0 8).bind fun v => qEx 2 (69, [l0, l1], v :: st, M) := kk_bind f_2_66 rfl (fun _ _ => ⟨Nat.le_refl _, Nat.le_refl _⟩)
theorem f_2_69 : qFetch 2 69 = some (.putfield 36, 3) := qFetch_of (by decide +kernel)
theorem x_2_69 {l0 l1 : Option Value} {x : Int32} {a : Nat} {st : List Value} {M : qHp} : qEx 2 (69, [l0, l1], .int x :: .ref a :: st, M) = (hP M a 0 8 .int (.int x)).bind fun M => qEx 2 (72, [l0, l1], st, M) := kk_bind f_2_69 rfl (fun _ h => hP_up h)
theorem f_2_72 : qFetch 2 72 = some (.aload_n 0, 1) := qFetch_of (by decide +kernel)
theorem x_2_72 {l0 l1 : Option Value} {x : Nat} {st : List Value} {M : qHp} : qEx 2 (72, [some (.ref x), l1], st, M) = qEx 2 (73, [some (.ref x), l1], .ref x :: st, M) := kk_same f_2_72 (rfl)
theorem f_2_73 : qFetch 2 73 = some (.aload_n 1, 1) := qFetch_of (by decide +kernel)
theorem x_2_73 {l0 l1 : Option Value} {x : Nat} {st : List Value} {M : qHp} : qEx 2 (73, [l0, some (.ref x)], st, M) = qEx 2 (74, [l0, some (.ref x)], .ref x :: st, M) := kk_same f_2_73 (rfl)
theorem f_2_74 : qFetch 2 74 = some (.getfield 39, 3) := qFetch_of (by decide +kernel)
theorem x_2_74 {l0 l1 : Option Value} {a : Nat} {st : List Value} {M : qHp} : qEx 2 (74, [l0, l1], .ref a :: st, M) = (hG M a 0 9).bind fun v => qEx 2 (77, [l0, l1], v :: st, M) := kk_bind f_2_74 rfl (fun _ _ => ⟨Nat.le_refl _, Nat.le_refl _⟩)
theorem f_2_77 : qFetch 2 77 = some (.putfield 39, 3) := qFetch_of (by decide +kernel)
theorem x_2_77 {l0 l1 : Option Value} {x : Int32} {a : Nat} {st : List Value} {M : qHp} : qEx 2 (77, [l0, l1], .int x :: .ref a :: st, M) = (hP M a 0 9 .int (.int x)).bind fun M => qEx 2 (80, [l0, l1], st, M) := kk_bind f_2_77 rfl (fun _ h => hP_up h)
theorem f_2_80 : qFetch 2 80 = some (.aload_n 0, 1) := qFetch_of (by decide +kernel)
theorem x_2_80 {l0 l1 : Option Value} {x : Nat} {st : List Value} {M : qHp} : qEx 2 (80, [some (.ref x), l1], st, M) = qEx 2 (81, [some (.ref x), l1], .ref x :: st, M) := kk_same f_2_80 (rfl)
theorem f_2_81 : qFetch 2 81 = some (.aload_n 1, 1) := qFetch_of (by decide +kernel)
theorem x_2_81 {l0 l1 : Option Value} {x : Nat} {st : List Value} {M : qHp} : qEx 2 (81, [l0, some (.ref x)], st, M) = qEx 2 (82, [l0, some (.ref x)], .ref x :: st, M) := kk_same f_2_81 (rfl)
theorem f_2_82 : qFetch 2 82 = some (.getfield 42, 3) := qFetch_of (by decide +kernel)
theorem x_2_82 {l0 l1 : Option Value} {a : Nat} {st : List Value} {M : qHp} : qEx 2 (82, [l0, l1], .ref a :: st, M) = (hG M a 0 10).bind fun v => qEx 2 (85, [l0, l1], v :: st, M) := kk_bind f_2_82 rfl (fun _ _ => ⟨Nat.le_refl _, Nat.le_refl _⟩)
theorem f_2_85 : qFetch 2 85 = some (.putfield 42, 3) := qFetch_of (by decide +kernel)
theorem x_2_85 {l0 l1 : Option Value} {x : Int32} {a : Nat} {st : List Value} {M : qHp} : qEx 2 (85, [l0, l1], .int x :: .ref a :: st, M) = (hP M a 0 10 .int (.int x)).bind fun M => qEx 2 (88, [l0, l1], st, M) := kk_bind f_2_85 rfl (fun _ h => hP_up h)
theorem f_2_88 : qFetch 2 88 = some (.return_, 1) := qFetch_of (by decide +kernel)
theorem x_2_88 {l0 l1 : Option Value} {M : qHp} : qEx 2 (88, [l0, l1], [], M) = some (none, M) := kk_ret f_2_88 rfl rfl
theorem f_3_0 : qFetch 3 0 = some (.iload_n 1, 1) := qFetch_of (by decide +kernel)
theorem x_3_0 {l0 l1 : Option Value} {x : Int32} {st : List Value} {M : qHp} : qEx 3 (0, [l0, some (.int x)], st, M) = qEx 3 (1, [l0, some (.int x)], .int x :: st, M) := kk_same f_3_0 (rfl)
theorem f_3_1 : qFetch 3 1 = some (.tableswitch 114 0 10 #[59, 64, 69, 74, 79, 84, 89, 94, 99, 104, 109], 59) := qFetch_of (by decide +kernel)
theorem x_3_1 {l0 l1 : Option Value} {x : Int32} {st : List Value} {M : qHp} : qEx 3 (1, [l0, l1], .int x :: st, M) = if x = 0 then qEx 3 (60, [l0, l1], st, M) else if x = 1 then qEx 3 (65, [l0, l1], st, M) else if x = 2 then qEx 3 (70, [l0, l1], st, M) else if x = 3 then qEx 3 (75, [l0, l1], st, M) else if x = 4 then qEx 3 (80, [l0, l1], st, M) else if x = 5 then qEx 3 (85, [l0, l1], st, M) else if x = 6 then qEx 3 (90, [l0, l1], st, M) else if x = 7 then qEx 3 (95, [l0, l1], st, M) else if x = 8 then qEx 3 (100, [l0, l1], st, M) else if x = 9 then qEx 3 (105, [l0, l1], st, M) else if x = 10 then qEx 3 (110, [l0, l1], st, M) else qEx 3 (115, [l0, l1], st, M) := by
  by_cases h0 : x = 0
  · rw [if_pos h0]; subst h0; exact kk_same f_3_1 rfl
  rw [if_neg h0]
  by_cases h1 : x = 1
  · rw [if_pos h1]; subst h1; exact kk_same f_3_1 rfl
  rw [if_neg h1]
  by_cases h2 : x = 2
  · rw [if_pos h2]; subst h2; exact kk_same f_3_1 rfl
  rw [if_neg h2]
  by_cases h3 : x = 3
  · rw [if_pos h3]; subst h3; exact kk_same f_3_1 rfl
  rw [if_neg h3]
  by_cases h4 : x = 4
  · rw [if_pos h4]; subst h4; exact kk_same f_3_1 rfl
  rw [if_neg h4]
  by_cases h5 : x = 5
  · rw [if_pos h5]; subst h5; exact kk_same f_3_1 rfl
  rw [if_neg h5]
  by_cases h6 : x = 6
  · rw [if_pos h6]; subst h6; exact kk_same f_3_1 rfl
  rw [if_neg h6]
  by_cases h7 : x = 7
  · rw [if_pos h7]; subst h7; exact kk_same f_3_1 rfl
  rw [if_neg h7]
  by_cases h8 : x = 8
  · rw [if_pos h8]; subst h8; exact kk_same f_3_1 rfl
  rw [if_neg h8]
  by_cases h9 : x = 9
  · rw [if_pos h9]; subst h9; exact kk_same f_3_1 rfl
  rw [if_neg h9]
  by_cases h10 : x = 10
  · rw [if_pos h10]; subst h10; exact kk_same f_3_1 rfl
  rw [if_neg h10]
  have g0 := lv_neT h0 (show (0 : Int32).toInt = 0 by decide)
  have g1 := lv_neT h1 (show (1 : Int32).toInt = 1 by decide)
  have g2 := lv_neT h2 (show (2 : Int32).toInt = 2 by decide)
  have g3 := lv_neT h3 (show (3 : Int32).toInt = 3 by decide)
  have g4 := lv_neT h4 (show (4 : Int32).toInt = 4 by decide)
  have g5 := lv_neT h5 (show (5 : Int32).toInt = 5 by decide)
  have g6 := lv_neT h6 (show (6 : Int32).toInt = 6 by decide)
  have g7 := lv_neT h7 (show (7 : Int32).toInt = 7 by decide)
  have g8 := lv_neT h8 (show (8 : Int32).toInt = 8 by decide)
  have g9 := lv_neT h9 (show (9 : Int32).toInt = 9 by decide)
  have g10 := lv_neT h10 (show (10 : Int32).toInt = 10 by decide)
  refine kk_same f_3_1 ?_
  show (if x.toInt < 0 ∨ 10 < x.toInt then jp 1 (114) [l0, l1] st M else _) = _
  rw [if_pos (by omega)]; rfl
theorem f_3_60 : qFetch 3 60 = some (.aload_n 0, 1) := qFetch_of (by decide +kernel)
theorem x_3_60 {l0 l1 : Option Value} {x : Nat} {st : List Value} {M : qHp} : qEx 3 (60, [some (.ref x), l1], st, M) = qEx 3 (61, [some (.ref x), l1], .ref x :: st, M) := kk_same f_3_60 (rfl)
theorem f_3_61 : qFetch 3 61 = some (.getfield 9, 3) := qFetch_of (by decide +kernel)
theorem x_3_61 {l0 l1 : Option Value} {a : Nat} {st : List Value} {M : qHp} : qEx 3 (61, [l0, l1], .ref a :: st, M) = (hG M a 0 0).bind fun v => qEx 3 (64, [l0, l1], v :: st, M) := kk_bind f_3_61 rfl (fun _ _ => ⟨Nat.le_refl _, Nat.le_refl _⟩)
theorem f_3_64 : qFetch 3 64 = some (.ireturn, 1) := qFetch_of (by decide +kernel)
theorem x_3_64 {l0 l1 : Option Value} {v : Int32} {M : qHp} : qEx 3 (64, [l0, l1], [.int v], M) = some (some (.int v), M) := kk_ret f_3_64 rfl rfl
theorem f_3_65 : qFetch 3 65 = some (.aload_n 0, 1) := qFetch_of (by decide +kernel)
theorem x_3_65 {l0 l1 : Option Value} {x : Nat} {st : List Value} {M : qHp} : qEx 3 (65, [some (.ref x), l1], st, M) = qEx 3 (66, [some (.ref x), l1], .ref x :: st, M) := kk_same f_3_65 (rfl)
theorem f_3_66 : qFetch 3 66 = some (.getfield 15, 3) := qFetch_of (by decide +kernel)
theorem x_3_66 {l0 l1 : Option Value} {a : Nat} {st : List Value} {M : qHp} : qEx 3 (66, [l0, l1], .ref a :: st, M) = (hG M a 0 1).bind fun v => qEx 3 (69, [l0, l1], v :: st, M) := kk_bind f_3_66 rfl (fun _ _ => ⟨Nat.le_refl _, Nat.le_refl _⟩)
theorem f_3_69 : qFetch 3 69 = some (.ireturn, 1) := qFetch_of (by decide +kernel)
theorem x_3_69 {l0 l1 : Option Value} {v : Int32} {M : qHp} : qEx 3 (69, [l0, l1], [.int v], M) = some (some (.int v), M) := kk_ret f_3_69 rfl rfl
theorem f_3_70 : qFetch 3 70 = some (.aload_n 0, 1) := qFetch_of (by decide +kernel)
theorem x_3_70 {l0 l1 : Option Value} {x : Nat} {st : List Value} {M : qHp} : qEx 3 (70, [some (.ref x), l1], st, M) = qEx 3 (71, [some (.ref x), l1], .ref x :: st, M) := kk_same f_3_70 (rfl)
theorem f_3_71 : qFetch 3 71 = some (.getfield 18, 3) := qFetch_of (by decide +kernel)
theorem x_3_71 {l0 l1 : Option Value} {a : Nat} {st : List Value} {M : qHp} : qEx 3 (71, [l0, l1], .ref a :: st, M) = (hG M a 0 2).bind fun v => qEx 3 (74, [l0, l1], v :: st, M) := kk_bind f_3_71 rfl (fun _ _ => ⟨Nat.le_refl _, Nat.le_refl _⟩)
theorem f_3_74 : qFetch 3 74 = some (.ireturn, 1) := qFetch_of (by decide +kernel)
theorem x_3_74 {l0 l1 : Option Value} {v : Int32} {M : qHp} : qEx 3 (74, [l0, l1], [.int v], M) = some (some (.int v), M) := kk_ret f_3_74 rfl rfl
theorem f_3_75 : qFetch 3 75 = some (.aload_n 0, 1) := qFetch_of (by decide +kernel)
theorem x_3_75 {l0 l1 : Option Value} {x : Nat} {st : List Value} {M : qHp} : qEx 3 (75, [some (.ref x), l1], st, M) = qEx 3 (76, [some (.ref x), l1], .ref x :: st, M) := kk_same f_3_75 (rfl)
theorem f_3_76 : qFetch 3 76 = some (.getfield 21, 3) := qFetch_of (by decide +kernel)
theorem x_3_76 {l0 l1 : Option Value} {a : Nat} {st : List Value} {M : qHp} : qEx 3 (76, [l0, l1], .ref a :: st, M) = (hG M a 0 3).bind fun v => qEx 3 (79, [l0, l1], v :: st, M) := kk_bind f_3_76 rfl (fun _ _ => ⟨Nat.le_refl _, Nat.le_refl _⟩)
theorem f_3_79 : qFetch 3 79 = some (.ireturn, 1) := qFetch_of (by decide +kernel)
theorem x_3_79 {l0 l1 : Option Value} {v : Int32} {M : qHp} : qEx 3 (79, [l0, l1], [.int v], M) = some (some (.int v), M) := kk_ret f_3_79 rfl rfl
theorem f_3_80 : qFetch 3 80 = some (.aload_n 0, 1) := qFetch_of (by decide +kernel)
theorem x_3_80 {l0 l1 : Option Value} {x : Nat} {st : List Value} {M : qHp} : qEx 3 (80, [some (.ref x), l1], st, M) = qEx 3 (81, [some (.ref x), l1], .ref x :: st, M) := kk_same f_3_80 (rfl)
theorem f_3_81 : qFetch 3 81 = some (.getfield 24, 3) := qFetch_of (by decide +kernel)
theorem x_3_81 {l0 l1 : Option Value} {a : Nat} {st : List Value} {M : qHp} : qEx 3 (81, [l0, l1], .ref a :: st, M) = (hG M a 0 4).bind fun v => qEx 3 (84, [l0, l1], v :: st, M) := kk_bind f_3_81 rfl (fun _ _ => ⟨Nat.le_refl _, Nat.le_refl _⟩)
theorem f_3_84 : qFetch 3 84 = some (.ireturn, 1) := qFetch_of (by decide +kernel)
theorem x_3_84 {l0 l1 : Option Value} {v : Int32} {M : qHp} : qEx 3 (84, [l0, l1], [.int v], M) = some (some (.int v), M) := kk_ret f_3_84 rfl rfl
theorem f_3_85 : qFetch 3 85 = some (.aload_n 0, 1) := qFetch_of (by decide +kernel)
theorem x_3_85 {l0 l1 : Option Value} {x : Nat} {st : List Value} {M : qHp} : qEx 3 (85, [some (.ref x), l1], st, M) = qEx 3 (86, [some (.ref x), l1], .ref x :: st, M) := kk_same f_3_85 (rfl)
theorem f_3_86 : qFetch 3 86 = some (.getfield 27, 3) := qFetch_of (by decide +kernel)
theorem x_3_86 {l0 l1 : Option Value} {a : Nat} {st : List Value} {M : qHp} : qEx 3 (86, [l0, l1], .ref a :: st, M) = (hG M a 0 5).bind fun v => qEx 3 (89, [l0, l1], v :: st, M) := kk_bind f_3_86 rfl (fun _ _ => ⟨Nat.le_refl _, Nat.le_refl _⟩)
theorem f_3_89 : qFetch 3 89 = some (.ireturn, 1) := qFetch_of (by decide +kernel)
theorem x_3_89 {l0 l1 : Option Value} {v : Int32} {M : qHp} : qEx 3 (89, [l0, l1], [.int v], M) = some (some (.int v), M) := kk_ret f_3_89 rfl rfl
theorem f_3_90 : qFetch 3 90 = some (.aload_n 0, 1) := qFetch_of (by decide +kernel)
theorem x_3_90 {l0 l1 : Option Value} {x : Nat} {st : List Value} {M : qHp} : qEx 3 (90, [some (.ref x), l1], st, M) = qEx 3 (91, [some (.ref x), l1], .ref x :: st, M) := kk_same f_3_90 (rfl)
theorem f_3_91 : qFetch 3 91 = some (.getfield 30, 3) := qFetch_of (by decide +kernel)
theorem x_3_91 {l0 l1 : Option Value} {a : Nat} {st : List Value} {M : qHp} : qEx 3 (91, [l0, l1], .ref a :: st, M) = (hG M a 0 6).bind fun v => qEx 3 (94, [l0, l1], v :: st, M) := kk_bind f_3_91 rfl (fun _ _ => ⟨Nat.le_refl _, Nat.le_refl _⟩)
theorem f_3_94 : qFetch 3 94 = some (.ireturn, 1) := qFetch_of (by decide +kernel)
theorem x_3_94 {l0 l1 : Option Value} {v : Int32} {M : qHp} : qEx 3 (94, [l0, l1], [.int v], M) = some (some (.int v), M) := kk_ret f_3_94 rfl rfl
theorem f_3_95 : qFetch 3 95 = some (.aload_n 0, 1) := qFetch_of (by decide +kernel)
theorem x_3_95 {l0 l1 : Option Value} {x : Nat} {st : List Value} {M : qHp} : qEx 3 (95, [some (.ref x), l1], st, M) = qEx 3 (96, [some (.ref x), l1], .ref x :: st, M) := kk_same f_3_95 (rfl)
theorem f_3_96 : qFetch 3 96 = some (.getfield 33, 3) := qFetch_of (by decide +kernel)
theorem x_3_96 {l0 l1 : Option Value} {a : Nat} {st : List Value} {M : qHp} : qEx 3 (96, [l0, l1], .ref a :: st, M) = (hG M a 0 7).bind fun v => qEx 3 (99, [l0, l1], v :: st, M) := kk_bind f_3_96 rfl (fun _ _ => ⟨Nat.le_refl _, Nat.le_refl _⟩)
theorem f_3_99 : qFetch 3 99 = some (.ireturn, 1) := qFetch_of (by decide +kernel)
theorem x_3_99 {l0 l1 : Option Value} {v : Int32} {M : qHp} : qEx 3 (99, [l0, l1], [.int v], M) = some (some (.int v), M) := kk_ret f_3_99 rfl rfl
theorem f_3_100 : qFetch 3 100 = some (.aload_n 0, 1) := qFetch_of (by decide +kernel)
theorem x_3_100 {l0 l1 : Option Value} {x : Nat} {st : List Value} {M : qHp} : qEx 3 (100, [some (.ref x), l1], st, M) = qEx 3 (101, [some (.ref x), l1], .ref x :: st, M) := kk_same f_3_100 (rfl)
theorem f_3_101 : qFetch 3 101 = some (.getfield 36, 3) := qFetch_of (by decide +kernel)
theorem x_3_101 {l0 l1 : Option Value} {a : Nat} {st : List Value} {M : qHp} : qEx 3 (101, [l0, l1], .ref a :: st, M) = (hG M a 0 8).bind fun v => qEx 3 (104, [l0, l1], v :: st, M) := kk_bind f_3_101 rfl (fun _ _ => ⟨Nat.le_refl _, Nat.le_refl _⟩)
theorem f_3_104 : qFetch 3 104 = some (.ireturn, 1) := qFetch_of (by decide +kernel)
theorem x_3_104 {l0 l1 : Option Value} {v : Int32} {M : qHp} : qEx 3 (104, [l0, l1], [.int v], M) = some (some (.int v), M) := kk_ret f_3_104 rfl rfl
theorem f_3_105 : qFetch 3 105 = some (.aload_n 0, 1) := qFetch_of (by decide +kernel)
theorem x_3_105 {l0 l1 : Option Value} {x : Nat} {st : List Value} {M : qHp} : qEx 3 (105, [some (.ref x), l1], st, M) = qEx 3 (106, [some (.ref x), l1], .ref x :: st, M) := kk_same f_3_105 (rfl)
theorem f_3_106 : qFetch 3 106 = some (.getfield 39, 3) := qFetch_of (by decide +kernel)
theorem x_3_106 {l0 l1 : Option Value} {a : Nat} {st : List Value} {M : qHp} : qEx 3 (106, [l0, l1], .ref a :: st, M) = (hG M a 0 9).bind fun v => qEx 3 (109, [l0, l1], v :: st, M) := kk_bind f_3_106 rfl (fun _ _ => ⟨Nat.le_refl _, Nat.le_refl _⟩)
theorem f_3_109 : qFetch 3 109 = some (.ireturn, 1) := qFetch_of (by decide +kernel)
theorem x_3_109 {l0 l1 : Option Value} {v : Int32} {M : qHp} : qEx 3 (109, [l0, l1], [.int v], M) = some (some (.int v), M) := kk_ret f_3_109 rfl rfl
theorem f_3_110 : qFetch 3 110 = some (.aload_n 0, 1) := qFetch_of (by decide +kernel)
theorem x_3_110 {l0 l1 : Option Value} {x : Nat} {st : List Value} {M : qHp} : qEx 3 (110, [some (.ref x), l1], st, M) = qEx 3 (111, [some (.ref x), l1], .ref x :: st, M) := kk_same f_3_110 (rfl)
theorem f_3_111 : qFetch 3 111 = some (.getfield 42, 3) := qFetch_of (by decide +kernel)
theorem x_3_111 {l0 l1 : Option Value} {a : Nat} {st : List Value} {M : qHp} : qEx 3 (111, [l0, l1], .ref a :: st, M) = (hG M a 0 10).bind fun v => qEx 3 (114, [l0, l1], v :: st, M) := kk_bind f_3_111 rfl (fun _ _ => ⟨Nat.le_refl _, Nat.le_refl _⟩)
theorem f_3_114 : qFetch 3 114 = some (.ireturn, 1) := qFetch_of (by decide +kernel)
theorem x_3_114 {l0 l1 : Option Value} {v : Int32} {M : qHp} : qEx 3 (114, [l0, l1], [.int v], M) = some (some (.int v), M) := kk_ret f_3_114 rfl rfl
theorem f_3_115 : qFetch 3 115 = some (.bipush (-2), 2) := qFetch_of (by decide +kernel)
theorem x_3_115 {l0 l1 : Option Value} {st : List Value} {M : qHp} : qEx 3 (115, [l0, l1], st, M) = qEx 3 (117, [l0, l1], .int (-2) :: st, M) := kk_same f_3_115 (rfl)
theorem f_3_117 : qFetch 3 117 = some (.ireturn, 1) := qFetch_of (by decide +kernel)
theorem x_3_117 {l0 l1 : Option Value} {v : Int32} {M : qHp} : qEx 3 (117, [l0, l1], [.int v], M) = some (some (.int v), M) := kk_ret f_3_117 rfl rfl
theorem f_4_0 : qFetch 4 0 = some (.aload_n 0, 1) := qFetch_of (by decide +kernel)
theorem x_4_0 {l0 : Option Value} {x : Nat} {st : List Value} {M : qHp} : qEx 4 (0, [some (.ref x)], st, M) = qEx 4 (1, [some (.ref x)], .ref x :: st, M) := kk_same f_4_0 (rfl)
theorem f_4_1 : qFetch 4 1 = some (.getfield 24, 3) := qFetch_of (by decide +kernel)
theorem x_4_1 {l0 : Option Value} {a : Nat} {st : List Value} {M : qHp} : qEx 4 (1, [l0], .ref a :: st, M) = (hG M a 0 4).bind fun v => qEx 4 (4, [l0], v :: st, M) := kk_bind f_4_1 rfl (fun _ _ => ⟨Nat.le_refl _, Nat.le_refl _⟩)
theorem f_4_4 : qFetch 4 4 = some (.ifCond .ne 14, 3) := qFetch_of (by decide +kernel)
theorem x_4_4 {l0 : Option Value} {x : Int32} {st : List Value} {M : qHp} : qEx 4 (4, [l0], .int x :: st, M) = if x = 0 then qEx 4 (7, [l0], st, M) else qEx 4 (18, [l0], st, M) := kk_if f_4_4 rfl rfl rfl
theorem f_4_7 : qFetch 4 7 = some (.aload_n 0, 1) := qFetch_of (by decide +kernel)
theorem x_4_7 {l0 : Option Value} {x : Nat} {st : List Value} {M : qHp} : qEx 4 (7, [some (.ref x)], st, M) = qEx 4 (8, [some (.ref x)], .ref x :: st, M) := kk_same f_4_7 (rfl)
theorem f_4_8 : qFetch 4 8 = some (.getfield 27, 3) := qFetch_of (by decide +kernel)
theorem x_4_8 {l0 : Option Value} {a : Nat} {st : List Value} {M : qHp} : qEx 4 (8, [l0], .ref a :: st, M) = (hG M a 0 5).bind fun v => qEx 4 (11, [l0], v :: st, M) := kk_bind f_4_8 rfl (fun _ _ => ⟨Nat.le_refl _, Nat.le_refl _⟩)
theorem f_4_11 : qFetch 4 11 = some (.ifCond .ne 7, 3) := qFetch_of (by decide +kernel)
theorem x_4_11 {l0 : Option Value} {x : Int32} {st : List Value} {M : qHp} : qEx 4 (11, [l0], .int x :: st, M) = if x = 0 then qEx 4 (14, [l0], st, M) else qEx 4 (18, [l0], st, M) := kk_if f_4_11 rfl rfl rfl
theorem f_4_14 : qFetch 4 14 = some (.iconst 1, 1) := qFetch_of (by decide +kernel)
theorem x_4_14 {l0 : Option Value} {st : List Value} {M : qHp} : qEx 4 (14, [l0], st, M) = qEx 4 (15, [l0], .int 1 :: st, M) := kk_same f_4_14 (rfl)
theorem f_4_15 : qFetch 4 15 = some (.goto 4, 3) := qFetch_of (by decide +kernel)
theorem x_4_15 {l0 : Option Value} {st : List Value} {M : qHp} : qEx 4 (15, [l0], st, M) = qEx 4 (19, [l0], st, M) := kk_same f_4_15 (rfl)
theorem f_4_18 : qFetch 4 18 = some (.iconst 0, 1) := qFetch_of (by decide +kernel)
theorem x_4_18 {l0 : Option Value} {st : List Value} {M : qHp} : qEx 4 (18, [l0], st, M) = qEx 4 (19, [l0], .int 0 :: st, M) := kk_same f_4_18 (rfl)
theorem f_4_19 : qFetch 4 19 = some (.ireturn, 1) := qFetch_of (by decide +kernel)
theorem x_4_19 {l0 : Option Value} {v : Int32} {M : qHp} (hc : v = 0 ∨ v = 1) : qEx 4 (19, [l0], [.int v], M) = some (some (.int v), M) := kk_retC (c := decide (v = 0 ∨ v = 1) = true) f_4_19 rfl rfl (decide_eq_true hc)
theorem f_5_0 : qFetch 5 0 = some (.aload_n 0, 1) := qFetch_of (by decide +kernel)
theorem x_5_0 {l0 l1 : Option Value} {x : Nat} {st : List Value} {M : qHp} : qEx 5 (0, [some (.ref x), l1], st, M) = qEx 5 (1, [some (.ref x), l1], .ref x :: st, M) := kk_same f_5_0 (rfl)
theorem f_5_1 : qFetch 5 1 = some (.getfield 39, 3) := qFetch_of (by decide +kernel)
theorem x_5_1 {l0 l1 : Option Value} {a : Nat} {st : List Value} {M : qHp} : qEx 5 (1, [l0, l1], .ref a :: st, M) = (hG M a 0 9).bind fun v => qEx 5 (4, [l0, l1], v :: st, M) := kk_bind f_5_1 rfl (fun _ _ => ⟨Nat.le_refl _, Nat.le_refl _⟩)
theorem f_5_4 : qFetch 5 4 = some (.ifCond .ne 8, 3) := qFetch_of (by decide +kernel)
theorem x_5_4 {l0 l1 : Option Value} {x : Int32} {st : List Value} {M : qHp} : qEx 5 (4, [l0, l1], .int x :: st, M) = if x = 0 then qEx 5 (7, [l0, l1], st, M) else qEx 5 (12, [l0, l1], st, M) := kk_if f_5_4 rfl rfl rfl
theorem f_5_7 : qFetch 5 7 = some (.aload_n 0, 1) := qFetch_of (by decide +kernel)
theorem x_5_7 {l0 l1 : Option Value} {x : Nat} {st : List Value} {M : qHp} : qEx 5 (7, [some (.ref x), l1], st, M) = qEx 5 (8, [some (.ref x), l1], .ref x :: st, M) := kk_same f_5_7 (rfl)
theorem f_5_8 : qFetch 5 8 = some (.iload_n 1, 1) := qFetch_of (by decide +kernel)
theorem x_5_8 {l0 l1 : Option Value} {x : Int32} {st : List Value} {M : qHp} : qEx 5 (8, [l0, some (.int x)], st, M) = qEx 5 (9, [l0, some (.int x)], .int x :: st, M) := kk_same f_5_8 (rfl)
theorem f_5_9 : qFetch 5 9 = some (.putfield 39, 3) := qFetch_of (by decide +kernel)
theorem x_5_9 {l0 l1 : Option Value} {x : Int32} {a : Nat} {st : List Value} {M : qHp} : qEx 5 (9, [l0, l1], .int x :: .ref a :: st, M) = (hP M a 0 9 .int (.int x)).bind fun M => qEx 5 (12, [l0, l1], st, M) := kk_bind f_5_9 rfl (fun _ h => hP_up h)
theorem f_5_12 : qFetch 5 12 = some (.return_, 1) := qFetch_of (by decide +kernel)
theorem x_5_12 {l0 l1 : Option Value} {M : qHp} : qEx 5 (12, [l0, l1], [], M) = some (none, M) := kk_ret f_5_12 rfl rfl
theorem f_6_0 : qFetch 6 0 = some (.aload_n 0, 1) := qFetch_of (by decide +kernel)
theorem x_6_0 {l0 l1 : Option Value} {x : Nat} {st : List Value} {M : qHp} : qEx 6 (0, [some (.ref x), l1], st, M) = qEx 6 (1, [some (.ref x), l1], .ref x :: st, M) := kk_same f_6_0 (rfl)
theorem f_6_1 : qFetch 6 1 = some (.getfield 21, 3) := qFetch_of (by decide +kernel)
theorem x_6_1 {l0 l1 : Option Value} {a : Nat} {st : List Value} {M : qHp} : qEx 6 (1, [l0, l1], .ref a :: st, M) = (hG M a 0 3).bind fun v => qEx 6 (4, [l0, l1], v :: st, M) := kk_bind f_6_1 rfl (fun _ _ => ⟨Nat.le_refl _, Nat.le_refl _⟩)
theorem f_6_4 : qFetch 6 4 = some (.iload_n 1, 1) := qFetch_of (by decide +kernel)
theorem x_6_4 {l0 l1 : Option Value} {x : Int32} {st : List Value} {M : qHp} : qEx 6 (4, [l0, some (.int x)], st, M) = qEx 6 (5, [l0, some (.int x)], .int x :: st, M) := kk_same f_6_4 (rfl)
theorem f_6_5 : qFetch 6 5 = some (.if_icmp .le 11, 3) := qFetch_of (by decide +kernel)
theorem x_6_5 {l0 l1 : Option Value} {x y : Int32} {st : List Value} {M : qHp} : qEx 6 (5, [l0, l1], .int y :: .int x :: st, M) = if x ≤ y then qEx 6 (16, [l0, l1], st, M) else qEx 6 (8, [l0, l1], st, M) := kk_if f_6_5 rfl rfl rfl
theorem f_6_8 : qFetch 6 8 = some (.aload_n 0, 1) := qFetch_of (by decide +kernel)
theorem x_6_8 {l0 l1 : Option Value} {x : Nat} {st : List Value} {M : qHp} : qEx 6 (8, [some (.ref x), l1], st, M) = qEx 6 (9, [some (.ref x), l1], .ref x :: st, M) := kk_same f_6_8 (rfl)
theorem f_6_9 : qFetch 6 9 = some (.aload_n 0, 1) := qFetch_of (by decide +kernel)
theorem x_6_9 {l0 l1 : Option Value} {x : Nat} {st : List Value} {M : qHp} : qEx 6 (9, [some (.ref x), l1], st, M) = qEx 6 (10, [some (.ref x), l1], .ref x :: st, M) := kk_same f_6_9 (rfl)
theorem f_6_10 : qFetch 6 10 = some (.getfield 15, 3) := qFetch_of (by decide +kernel)
theorem x_6_10 {l0 l1 : Option Value} {a : Nat} {st : List Value} {M : qHp} : qEx 6 (10, [l0, l1], .ref a :: st, M) = (hG M a 0 1).bind fun v => qEx 6 (13, [l0, l1], v :: st, M) := kk_bind f_6_10 rfl (fun _ _ => ⟨Nat.le_refl _, Nat.le_refl _⟩)
theorem f_6_13 : qFetch 6 13 = some (.putfield 36, 3) := qFetch_of (by decide +kernel)
theorem x_6_13 {l0 l1 : Option Value} {x : Int32} {a : Nat} {st : List Value} {M : qHp} : qEx 6 (13, [l0, l1], .int x :: .ref a :: st, M) = (hP M a 0 8 .int (.int x)).bind fun M => qEx 6 (16, [l0, l1], st, M) := kk_bind f_6_13 rfl (fun _ h => hP_up h)
theorem f_6_16 : qFetch 6 16 = some (.aload_n 0, 1) := qFetch_of (by decide +kernel)
theorem x_6_16 {l0 l1 : Option Value} {x : Nat} {st : List Value} {M : qHp} : qEx 6 (16, [some (.ref x), l1], st, M) = qEx 6 (17, [some (.ref x), l1], .ref x :: st, M) := kk_same f_6_16 (rfl)
theorem f_6_17 : qFetch 6 17 = some (.getfield 21, 3) := qFetch_of (by decide +kernel)
theorem x_6_17 {l0 l1 : Option Value} {a : Nat} {st : List Value} {M : qHp} : qEx 6 (17, [l0, l1], .ref a :: st, M) = (hG M a 0 3).bind fun v => qEx 6 (20, [l0, l1], v :: st, M) := kk_bind f_6_17 rfl (fun _ _ => ⟨Nat.le_refl _, Nat.le_refl _⟩)
theorem f_6_20 : qFetch 6 20 = some (.iload_n 1, 1) := qFetch_of (by decide +kernel)
theorem x_6_20 {l0 l1 : Option Value} {x : Int32} {st : List Value} {M : qHp} : qEx 6 (20, [l0, some (.int x)], st, M) = qEx 6 (21, [l0, some (.int x)], .int x :: st, M) := kk_same f_6_20 (rfl)
theorem f_6_21 : qFetch 6 21 = some (.if_icmp .lt 8, 3) := qFetch_of (by decide +kernel)
theorem x_6_21 {l0 l1 : Option Value} {x y : Int32} {st : List Value} {M : qHp} : qEx 6 (21, [l0, l1], .int y :: .int x :: st, M) = if x < y then qEx 6 (29, [l0, l1], st, M) else qEx 6 (24, [l0, l1], st, M) := kk_if f_6_21 rfl rfl rfl
theorem f_6_24 : qFetch 6 24 = some (.aload_n 0, 1) := qFetch_of (by decide +kernel)
theorem x_6_24 {l0 l1 : Option Value} {x : Nat} {st : List Value} {M : qHp} : qEx 6 (24, [some (.ref x), l1], st, M) = qEx 6 (25, [some (.ref x), l1], .ref x :: st, M) := kk_same f_6_24 (rfl)
theorem f_6_25 : qFetch 6 25 = some (.iconst 4, 1) := qFetch_of (by decide +kernel)
theorem x_6_25 {l0 l1 : Option Value} {st : List Value} {M : qHp} : qEx 6 (25, [l0, l1], st, M) = qEx 6 (26, [l0, l1], .int 4 :: st, M) := kk_same f_6_25 (rfl)
theorem f_6_26 : qFetch 6 26 = some (.invokevirtual 45, 3) := qFetch_of (by decide +kernel)
theorem x_6_26 {l0 l1 : Option Value} {a0 : Int32} {o : Nat} {M : qHp} : qEx 6 (26, [l0, l1], [.int a0, .ref o], M) = if hT M o 0 = true then (qRun 5 [.ref o, .int a0] M).bind fun q => qEx 6 (29, [l0, l1], q.1.toList ++ [], q.2) else none := kk_callV f_6_26 rfl rfl (by decide)
theorem f_6_29 : qFetch 6 29 = some (.return_, 1) := qFetch_of (by decide +kernel)
theorem x_6_29 {l0 l1 : Option Value} {M : qHp} : qEx 6 (29, [l0, l1], [], M) = some (none, M) := kk_ret f_6_29 rfl rfl
theorem f_7_0 : qFetch 7 0 = some (.aload_n 0, 1) := qFetch_of (by decide +kernel)
theorem x_7_0 {l0 : Option Value} {x : Nat} {st : List Value} {M : qHp} : qEx 7 (0, [some (.ref x)], st, M) = qEx 7 (1, [some (.ref x)], .ref x :: st, M) := kk_same f_7_0 (rfl)
theorem f_7_1 : qFetch 7 1 = some (.dup, 1) := qFetch_of (by decide +kernel)
theorem x_7_1 {l0 : Option Value} {x : Nat} {st : List Value} {M : qHp} : qEx 7 (1, [l0], .ref x :: st, M) = qEx 7 (2, [l0], .ref x :: .ref x :: st, M) := kk_same f_7_1 (rfl)
theorem f_7_2 : qFetch 7 2 = some (.getfield 33, 3) := qFetch_of (by decide +kernel)
theorem x_7_2 {l0 : Option Value} {a : Nat} {st : List Value} {M : qHp} : qEx 7 (2, [l0], .ref a :: st, M) = (hG M a 0 7).bind fun v => qEx 7 (5, [l0], v :: st, M) := kk_bind f_7_2 rfl (fun _ _ => ⟨Nat.le_refl _, Nat.le_refl _⟩)
theorem f_7_5 : qFetch 7 5 = some (.aload_n 0, 1) := qFetch_of (by decide +kernel)
theorem x_7_5 {l0 : Option Value} {x : Nat} {st : List Value} {M : qHp} : qEx 7 (5, [some (.ref x)], st, M) = qEx 7 (6, [some (.ref x)], .ref x :: st, M) := kk_same f_7_5 (rfl)
theorem f_7_6 : qFetch 7 6 = some (.getfield 30, 3) := qFetch_of (by decide +kernel)
theorem x_7_6 {l0 : Option Value} {a : Nat} {st : List Value} {M : qHp} : qEx 7 (6, [l0], .ref a :: st, M) = (hG M a 0 6).bind fun v => qEx 7 (9, [l0], v :: st, M) := kk_bind f_7_6 rfl (fun _ _ => ⟨Nat.le_refl _, Nat.le_refl _⟩)
theorem f_7_9 : qFetch 7 9 = some (.iadd, 1) := qFetch_of (by decide +kernel)
theorem x_7_9 {l0 : Option Value} {x y : Int32} {st : List Value} {M : qHp} : qEx 7 (9, [l0], .int y :: .int x :: st, M) = qEx 7 (10, [l0], .int (x + y) :: st, M) := kk_same f_7_9 (rfl)
theorem f_7_10 : qFetch 7 10 = some (.putfield 33, 3) := qFetch_of (by decide +kernel)
theorem x_7_10 {l0 : Option Value} {x : Int32} {a : Nat} {st : List Value} {M : qHp} : qEx 7 (10, [l0], .int x :: .ref a :: st, M) = (hP M a 0 7 .int (.int x)).bind fun M => qEx 7 (13, [l0], st, M) := kk_bind f_7_10 rfl (fun _ h => hP_up h)
theorem f_7_13 : qFetch 7 13 = some (.aload_n 0, 1) := qFetch_of (by decide +kernel)
theorem x_7_13 {l0 : Option Value} {x : Nat} {st : List Value} {M : qHp} : qEx 7 (13, [some (.ref x)], st, M) = qEx 7 (14, [some (.ref x)], .ref x :: st, M) := kk_same f_7_13 (rfl)
theorem f_7_14 : qFetch 7 14 = some (.iconst 0, 1) := qFetch_of (by decide +kernel)
theorem x_7_14 {l0 : Option Value} {st : List Value} {M : qHp} : qEx 7 (14, [l0], st, M) = qEx 7 (15, [l0], .int 0 :: st, M) := kk_same f_7_14 (rfl)
theorem f_7_15 : qFetch 7 15 = some (.putfield 30, 3) := qFetch_of (by decide +kernel)
theorem x_7_15 {l0 : Option Value} {x : Int32} {a : Nat} {st : List Value} {M : qHp} : qEx 7 (15, [l0], .int x :: .ref a :: st, M) = (hP M a 0 6 .int (.int x)).bind fun M => qEx 7 (18, [l0], st, M) := kk_bind f_7_15 rfl (fun _ h => hP_up h)
theorem f_7_18 : qFetch 7 18 = some (.aload_n 0, 1) := qFetch_of (by decide +kernel)
theorem x_7_18 {l0 : Option Value} {x : Nat} {st : List Value} {M : qHp} : qEx 7 (18, [some (.ref x)], st, M) = qEx 7 (19, [some (.ref x)], .ref x :: st, M) := kk_same f_7_18 (rfl)
theorem f_7_19 : qFetch 7 19 = some (.aload_n 0, 1) := qFetch_of (by decide +kernel)
theorem x_7_19 {l0 : Option Value} {x : Nat} {st : List Value} {M : qHp} : qEx 7 (19, [some (.ref x)], st, M) = qEx 7 (20, [some (.ref x)], .ref x :: st, M) := kk_same f_7_19 (rfl)
theorem f_7_20 : qFetch 7 20 = some (.getfield 36, 3) := qFetch_of (by decide +kernel)
theorem x_7_20 {l0 : Option Value} {a : Nat} {st : List Value} {M : qHp} : qEx 7 (20, [l0], .ref a :: st, M) = (hG M a 0 8).bind fun v => qEx 7 (23, [l0], v :: st, M) := kk_bind f_7_20 rfl (fun _ _ => ⟨Nat.le_refl _, Nat.le_refl _⟩)
theorem f_7_23 : qFetch 7 23 = some (.aload_n 0, 1) := qFetch_of (by decide +kernel)
theorem x_7_23 {l0 : Option Value} {x : Nat} {st : List Value} {M : qHp} : qEx 7 (23, [some (.ref x)], st, M) = qEx 7 (24, [some (.ref x)], .ref x :: st, M) := kk_same f_7_23 (rfl)
theorem f_7_24 : qFetch 7 24 = some (.getfield 15, 3) := qFetch_of (by decide +kernel)
theorem x_7_24 {l0 : Option Value} {a : Nat} {st : List Value} {M : qHp} : qEx 7 (24, [l0], .ref a :: st, M) = (hG M a 0 1).bind fun v => qEx 7 (27, [l0], v :: st, M) := kk_bind f_7_24 rfl (fun _ _ => ⟨Nat.le_refl _, Nat.le_refl _⟩)
theorem f_7_27 : qFetch 7 27 = some (.aload_n 0, 1) := qFetch_of (by decide +kernel)
theorem x_7_27 {l0 : Option Value} {x : Nat} {st : List Value} {M : qHp} : qEx 7 (27, [some (.ref x)], st, M) = qEx 7 (28, [some (.ref x)], .ref x :: st, M) := kk_same f_7_27 (rfl)
theorem f_7_28 : qFetch 7 28 = some (.getfield 33, 3) := qFetch_of (by decide +kernel)
theorem x_7_28 {l0 : Option Value} {a : Nat} {st : List Value} {M : qHp} : qEx 7 (28, [l0], .ref a :: st, M) = (hG M a 0 7).bind fun v => qEx 7 (31, [l0], v :: st, M) := kk_bind f_7_28 rfl (fun _ _ => ⟨Nat.le_refl _, Nat.le_refl _⟩)
theorem f_7_31 : qFetch 7 31 = some (.isub, 1) := qFetch_of (by decide +kernel)
theorem x_7_31 {l0 : Option Value} {x y : Int32} {st : List Value} {M : qHp} : qEx 7 (31, [l0], .int y :: .int x :: st, M) = qEx 7 (32, [l0], .int (x - y) :: st, M) := kk_same f_7_31 (rfl)
theorem f_7_32 : qFetch 7 32 = some (.invokestatic 49, 3) := qFetch_of (by decide +kernel)
theorem x_7_32 {l0 : Option Value} {v0 : Value} {a0 : Int32} {a1 : Int32} {M : qHp} : qEx 7 (32, [l0], [.int a1, .int a0, v0], M) = qEx 7 (35, [l0], .int (if a0 < a1 then a1 else a0) :: [v0], M) := kk_same f_7_32 rfl
theorem f_7_35 : qFetch 7 35 = some (.putfield 36, 3) := qFetch_of (by decide +kernel)
theorem x_7_35 {l0 : Option Value} {x : Int32} {a : Nat} {st : List Value} {M : qHp} : qEx 7 (35, [l0], .int x :: .ref a :: st, M) = (hP M a 0 8 .int (.int x)).bind fun M => qEx 7 (38, [l0], st, M) := kk_bind f_7_35 rfl (fun _ h => hP_up h)
theorem f_7_38 : qFetch 7 38 = some (.return_, 1) := qFetch_of (by decide +kernel)
theorem x_7_38 {l0 : Option Value} {M : qHp} : qEx 7 (38, [l0], [], M) = some (none, M) := kk_ret f_7_38 rfl rfl
theorem f_8_0 : qFetch 8 0 = some (.aload_n 0, 1) := qFetch_of (by decide +kernel)
theorem x_8_0 {l0 l1 l2 l3 : Option Value} {x : Nat} {st : List Value} {M : qHp} : qEx 8 (0, [some (.ref x), l1, l2, l3], st, M) = qEx 8 (1, [some (.ref x), l1, l2, l3], .ref x :: st, M) := kk_same f_8_0 (rfl)
theorem f_8_1 : qFetch 8 1 = some (.dup, 1) := qFetch_of (by decide +kernel)
theorem x_8_1 {l0 l1 l2 l3 : Option Value} {x : Nat} {st : List Value} {M : qHp} : qEx 8 (1, [l0, l1, l2, l3], .ref x :: st, M) = qEx 8 (2, [l0, l1, l2, l3], .ref x :: .ref x :: st, M) := kk_same f_8_1 (rfl)
theorem f_8_2 : qFetch 8 2 = some (.getfield 24, 3) := qFetch_of (by decide +kernel)
theorem x_8_2 {l0 l1 l2 l3 : Option Value} {a : Nat} {st : List Value} {M : qHp} : qEx 8 (2, [l0, l1, l2, l3], .ref a :: st, M) = (hG M a 0 4).bind fun v => qEx 8 (5, [l0, l1, l2, l3], v :: st, M) := kk_bind f_8_2 rfl (fun _ _ => ⟨Nat.le_refl _, Nat.le_refl _⟩)
theorem f_8_5 : qFetch 8 5 = some (.iload_n 1, 1) := qFetch_of (by decide +kernel)
theorem x_8_5 {l0 l1 l2 l3 : Option Value} {x : Int32} {st : List Value} {M : qHp} : qEx 8 (5, [l0, some (.int x), l2, l3], st, M) = qEx 8 (6, [l0, some (.int x), l2, l3], .int x :: st, M) := kk_same f_8_5 (rfl)
theorem f_8_6 : qFetch 8 6 = some (.isub, 1) := qFetch_of (by decide +kernel)
theorem x_8_6 {l0 l1 l2 l3 : Option Value} {x y : Int32} {st : List Value} {M : qHp} : qEx 8 (6, [l0, l1, l2, l3], .int y :: .int x :: st, M) = qEx 8 (7, [l0, l1, l2, l3], .int (x - y) :: st, M) := kk_same f_8_6 (rfl)
theorem f_8_7 : qFetch 8 7 = some (.putfield 24, 3) := qFetch_of (by decide +kernel)
theorem x_8_7 {l0 l1 l2 l3 : Option Value} {x : Int32} {a : Nat} {st : List Value} {M : qHp} : qEx 8 (7, [l0, l1, l2, l3], .int x :: .ref a :: st, M) = (hP M a 0 4 .int (.int x)).bind fun M => qEx 8 (10, [l0, l1, l2, l3], st, M) := kk_bind f_8_7 rfl (fun _ h => hP_up h)
theorem f_8_10 : qFetch 8 10 = some (.aload_n 0, 1) := qFetch_of (by decide +kernel)
theorem x_8_10 {l0 l1 l2 l3 : Option Value} {x : Nat} {st : List Value} {M : qHp} : qEx 8 (10, [some (.ref x), l1, l2, l3], st, M) = qEx 8 (11, [some (.ref x), l1, l2, l3], .ref x :: st, M) := kk_same f_8_10 (rfl)
theorem f_8_11 : qFetch 8 11 = some (.dup, 1) := qFetch_of (by decide +kernel)
theorem x_8_11 {l0 l1 l2 l3 : Option Value} {x : Nat} {st : List Value} {M : qHp} : qEx 8 (11, [l0, l1, l2, l3], .ref x :: st, M) = qEx 8 (12, [l0, l1, l2, l3], .ref x :: .ref x :: st, M) := kk_same f_8_11 (rfl)
theorem f_8_12 : qFetch 8 12 = some (.getfield 27, 3) := qFetch_of (by decide +kernel)
theorem x_8_12 {l0 l1 l2 l3 : Option Value} {a : Nat} {st : List Value} {M : qHp} : qEx 8 (12, [l0, l1, l2, l3], .ref a :: st, M) = (hG M a 0 5).bind fun v => qEx 8 (15, [l0, l1, l2, l3], v :: st, M) := kk_bind f_8_12 rfl (fun _ _ => ⟨Nat.le_refl _, Nat.le_refl _⟩)
theorem f_8_15 : qFetch 8 15 = some (.iload_n 2, 1) := qFetch_of (by decide +kernel)
theorem x_8_15 {l0 l1 l2 l3 : Option Value} {x : Int32} {st : List Value} {M : qHp} : qEx 8 (15, [l0, l1, some (.int x), l3], st, M) = qEx 8 (16, [l0, l1, some (.int x), l3], .int x :: st, M) := kk_same f_8_15 (rfl)
theorem f_8_16 : qFetch 8 16 = some (.iadd, 1) := qFetch_of (by decide +kernel)
theorem x_8_16 {l0 l1 l2 l3 : Option Value} {x y : Int32} {st : List Value} {M : qHp} : qEx 8 (16, [l0, l1, l2, l3], .int y :: .int x :: st, M) = qEx 8 (17, [l0, l1, l2, l3], .int (x + y) :: st, M) := kk_same f_8_16 (rfl)
theorem f_8_17 : qFetch 8 17 = some (.putfield 27, 3) := qFetch_of (by decide +kernel)
theorem x_8_17 {l0 l1 l2 l3 : Option Value} {x : Int32} {a : Nat} {st : List Value} {M : qHp} : qEx 8 (17, [l0, l1, l2, l3], .int x :: .ref a :: st, M) = (hP M a 0 5 .int (.int x)).bind fun M => qEx 8 (20, [l0, l1, l2, l3], st, M) := kk_bind f_8_17 rfl (fun _ h => hP_up h)
theorem f_8_20 : qFetch 8 20 = some (.aload_n 0, 1) := qFetch_of (by decide +kernel)
theorem x_8_20 {l0 l1 l2 l3 : Option Value} {x : Nat} {st : List Value} {M : qHp} : qEx 8 (20, [some (.ref x), l1, l2, l3], st, M) = qEx 8 (21, [some (.ref x), l1, l2, l3], .ref x :: st, M) := kk_same f_8_20 (rfl)
theorem f_8_21 : qFetch 8 21 = some (.dup, 1) := qFetch_of (by decide +kernel)
theorem x_8_21 {l0 l1 l2 l3 : Option Value} {x : Nat} {st : List Value} {M : qHp} : qEx 8 (21, [l0, l1, l2, l3], .ref x :: st, M) = qEx 8 (22, [l0, l1, l2, l3], .ref x :: .ref x :: st, M) := kk_same f_8_21 (rfl)
theorem f_8_22 : qFetch 8 22 = some (.getfield 30, 3) := qFetch_of (by decide +kernel)
theorem x_8_22 {l0 l1 l2 l3 : Option Value} {a : Nat} {st : List Value} {M : qHp} : qEx 8 (22, [l0, l1, l2, l3], .ref a :: st, M) = (hG M a 0 6).bind fun v => qEx 8 (25, [l0, l1, l2, l3], v :: st, M) := kk_bind f_8_22 rfl (fun _ _ => ⟨Nat.le_refl _, Nat.le_refl _⟩)
theorem f_8_25 : qFetch 8 25 = some (.iload_n 1, 1) := qFetch_of (by decide +kernel)
theorem x_8_25 {l0 l1 l2 l3 : Option Value} {x : Int32} {st : List Value} {M : qHp} : qEx 8 (25, [l0, some (.int x), l2, l3], st, M) = qEx 8 (26, [l0, some (.int x), l2, l3], .int x :: st, M) := kk_same f_8_25 (rfl)
theorem f_8_26 : qFetch 8 26 = some (.iload_n 2, 1) := qFetch_of (by decide +kernel)
theorem x_8_26 {l0 l1 l2 l3 : Option Value} {x : Int32} {st : List Value} {M : qHp} : qEx 8 (26, [l0, l1, some (.int x), l3], st, M) = qEx 8 (27, [l0, l1, some (.int x), l3], .int x :: st, M) := kk_same f_8_26 (rfl)
theorem f_8_27 : qFetch 8 27 = some (.isub, 1) := qFetch_of (by decide +kernel)
theorem x_8_27 {l0 l1 l2 l3 : Option Value} {x y : Int32} {st : List Value} {M : qHp} : qEx 8 (27, [l0, l1, l2, l3], .int y :: .int x :: st, M) = qEx 8 (28, [l0, l1, l2, l3], .int (x - y) :: st, M) := kk_same f_8_27 (rfl)
theorem f_8_28 : qFetch 8 28 = some (.iadd, 1) := qFetch_of (by decide +kernel)
theorem x_8_28 {l0 l1 l2 l3 : Option Value} {x y : Int32} {st : List Value} {M : qHp} : qEx 8 (28, [l0, l1, l2, l3], .int y :: .int x :: st, M) = qEx 8 (29, [l0, l1, l2, l3], .int (x + y) :: st, M) := kk_same f_8_28 (rfl)
theorem f_8_29 : qFetch 8 29 = some (.putfield 30, 3) := qFetch_of (by decide +kernel)
theorem x_8_29 {l0 l1 l2 l3 : Option Value} {x : Int32} {a : Nat} {st : List Value} {M : qHp} : qEx 8 (29, [l0, l1, l2, l3], .int x :: .ref a :: st, M) = (hP M a 0 6 .int (.int x)).bind fun M => qEx 8 (32, [l0, l1, l2, l3], st, M) := kk_bind f_8_29 rfl (fun _ h => hP_up h)
theorem f_8_32 : qFetch 8 32 = some (.iload_n 2, 1) := qFetch_of (by decide +kernel)
theorem x_8_32 {l0 l1 l2 l3 : Option Value} {x : Int32} {st : List Value} {M : qHp} : qEx 8 (32, [l0, l1, some (.int x), l3], st, M) = qEx 8 (33, [l0, l1, some (.int x), l3], .int x :: st, M) := kk_same f_8_32 (rfl)
theorem f_8_33 : qFetch 8 33 = some (.ifCond .le 15, 3) := qFetch_of (by decide +kernel)
theorem x_8_33 {l0 l1 l2 l3 : Option Value} {x : Int32} {st : List Value} {M : qHp} : qEx 8 (33, [l0, l1, l2, l3], .int x :: st, M) = if x ≤ 0 then qEx 8 (48, [l0, l1, l2, l3], st, M) else qEx 8 (36, [l0, l1, l2, l3], st, M) := kk_if f_8_33 rfl rfl rfl
theorem f_8_36 : qFetch 8 36 = some (.aload_n 0, 1) := qFetch_of (by decide +kernel)
theorem x_8_36 {l0 l1 l2 l3 : Option Value} {x : Nat} {st : List Value} {M : qHp} : qEx 8 (36, [some (.ref x), l1, l2, l3], st, M) = qEx 8 (37, [some (.ref x), l1, l2, l3], .ref x :: st, M) := kk_same f_8_36 (rfl)
theorem f_8_37 : qFetch 8 37 = some (.getfield 39, 3) := qFetch_of (by decide +kernel)
theorem x_8_37 {l0 l1 l2 l3 : Option Value} {a : Nat} {st : List Value} {M : qHp} : qEx 8 (37, [l0, l1, l2, l3], .ref a :: st, M) = (hG M a 0 9).bind fun v => qEx 8 (40, [l0, l1, l2, l3], v :: st, M) := kk_bind f_8_37 rfl (fun _ _ => ⟨Nat.le_refl _, Nat.le_refl _⟩)
theorem f_8_40 : qFetch 8 40 = some (.ifCond .ne 8, 3) := qFetch_of (by decide +kernel)
theorem x_8_40 {l0 l1 l2 l3 : Option Value} {x : Int32} {st : List Value} {M : qHp} : qEx 8 (40, [l0, l1, l2, l3], .int x :: st, M) = if x = 0 then qEx 8 (43, [l0, l1, l2, l3], st, M) else qEx 8 (48, [l0, l1, l2, l3], st, M) := kk_if f_8_40 rfl rfl rfl
theorem f_8_43 : qFetch 8 43 = some (.aload_n 0, 1) := qFetch_of (by decide +kernel)
theorem x_8_43 {l0 l1 l2 l3 : Option Value} {x : Nat} {st : List Value} {M : qHp} : qEx 8 (43, [some (.ref x), l1, l2, l3], st, M) = qEx 8 (44, [some (.ref x), l1, l2, l3], .ref x :: st, M) := kk_same f_8_43 (rfl)
theorem f_8_44 : qFetch 8 44 = some (.iconst 3, 1) := qFetch_of (by decide +kernel)
theorem x_8_44 {l0 l1 l2 l3 : Option Value} {st : List Value} {M : qHp} : qEx 8 (44, [l0, l1, l2, l3], st, M) = qEx 8 (45, [l0, l1, l2, l3], .int 3 :: st, M) := kk_same f_8_44 (rfl)
theorem f_8_45 : qFetch 8 45 = some (.putfield 39, 3) := qFetch_of (by decide +kernel)
theorem x_8_45 {l0 l1 l2 l3 : Option Value} {x : Int32} {a : Nat} {st : List Value} {M : qHp} : qEx 8 (45, [l0, l1, l2, l3], .int x :: .ref a :: st, M) = (hP M a 0 9 .int (.int x)).bind fun M => qEx 8 (48, [l0, l1, l2, l3], st, M) := kk_bind f_8_45 rfl (fun _ h => hP_up h)
theorem f_8_48 : qFetch 8 48 = some (.aload_n 0, 1) := qFetch_of (by decide +kernel)
theorem x_8_48 {l0 l1 l2 l3 : Option Value} {x : Nat} {st : List Value} {M : qHp} : qEx 8 (48, [some (.ref x), l1, l2, l3], st, M) = qEx 8 (49, [some (.ref x), l1, l2, l3], .ref x :: st, M) := kk_same f_8_48 (rfl)
theorem f_8_49 : qFetch 8 49 = some (.getfield 24, 3) := qFetch_of (by decide +kernel)
theorem x_8_49 {l0 l1 l2 l3 : Option Value} {a : Nat} {st : List Value} {M : qHp} : qEx 8 (49, [l0, l1, l2, l3], .ref a :: st, M) = (hG M a 0 4).bind fun v => qEx 8 (52, [l0, l1, l2, l3], v :: st, M) := kk_bind f_8_49 rfl (fun _ _ => ⟨Nat.le_refl _, Nat.le_refl _⟩)
theorem f_8_52 : qFetch 8 52 = some (.ifCond .ne 15, 3) := qFetch_of (by decide +kernel)
theorem x_8_52 {l0 l1 l2 l3 : Option Value} {x : Int32} {st : List Value} {M : qHp} : qEx 8 (52, [l0, l1, l2, l3], .int x :: st, M) = if x = 0 then qEx 8 (55, [l0, l1, l2, l3], st, M) else qEx 8 (67, [l0, l1, l2, l3], st, M) := kk_if f_8_52 rfl rfl rfl
theorem f_8_55 : qFetch 8 55 = some (.aload_n 0, 1) := qFetch_of (by decide +kernel)
theorem x_8_55 {l0 l1 l2 l3 : Option Value} {x : Nat} {st : List Value} {M : qHp} : qEx 8 (55, [some (.ref x), l1, l2, l3], st, M) = qEx 8 (56, [some (.ref x), l1, l2, l3], .ref x :: st, M) := kk_same f_8_55 (rfl)
theorem f_8_56 : qFetch 8 56 = some (.getfield 27, 3) := qFetch_of (by decide +kernel)
theorem x_8_56 {l0 l1 l2 l3 : Option Value} {a : Nat} {st : List Value} {M : qHp} : qEx 8 (56, [l0, l1, l2, l3], .ref a :: st, M) = (hG M a 0 5).bind fun v => qEx 8 (59, [l0, l1, l2, l3], v :: st, M) := kk_bind f_8_56 rfl (fun _ _ => ⟨Nat.le_refl _, Nat.le_refl _⟩)
theorem f_8_59 : qFetch 8 59 = some (.ifCond .ne 8, 3) := qFetch_of (by decide +kernel)
theorem x_8_59 {l0 l1 l2 l3 : Option Value} {x : Int32} {st : List Value} {M : qHp} : qEx 8 (59, [l0, l1, l2, l3], .int x :: st, M) = if x = 0 then qEx 8 (62, [l0, l1, l2, l3], st, M) else qEx 8 (67, [l0, l1, l2, l3], st, M) := kk_if f_8_59 rfl rfl rfl
theorem f_8_62 : qFetch 8 62 = some (.aload_n 0, 1) := qFetch_of (by decide +kernel)
theorem x_8_62 {l0 l1 l2 l3 : Option Value} {x : Nat} {st : List Value} {M : qHp} : qEx 8 (62, [some (.ref x), l1, l2, l3], st, M) = qEx 8 (63, [some (.ref x), l1, l2, l3], .ref x :: st, M) := kk_same f_8_62 (rfl)
theorem f_8_63 : qFetch 8 63 = some (.iload_n 3, 1) := qFetch_of (by decide +kernel)
theorem x_8_63 {l0 l1 l2 l3 : Option Value} {x : Int32} {st : List Value} {M : qHp} : qEx 8 (63, [l0, l1, l2, some (.int x)], st, M) = qEx 8 (64, [l0, l1, l2, some (.int x)], .int x :: st, M) := kk_same f_8_63 (rfl)
theorem f_8_64 : qFetch 8 64 = some (.putfield 42, 3) := qFetch_of (by decide +kernel)
theorem x_8_64 {l0 l1 l2 l3 : Option Value} {x : Int32} {a : Nat} {st : List Value} {M : qHp} : qEx 8 (64, [l0, l1, l2, l3], .int x :: .ref a :: st, M) = (hP M a 0 10 .int (.int x)).bind fun M => qEx 8 (67, [l0, l1, l2, l3], st, M) := kk_bind f_8_64 rfl (fun _ h => hP_up h)
theorem f_8_67 : qFetch 8 67 = some (.return_, 1) := qFetch_of (by decide +kernel)
theorem x_8_67 {l0 l1 l2 l3 : Option Value} {M : qHp} : qEx 8 (67, [l0, l1, l2, l3], [], M) = some (none, M) := kk_ret f_8_67 rfl rfl
theorem f_9_0 : qFetch 9 0 = some (.aload_n 0, 1) := qFetch_of (by decide +kernel)
theorem x_9_0 {l0 l1 l2 : Option Value} {x : Nat} {st : List Value} {M : qHp} : qEx 9 (0, [some (.ref x), l1, l2], st, M) = qEx 9 (1, [some (.ref x), l1, l2], .ref x :: st, M) := kk_same f_9_0 (rfl)
theorem f_9_1 : qFetch 9 1 = some (.dup, 1) := qFetch_of (by decide +kernel)
theorem x_9_1 {l0 l1 l2 : Option Value} {x : Nat} {st : List Value} {M : qHp} : qEx 9 (1, [l0, l1, l2], .ref x :: st, M) = qEx 9 (2, [l0, l1, l2], .ref x :: .ref x :: st, M) := kk_same f_9_1 (rfl)
theorem f_9_2 : qFetch 9 2 = some (.getfield 27, 3) := qFetch_of (by decide +kernel)
theorem x_9_2 {l0 l1 l2 : Option Value} {a : Nat} {st : List Value} {M : qHp} : qEx 9 (2, [l0, l1, l2], .ref a :: st, M) = (hG M a 0 5).bind fun v => qEx 9 (5, [l0, l1, l2], v :: st, M) := kk_bind f_9_2 rfl (fun _ _ => ⟨Nat.le_refl _, Nat.le_refl _⟩)
theorem f_9_5 : qFetch 9 5 = some (.iload_n 1, 1) := qFetch_of (by decide +kernel)
theorem x_9_5 {l0 l1 l2 : Option Value} {x : Int32} {st : List Value} {M : qHp} : qEx 9 (5, [l0, some (.int x), l2], st, M) = qEx 9 (6, [l0, some (.int x), l2], .int x :: st, M) := kk_same f_9_5 (rfl)
theorem f_9_6 : qFetch 9 6 = some (.isub, 1) := qFetch_of (by decide +kernel)
theorem x_9_6 {l0 l1 l2 : Option Value} {x y : Int32} {st : List Value} {M : qHp} : qEx 9 (6, [l0, l1, l2], .int y :: .int x :: st, M) = qEx 9 (7, [l0, l1, l2], .int (x - y) :: st, M) := kk_same f_9_6 (rfl)
theorem f_9_7 : qFetch 9 7 = some (.putfield 27, 3) := qFetch_of (by decide +kernel)
theorem x_9_7 {l0 l1 l2 : Option Value} {x : Int32} {a : Nat} {st : List Value} {M : qHp} : qEx 9 (7, [l0, l1, l2], .int x :: .ref a :: st, M) = (hP M a 0 5 .int (.int x)).bind fun M => qEx 9 (10, [l0, l1, l2], st, M) := kk_bind f_9_7 rfl (fun _ h => hP_up h)
theorem f_9_10 : qFetch 9 10 = some (.aload_n 0, 1) := qFetch_of (by decide +kernel)
theorem x_9_10 {l0 l1 l2 : Option Value} {x : Nat} {st : List Value} {M : qHp} : qEx 9 (10, [some (.ref x), l1, l2], st, M) = qEx 9 (11, [some (.ref x), l1, l2], .ref x :: st, M) := kk_same f_9_10 (rfl)
theorem f_9_11 : qFetch 9 11 = some (.dup, 1) := qFetch_of (by decide +kernel)
theorem x_9_11 {l0 l1 l2 : Option Value} {x : Nat} {st : List Value} {M : qHp} : qEx 9 (11, [l0, l1, l2], .ref x :: st, M) = qEx 9 (12, [l0, l1, l2], .ref x :: .ref x :: st, M) := kk_same f_9_11 (rfl)
theorem f_9_12 : qFetch 9 12 = some (.getfield 30, 3) := qFetch_of (by decide +kernel)
theorem x_9_12 {l0 l1 l2 : Option Value} {a : Nat} {st : List Value} {M : qHp} : qEx 9 (12, [l0, l1, l2], .ref a :: st, M) = (hG M a 0 6).bind fun v => qEx 9 (15, [l0, l1, l2], v :: st, M) := kk_bind f_9_12 rfl (fun _ _ => ⟨Nat.le_refl _, Nat.le_refl _⟩)
theorem f_9_15 : qFetch 9 15 = some (.iload_n 1, 1) := qFetch_of (by decide +kernel)
theorem x_9_15 {l0 l1 l2 : Option Value} {x : Int32} {st : List Value} {M : qHp} : qEx 9 (15, [l0, some (.int x), l2], st, M) = qEx 9 (16, [l0, some (.int x), l2], .int x :: st, M) := kk_same f_9_15 (rfl)
theorem f_9_16 : qFetch 9 16 = some (.iadd, 1) := qFetch_of (by decide +kernel)
theorem x_9_16 {l0 l1 l2 : Option Value} {x y : Int32} {st : List Value} {M : qHp} : qEx 9 (16, [l0, l1, l2], .int y :: .int x :: st, M) = qEx 9 (17, [l0, l1, l2], .int (x + y) :: st, M) := kk_same f_9_16 (rfl)
theorem f_9_17 : qFetch 9 17 = some (.putfield 30, 3) := qFetch_of (by decide +kernel)
theorem x_9_17 {l0 l1 l2 : Option Value} {x : Int32} {a : Nat} {st : List Value} {M : qHp} : qEx 9 (17, [l0, l1, l2], .int x :: .ref a :: st, M) = (hP M a 0 6 .int (.int x)).bind fun M => qEx 9 (20, [l0, l1, l2], st, M) := kk_bind f_9_17 rfl (fun _ h => hP_up h)
theorem f_9_20 : qFetch 9 20 = some (.aload_n 0, 1) := qFetch_of (by decide +kernel)
theorem x_9_20 {l0 l1 l2 : Option Value} {x : Nat} {st : List Value} {M : qHp} : qEx 9 (20, [some (.ref x), l1, l2], st, M) = qEx 9 (21, [some (.ref x), l1, l2], .ref x :: st, M) := kk_same f_9_20 (rfl)
theorem f_9_21 : qFetch 9 21 = some (.getfield 24, 3) := qFetch_of (by decide +kernel)
theorem x_9_21 {l0 l1 l2 : Option Value} {a : Nat} {st : List Value} {M : qHp} : qEx 9 (21, [l0, l1, l2], .ref a :: st, M) = (hG M a 0 4).bind fun v => qEx 9 (24, [l0, l1, l2], v :: st, M) := kk_bind f_9_21 rfl (fun _ _ => ⟨Nat.le_refl _, Nat.le_refl _⟩)
theorem f_9_24 : qFetch 9 24 = some (.ifCond .ne 15, 3) := qFetch_of (by decide +kernel)
theorem x_9_24 {l0 l1 l2 : Option Value} {x : Int32} {st : List Value} {M : qHp} : qEx 9 (24, [l0, l1, l2], .int x :: st, M) = if x = 0 then qEx 9 (27, [l0, l1, l2], st, M) else qEx 9 (39, [l0, l1, l2], st, M) := kk_if f_9_24 rfl rfl rfl
theorem f_9_27 : qFetch 9 27 = some (.aload_n 0, 1) := qFetch_of (by decide +kernel)
theorem x_9_27 {l0 l1 l2 : Option Value} {x : Nat} {st : List Value} {M : qHp} : qEx 9 (27, [some (.ref x), l1, l2], st, M) = qEx 9 (28, [some (.ref x), l1, l2], .ref x :: st, M) := kk_same f_9_27 (rfl)
theorem f_9_28 : qFetch 9 28 = some (.getfield 27, 3) := qFetch_of (by decide +kernel)
theorem x_9_28 {l0 l1 l2 : Option Value} {a : Nat} {st : List Value} {M : qHp} : qEx 9 (28, [l0, l1, l2], .ref a :: st, M) = (hG M a 0 5).bind fun v => qEx 9 (31, [l0, l1, l2], v :: st, M) := kk_bind f_9_28 rfl (fun _ _ => ⟨Nat.le_refl _, Nat.le_refl _⟩)
theorem f_9_31 : qFetch 9 31 = some (.ifCond .ne 8, 3) := qFetch_of (by decide +kernel)
theorem x_9_31 {l0 l1 l2 : Option Value} {x : Int32} {st : List Value} {M : qHp} : qEx 9 (31, [l0, l1, l2], .int x :: st, M) = if x = 0 then qEx 9 (34, [l0, l1, l2], st, M) else qEx 9 (39, [l0, l1, l2], st, M) := kk_if f_9_31 rfl rfl rfl
theorem f_9_34 : qFetch 9 34 = some (.aload_n 0, 1) := qFetch_of (by decide +kernel)
theorem x_9_34 {l0 l1 l2 : Option Value} {x : Nat} {st : List Value} {M : qHp} : qEx 9 (34, [some (.ref x), l1, l2], st, M) = qEx 9 (35, [some (.ref x), l1, l2], .ref x :: st, M) := kk_same f_9_34 (rfl)
theorem f_9_35 : qFetch 9 35 = some (.iload_n 2, 1) := qFetch_of (by decide +kernel)
theorem x_9_35 {l0 l1 l2 : Option Value} {x : Int32} {st : List Value} {M : qHp} : qEx 9 (35, [l0, l1, some (.int x)], st, M) = qEx 9 (36, [l0, l1, some (.int x)], .int x :: st, M) := kk_same f_9_35 (rfl)
theorem f_9_36 : qFetch 9 36 = some (.putfield 42, 3) := qFetch_of (by decide +kernel)
theorem x_9_36 {l0 l1 l2 : Option Value} {x : Int32} {a : Nat} {st : List Value} {M : qHp} : qEx 9 (36, [l0, l1, l2], .int x :: .ref a :: st, M) = (hP M a 0 10 .int (.int x)).bind fun M => qEx 9 (39, [l0, l1, l2], st, M) := kk_bind f_9_36 rfl (fun _ h => hP_up h)
theorem f_9_39 : qFetch 9 39 = some (.return_, 1) := qFetch_of (by decide +kernel)
theorem x_9_39 {l0 l1 l2 : Option Value} {M : qHp} : qEx 9 (39, [l0, l1, l2], [], M) = some (none, M) := kk_ret f_9_39 rfl rfl
end
