/-! the reference's small methods -/
theorem en_0 {a0 : Nat} : qEntry 0 [.ref a0] = [some (.ref a0)] := rfl
theorem en_1 {a0 : Nat} {a1 : Int32} {a2 : Int32} {a3 : Int32} {a4 : Int32} : qEntry 1 [.ref a0, .int a1, .int a2, .int a3, .int a4] = [some (.ref a0), some (.int a1), some (.int a2), some (.int a3), some (.int a4)] := rfl
theorem en_2 {a0 : Nat} {a1 : Nat} : qEntry 2 [.ref a0, .ref a1] = [some (.ref a0), some (.ref a1)] := rfl
theorem en_3 {a0 : Nat} {a1 : Int32} : qEntry 3 [.ref a0, .int a1] = [some (.ref a0), some (.int a1)] := rfl
theorem en_4 {a0 : Nat} : qEntry 4 [.ref a0] = [some (.ref a0)] := rfl
theorem en_5 {a0 : Nat} {a1 : Int32} : qEntry 5 [.ref a0, .int a1] = [some (.ref a0), some (.int a1)] := rfl
theorem en_6 {a0 : Nat} {a1 : Int32} : qEntry 6 [.ref a0, .int a1] = [some (.ref a0), some (.int a1)] := rfl
theorem en_7 {a0 : Nat} : qEntry 7 [.ref a0] = [some (.ref a0)] := rfl
theorem en_8 {a0 : Nat} {a1 : Int32} {a2 : Int32} {a3 : Int32} : qEntry 8 [.ref a0, .int a1, .int a2, .int a3] = [some (.ref a0), some (.int a1), some (.int a2), some (.int a3)] := rfl
theorem en_9 {a0 : Nat} {a1 : Int32} {a2 : Int32} : qEntry 9 [.ref a0, .int a1, .int a2] = [some (.ref a0), some (.int a1), some (.int a2)] := rfl
theorem en_10 {a0 : Nat} : qEntry 10 [.ref a0] = [some (.ref a0), none] := rfl
theorem en_11 {a0 : Nat} {a1 : Nat} : qEntry 11 [.ref a0, .ref a1] = [some (.ref a0), some (.ref a1), none] := rfl
theorem en_12 {a0 : Nat} {a1 : Int32} {a2 : Int32} : qEntry 12 [.ref a0, .int a1, .int a2] = [some (.ref a0), some (.int a1), some (.int a2), none] := rfl
theorem en_13 {a0 : Nat} {a1 : Int32} {a2 : Int32} : qEntry 13 [.ref a0, .int a1, .int a2] = [some (.ref a0), some (.int a1), some (.int a2), none] := rfl
theorem en_14 {a0 : Nat} {a1 : Int32} {a2 : Int32} {a3 : Int32} {a4 : Int32} : qEntry 14 [.ref a0, .int a1, .int a2, .int a3, .int a4] = [some (.ref a0), some (.int a1), some (.int a2), some (.int a3), some (.int a4)] := rfl
theorem en_15 {a0 : Nat} {a1 : Int32} : qEntry 15 [.ref a0, .int a1] = [some (.ref a0), some (.int a1), none, none] := rfl
theorem en_16 {a0 : Nat} {a1 : Int32} : qEntry 16 [.ref a0, .int a1] = [some (.ref a0), some (.int a1)] := rfl
theorem en_17 {a0 : Nat} {a1 : Int32} : qEntry 17 [.ref a0, .int a1] = [some (.ref a0), some (.int a1)] := rfl
theorem en_18 {a0 : Nat} {a1 : Int32} : qEntry 18 [.ref a0, .int a1] = [some (.ref a0), some (.int a1)] := rfl
theorem en_19 {a0 : Nat} {a1 : Int32} : qEntry 19 [.ref a0, .int a1] = [some (.ref a0), some (.int a1)] := rfl
theorem en_20 {a0 : Nat} {a1 : Int32} {a2 : Int32} : qEntry 20 [.ref a0, .int a1, .int a2] = [some (.ref a0), some (.int a1), some (.int a2), none, none, none] := rfl
theorem en_21 {a0 : Nat} {a1 : Int32} : qEntry 21 [.ref a0, .int a1] = [some (.ref a0), some (.int a1), none, none, none] := rfl
theorem en_22 {a0 : Nat} : qEntry 22 [.ref a0] = [some (.ref a0), none] := rfl
theorem en_23 {a0 : Nat} : qEntry 23 [.ref a0] = [some (.ref a0), none] := rfl
theorem en_24 {a0 : Nat} {a1 : Int32} : qEntry 24 [.ref a0, .int a1] = [some (.ref a0), some (.int a1), none, none] := rfl
theorem en_25 {a0 : Nat} : qEntry 25 [.ref a0] = [some (.ref a0), none] := rfl
theorem en_26 {a0 : Nat} {a1 : Int32} : qEntry 26 [.ref a0, .int a1] = [some (.ref a0), some (.int a1), none] := rfl
theorem en_27 {a0 : Nat} : qEntry 27 [.ref a0] = [some (.ref a0), none, none] := rfl
theorem en_28 {a0 : Nat} : qEntry 28 [.ref a0] = [some (.ref a0), none, none, none] := rfl
theorem en_29 {a0 : Nat} : qEntry 29 [.ref a0] = [some (.ref a0), none, none] := rfl
theorem en_30 {a0 : Nat} : qEntry 30 [.ref a0] = [some (.ref a0), none, none] := rfl
theorem en_31 {a0 : Nat} {a1 : Nat} : qEntry 31 [.ref a0, .ref a1] = [some (.ref a0), some (.ref a1), none, none] := rfl
theorem en_32 {a0 : Nat} {a1 : Nat} : qEntry 32 [.ref a0, .ref a1] = [some (.ref a0), some (.ref a1), none, none] := rfl
theorem en_33 {a0 : Nat} {a1 : Nat} {a2 : Int32} : qEntry 33 [.ref a0, .ref a1, .int a2] = [some (.ref a0), some (.ref a1), some (.int a2), none] := rfl
theorem en_34 {a0 : Nat} {a1 : Nat} {a2 : Nat} {a3 : Int32} : qEntry 34 [.ref a0, .ref a1, .ref a2, .int a3] = [some (.ref a0), some (.ref a1), some (.ref a2), some (.int a3), none, none] := rfl
theorem en_35 {a0 : Nat} {a1 : Int32} : qEntry 35 [.ref a0, .int a1] = [some (.ref a0), some (.int a1)] := rfl
theorem en_36 {a0 : Nat} : qEntry 36 [.ref a0] = [some (.ref a0), none, none, none, none] := rfl
theorem en_37 {a0 : Nat} : qEntry 37 [.ref a0] = [some (.ref a0), none] := rfl
theorem en_38 {a0 : Nat} {a1 : Nat} : qEntry 38 [.ref a0, .ref a1] = [some (.ref a0), some (.ref a1)] := rfl
theorem en_39 {a0 : Nat} : qEntry 39 [.ref a0] = [some (.ref a0)] := rfl
theorem en_40 {a0 : Nat} : qEntry 40 [.ref a0] = [some (.ref a0)] := rfl
theorem en_41 {a0 : Nat} : qEntry 41 [.ref a0] = [some (.ref a0)] := rfl
theorem en_42 {a0 : Nat} : qEntry 42 [.ref a0] = [some (.ref a0)] := rfl
theorem en_43 {a0 : Nat} {a1 : Nat} : qEntry 43 [.ref a0, .ref a1] = [some (.ref a0), some (.ref a1)] := rfl
theorem en_44 {a0 : Nat} {a1 : Int32} : qEntry 44 [.ref a0, .int a1] = [some (.ref a0), some (.int a1)] := rfl
theorem en_45 {a0 : Nat} {a1 : Int32} {a2 : Int32} {a3 : Int32} : qEntry 45 [.ref a0, .int a1, .int a2, .int a3] = [some (.ref a0), some (.int a1), some (.int a2), some (.int a3)] := rfl
theorem en_46 {a0 : Nat} : qEntry 46 [.ref a0] = [some (.ref a0)] := rfl
theorem en_58 {a0 : Nat} : qEntry 58 [.ref a0] = [some (.ref a0)] := rfl
theorem en_59 {a0 : Nat} {a1 : Nat} : qEntry 59 [.ref a0, .ref a1] = [some (.ref a0), some (.ref a1)] := rfl
theorem en_60 {a0 : Nat} {a1 : Int32} : qEntry 60 [.ref a0, .int a1] = [some (.ref a0), some (.int a1)] := rfl
theorem en_61 {a0 : Nat} {a1 : Int32} : qEntry 61 [.ref a0, .int a1] = [some (.ref a0), some (.int a1)] := rfl
theorem en_62 {a0 : Nat} : qEntry 62 [.ref a0] = [some (.ref a0)] := rfl
theorem en_63 {a0 : Nat} : qEntry 63 [.ref a0] = [some (.ref a0), none] := rfl
theorem en_64 {a0 : Nat} {a1 : Int32} {a2 : Int32} : qEntry 64 [.ref a0, .int a1, .int a2] = [some (.ref a0), some (.int a1), some (.int a2)] := rfl
theorem en_65 {a0 : Nat} {a1 : Int32} {a2 : Int32} : qEntry 65 [.ref a0, .int a1, .int a2] = [some (.ref a0), some (.int a1), some (.int a2)] := rfl
theorem en_66 {a0 : Nat} {a1 : Int32} {a2 : Int32} {a3 : Int32} {a4 : Int32} : qEntry 66 [.ref a0, .int a1, .int a2, .int a3, .int a4] = [some (.ref a0), some (.int a1), some (.int a2), some (.int a3), some (.int a4)] := rfl
theorem en_67 {a0 : Nat} {a1 : Int32} : qEntry 67 [.ref a0, .int a1] = [some (.ref a0), some (.int a1)] := rfl
theorem en_68 {a0 : Nat} {a1 : Int32} : qEntry 68 [.ref a0, .int a1] = [some (.ref a0), some (.int a1)] := rfl
theorem en_69 {a0 : Nat} {a1 : Int32} {a2 : Int32} : qEntry 69 [.ref a0, .int a1, .int a2] = [some (.ref a0), some (.int a1), some (.int a2), none] := rfl
theorem en_70 {a0 : Nat} {a1 : Int32} {a2 : Int32} : qEntry 70 [.ref a0, .int a1, .int a2] = [some (.ref a0), some (.int a1), some (.int a2), none] := rfl
theorem en_71 {a0 : Nat} {a1 : Int32} {a2 : Int32} : qEntry 71 [.ref a0, .int a1, .int a2] = [some (.ref a0), some (.int a1), some (.int a2)] := rfl
theorem en_72 {a0 : Nat} {a1 : Int32} : qEntry 72 [.ref a0, .int a1] = [some (.ref a0), some (.int a1)] := rfl
theorem en_73 {a0 : Nat} {a1 : Int32} : qEntry 73 [.ref a0, .int a1] = [some (.ref a0), some (.int a1)] := rfl
theorem en_74 {a0 : Nat} {a1 : Int32} {a2 : Int32} : qEntry 74 [.ref a0, .int a1, .int a2] = [some (.ref a0), some (.int a1), some (.int a2), none] := rfl
theorem en_75 {a0 : Nat} : qEntry 75 [.ref a0] = [some (.ref a0)] := rfl
theorem en_76 {a0 : Nat} : qEntry 76 [.ref a0] = [some (.ref a0)] := rfl
theorem en_83 {a0 : Nat} : qEntry 83 [.ref a0] = [some (.ref a0)] := rfl
theorem i_add3 (a b c : Nat) : nI a + nI 11 * nI b + nI c = nI (a + 11 * b + c) := by rw [pk_mul, nI_add, nI_add]