/-! the reference's small methods -/
theorem en_0 {a0 : Nat} : qEntry 0 [.ref a0] = [some (.ref a0)] := rfl
theorem en_1 {a0 : Nat} {a1 : Int32} {a2 : Int32} {a3 : Int32} {a4 : Int32} : qEntry 1 [.ref a0, .int a1, .int a2, .int a3, .int a4] = [some (.ref a0), some (.int a1), some (.int a2), some (.int a3), some (.int a4)] := rfl
theorem en_2 {a0 : Nat} {a1 : Nat} : qEntry 2 [.ref a0, .ref a1] = [some (.ref a0), some (.ref a1)] := rfl
theorem en_3 {a0 : Nat} {a1 : Int32} : qEntry 3 [.ref a0, .int a1] = [some (.ref a0), some (.int a1)] := rfl
theorem en_4 {a0 : Nat} : qEntry 4 [.ref a0] = [some (.ref a0)] := rfl
theorem en_5 {a0 : Nat} {a1 : Int32} : qEntry 5 [.ref a0, .int a1] = [some (.ref a0), some (.int a1)] := rfl
theorem en_6 {a0 : Nat} {a1 : Int32} : qEntry 6 [.ref a0, .int a1] = [some (.ref a0), some (.int a1)] := rfl
theorem en_7 {a0 : Nat} : qEntry 7 [.ref a0] = [some (.ref a0)] := rfl
theorem en_8 {a0 : Nat} {a1 : Int32} {a2 : Int32} {a3 : Int32} : qEntry 8 [.ref a0, .int a1, .int a2, .int a3] = [some (.ref a0), some (.int a1), some (.int a2), some (.int a3)] := rfl
theorem en_9 {a0 : Nat} {a1 : Int32} {a2 : Int32} : qEntry 9 [.ref a0, .int a1, .int a2] = [some (.ref a0), some (.int a1), some (.int a2)] := rfl
theorem en_10 {a0 : Nat} : qEntry 10 [.ref a0] = [some (.ref a0), none] := rfl
theorem en_11 {a0 : Nat} {a1 : Nat} : qEntry 11 [.ref a0, .ref a1] = [some (.ref a0), some (.ref a1), none] := rfl
theorem en_12 {a0 : Nat} {a1 : Int32} {a2 : Int32} : qEntry 12 [.ref a0, .int a1, .int a2] = [some (.ref a0), some (.int a1), some (.int a2), none] := rfl
theorem en_13 {a0 : Nat} {a1 : Int32} {a2 : Int32} : qEntry 13 [.ref a0, .int a1, .int a2] = [some (.ref a0), some (.int a1), some (.int a2), none] := rfl
theorem en_14 {a0 : Nat} {a1 : Int32} {a2 : Int32} {a3 : Int32} {a4 : Int32} : qEntry 14 [.ref a0, .int a1, .int a2, .int a3, .int a4] = [some (.ref a0), some (.int a1), some (.int a2), some (.int a3), some (.int a4)] := rfl
theorem en_15 {a0 : Nat} {a1 : Int32} : qEntry 15 [.ref a0, .int a1] = [some (.ref a0), some (.int a1), none, none] := rfl
theorem en_16 {a0 : Nat} {a1 : Int32} : qEntry 16 [.ref a0, .int a1] = [some (.ref a0), some (.int a1)] := rfl
theorem en_17 {a0 : Nat} {a1 : Int32} : qEntry 17 [.ref a0, .int a1] = [some (.ref a0), some (.int a1)] := rfl
theorem en_18 {a0 : Nat} {a1 : Int32} : qEntry 18 [.ref a0, .int a1] = [some (.ref a0), some (.int a1)] := rfl
theorem en_19 {a0 : Nat} {a1 : Int32} : qEntry 19 [.ref a0, .int a1] = [some (.ref a0), some (.int a1)] := rfl
theorem en_20 {a0 : Nat} {a1 : Int32} {a2 : Int32} : qEntry 20 [.ref a0, .int a1, .int a2] = [some (.ref a0), some (.int a1), some (.int a2), none, none, none] := rfl
theorem en_21 {a0 : Nat} {a1 : Int32} : qEntry 21 [.ref a0, .int a1] = [some (.ref a0), some (.int a1), none, none, none] := rfl
theorem en_22 {a0 : Nat} : qEntry 22 [.ref a0] = [some (.ref a0), none] := rfl
theorem en_23 {a0 : Nat} : qEntry 23 [.ref a0] = [some (.ref a0), none] := rfl
theorem en_24 {a0 : Nat} {a1 : Int32} : qEntry 24 [.ref a0, .int a1] = [some (.ref a0), some (.int a1), none, none] := rfl
theorem en_25 {a0 : Nat} : qEntry 25 [.ref a0] = [some (.ref a0), none] := rfl
theorem en_26 {a0 : Nat} {a1 : Int32} : qEntry 26 [.ref a0, .int a1] = [some (.ref a0), some (.int a1), none] := rfl
theorem en_27 {a0 : Nat} : qEntry 27 [.ref a0] = [some (.ref a0), none, none] := rfl
theorem en_28 {a0 : Nat} : qEntry 28 [.ref a0] = [some (.ref a0), none, none, none] := rfl
theorem en_29 {a0 : Nat} : qEntry 29 [.ref a0] = [some (.ref a0), none, none] := rfl
theorem en_30 {a0 : Nat} : qEntry 30 [.ref a0] = [some (.ref a0), none, none] := rfl
theorem en_31 {a0 : Nat} {a1 : Nat} : qEntry 31 [.ref a0, .ref a1] = [some (.ref a0), some (.ref a1), none, none] := rfl
theorem en_32 {a0 : Nat} {a1 : Nat} : qEntry 32 [.ref a0, .ref a1] = [some (.ref a0), some (.ref a1), none, none] := rfl
theorem en_33 {a0 : Nat} {a1 : Nat} {a2 : Int32} : qEntry 33 [.ref a0, .ref a1, .int a2] = [some (.ref a0), some (.ref a1), some (.int a2), none] := rfl
theorem en_34 {a0 : Nat} {a1 : Nat} {a2 : Nat} {a3 : Int32} : qEntry 34 [.ref a0, .ref a1, .ref a2, .int a3] = [some (.ref a0), some (.ref a1), some (.ref a2), some (.int a3), none, none] := rfl
theorem en_35 {a0 : Nat} {a1 : Int32} : qEntry 35 [.ref a0, .int a1] = [some (.ref a0), some (.int a1)] := rfl
theorem en_36 {a0 : Nat} : qEntry 36 [.ref a0] = [some (.ref a0), none, none, none, none] := rfl
theorem en_37 {a0 : Nat} : qEntry 37 [.ref a0] = [some (.ref a0), none] := rfl
theorem en_38 {a0 : Nat} {a1 : Nat} : qEntry 38 [.ref a0, .ref a1] = [some (.ref a0), some (.ref a1)] := rfl
theorem en_39 {a0 : Nat} : qEntry 39 [.ref a0] = [some (.ref a0)] := rfl
theorem en_40 {a0 : Nat} : qEntry 40 [.ref a0] = [some (.ref a0)] := rfl
theorem en_41 {a0 : Nat} : qEntry 41 [.ref a0] = [some (.ref a0)] := rfl
theorem en_42 {a0 : Nat} : qEntry 42 [.ref a0] = [some (.ref a0)] := rfl
theorem en_43 {a0 : Nat} {a1 : Nat} : qEntry 43 [.ref a0, .ref a1] = [some (.ref a0), some (.ref a1)] := rfl
theorem en_44 {a0 : Nat} {a1 : Int32} : qEntry 44 [.ref a0, .int a1] = [some (.ref a0), some (.int a1)] := rfl
theorem en_45 {a0 : Nat} {a1 : Int32} {a2 : Int32} {a3 : Int32} : qEntry 45 [.ref a0, .int a1, .int a2, .int a3] = [some (.ref a0), some (.int a1), some (.int a2), some (.int a3)] := rfl
theorem en_46 {a0 : Nat} : qEntry 46 [.ref a0] = [some (.ref a0)] := rfl
theorem en_47 {a0 : Nat} {a1 : Int64} : qEntry 47 [.ref a0, .long a1] = [some (.ref a0), some (.long a1), none, none, none] := rfl
theorem en_48 {a0 : Nat} {a1 : Int64} : qEntry 48 [.ref a0, .long a1] = [some (.ref a0), some (.long a1), none, none, none, none, none, none] := rfl
theorem en_49 {a0 : Nat} : qEntry 49 [.ref a0] = [some (.ref a0), none] := rfl
theorem en_50 {a0 : Nat} : qEntry 50 [.ref a0] = [some (.ref a0), none] := rfl
theorem en_51 {a0 : Nat} : qEntry 51 [.ref a0] = [some (.ref a0)] := rfl
theorem en_52 {a0 : Nat} {a1 : Int32} : qEntry 52 [.ref a0, .int a1] = [some (.ref a0), some (.int a1)] := rfl
theorem en_53 {a0 : Nat} : qEntry 53 [.ref a0] = [some (.ref a0), none] := rfl
theorem en_54 {a0 : Nat} : qEntry 54 [.ref a0] = [some (.ref a0), none] := rfl
theorem en_55 {a0 : Nat} : qEntry 55 [.ref a0] = [some (.ref a0), none, none] := rfl
theorem en_56 {a0 : Nat} : qEntry 56 [.ref a0] = [some (.ref a0), none] := rfl
theorem en_57 {a0 : Nat} : qEntry 57 [.ref a0] = [some (.ref a0)] := rfl
theorem en_58 {a0 : Nat} : qEntry 58 [.ref a0] = [some (.ref a0)] := rfl
theorem en_59 {a0 : Nat} {a1 : Nat} : qEntry 59 [.ref a0, .ref a1] = [some (.ref a0), some (.ref a1)] := rfl
theorem en_60 {a0 : Nat} {a1 : Int32} : qEntry 60 [.ref a0, .int a1] = [some (.ref a0), some (.int a1)] := rfl
theorem en_61 {a0 : Nat} {a1 : Int32} : qEntry 61 [.ref a0, .int a1] = [some (.ref a0), some (.int a1)] := rfl
theorem en_62 {a0 : Nat} : qEntry 62 [.ref a0] = [some (.ref a0)] := rfl
theorem en_63 {a0 : Nat} : qEntry 63 [.ref a0] = [some (.ref a0), none] := rfl
theorem en_64 {a0 : Nat} {a1 : Int32} {a2 : Int32} : qEntry 64 [.ref a0, .int a1, .int a2] = [some (.ref a0), some (.int a1), some (.int a2)] := rfl
theorem en_65 {a0 : Nat} {a1 : Int32} {a2 : Int32} : qEntry 65 [.ref a0, .int a1, .int a2] = [some (.ref a0), some (.int a1), some (.int a2)] := rfl
theorem en_66 {a0 : Nat} {a1 : Int32} {a2 : Int32} {a3 : Int32} {a4 : Int32} : qEntry 66 [.ref a0, .int a1, .int a2, .int a3, .int a4] = [some (.ref a0), some (.int a1), some (.int a2), some (.int a3), some (.int a4)] := rfl
theorem en_67 {a0 : Nat} {a1 : Int32} : qEntry 67 [.ref a0, .int a1] = [some (.ref a0), some (.int a1)] := rfl
theorem en_68 {a0 : Nat} {a1 : Int32} : qEntry 68 [.ref a0, .int a1] = [some (.ref a0), some (.int a1)] := rfl
theorem en_69 {a0 : Nat} {a1 : Int32} {a2 : Int32} : qEntry 69 [.ref a0, .int a1, .int a2] = [some (.ref a0), some (.int a1), some (.int a2), none] := rfl
theorem en_70 {a0 : Nat} {a1 : Int32} {a2 : Int32} : qEntry 70 [.ref a0, .int a1, .int a2] = [some (.ref a0), some (.int a1), some (.int a2), none] := rfl
theorem en_71 {a0 : Nat} {a1 : Int32} {a2 : Int32} : qEntry 71 [.ref a0, .int a1, .int a2] = [some (.ref a0), some (.int a1), some (.int a2)] := rfl
theorem en_72 {a0 : Nat} {a1 : Int32} : qEntry 72 [.ref a0, .int a1] = [some (.ref a0), some (.int a1)] := rfl
theorem en_73 {a0 : Nat} {a1 : Int32} : qEntry 73 [.ref a0, .int a1] = [some (.ref a0), some (.int a1)] := rfl
theorem en_74 {a0 : Nat} {a1 : Int32} {a2 : Int32} : qEntry 74 [.ref a0, .int a1, .int a2] = [some (.ref a0), some (.int a1), some (.int a2), none] := rfl
theorem en_75 {a0 : Nat} : qEntry 75 [.ref a0] = [some (.ref a0)] := rfl
theorem en_76 {a0 : Nat} : qEntry 76 [.ref a0] = [some (.ref a0)] := rfl
theorem en_77 {a0 : Nat} {a1 : Int32} {a2 : Int32} : qEntry 77 [.ref a0, .int a1, .int a2] = [some (.ref a0), some (.int a1), some (.int a2), none, none] := rfl
theorem en_78 {a0 : Nat} {a1 : Int64} : qEntry 78 [.ref a0, .long a1] = [some (.ref a0), some (.long a1), none] := rfl
theorem en_79 {a0 : Nat} : qEntry 79 [.ref a0] = [some (.ref a0)] := rfl
theorem en_80 {a0 : Nat} : qEntry 80 [.ref a0] = [some (.ref a0)] := rfl
theorem en_81 {a0 : Nat} : qEntry 81 [.ref a0] = [some (.ref a0), none] := rfl
theorem en_82 {a0 : Nat} : qEntry 82 [.ref a0] = [some (.ref a0)] := rfl
theorem en_83 {a0 : Nat} : qEntry 83 [.ref a0] = [some (.ref a0)] := rfl
theorem en_84 {a0 : Nat} {a1 : Int32} : qEntry 84 [.ref a0, .int a1] = [some (.ref a0), some (.int a1)] := rfl
theorem en_85 {a0 : Nat} {a1 : Int32} : qEntry 85 [.ref a0, .int a1] = [some (.ref a0), some (.int a1)] := rfl
theorem en_86 {a0 : Nat} : qEntry 86 [.ref a0] = [some (.ref a0), none] := rfl
theorem en_87 {a0 : Int32} {a1 : Int32} {a2 : Int32} : qEntry 87 [.int a0, .int a1, .int a2] = [some (.int a0), some (.int a1), some (.int a2)] := rfl
theorem en_88 {a0 : Nat} {a1 : Int32} {a2 : Int32} : qEntry 88 [.ref a0, .int a1, .int a2] = [some (.ref a0), some (.int a1), some (.int a2)] := rfl
theorem en_89 {a0 : Nat} {a1 : Int32} {a2 : Int32} {a3 : Int32} : qEntry 89 [.ref a0, .int a1, .int a2, .int a3] = [some (.ref a0), some (.int a1), some (.int a2), some (.int a3)] := rfl
theorem en_90 {a0 : Int32} : qEntry 90 [.int a0] = [some (.int a0)] := rfl
theorem en_91 {a0 : Int32} : qEntry 91 [.int a0] = [some (.int a0)] := rfl
theorem en_92 {a0 : Nat} {a1 : Int32} : qEntry 92 [.ref a0, .int a1] = [some (.ref a0), some (.int a1)] := rfl
theorem en_93 {a0 : Nat} {a1 : Int32} {a2 : Nat} {a3 : Int32} : qEntry 93 [.ref a0, .int a1, .ref a2, .int a3] = [some (.ref a0), some (.int a1), some (.ref a2), some (.int a3), none] := rfl
theorem en_94 {a0 : Nat} : qEntry 94 [.ref a0] = [some (.ref a0), none] := rfl
theorem en_95 {a0 : Nat} : qEntry 95 [.ref a0] = [some (.ref a0)] := rfl
theorem en_96 {a0 : Nat} {a1 : Int32} : qEntry 96 [.ref a0, .int a1] = [some (.ref a0), some (.int a1)] := rfl
theorem en_97 {a0 : Nat} {a1 : Int32} : qEntry 97 [.ref a0, .int a1] = [some (.ref a0), some (.int a1)] := rfl
theorem en_98 {a0 : Nat} {a1 : Int32} {a2 : Int32} : qEntry 98 [.ref a0, .int a1, .int a2] = [some (.ref a0), some (.int a1), some (.int a2)] := rfl
theorem en_99 {a0 : Nat} {a1 : Int32} : qEntry 99 [.ref a0, .int a1] = [some (.ref a0), some (.int a1), none] := rfl
theorem en_100 {a0 : Nat} : qEntry 100 [.ref a0] = [some (.ref a0), none, none, none] := rfl
theorem en_101 {a0 : Nat} : qEntry 101 [.ref a0] = [some (.ref a0), none] := rfl
theorem en_102 {a0 : Nat} {a1 : Int32} : qEntry 102 [.ref a0, .int a1] = [some (.ref a0), some (.int a1)] := rfl
theorem en_103 {a0 : Nat} {a1 : Int32} : qEntry 103 [.ref a0, .int a1] = [some (.ref a0), some (.int a1), none, none, none] := rfl
theorem en_104 {a0 : Nat} : qEntry 104 [.ref a0] = [some (.ref a0)] := rfl
theorem en_105 {a0 : Nat} {a1 : Int32} {a2 : Int32} : qEntry 105 [.ref a0, .int a1, .int a2] = [some (.ref a0), some (.int a1), some (.int a2)] := rfl
theorem en_106 {a0 : Nat} {a1 : Int32} : qEntry 106 [.ref a0, .int a1] = [some (.ref a0), some (.int a1), none, none, none, none, none, none] := rfl
theorem en_107 {a0 : Nat} {a1 : Int32} : qEntry 107 [.ref a0, .int a1] = [some (.ref a0), some (.int a1), none, none] := rfl
theorem en_108 {a0 : Nat} : qEntry 108 [.ref a0] = [some (.ref a0), none, none, none, none] := rfl
theorem en_109 {a0 : Nat} : qEntry 109 [.ref a0] = [some (.ref a0), none, none, none] := rfl
theorem en_110 {a0 : Nat} {a1 : Int32} : qEntry 110 [.ref a0, .int a1] = [some (.ref a0), some (.int a1), none] := rfl
theorem en_111 {a0 : Int32} {a1 : Int32} : qEntry 111 [.int a0, .int a1] = [some (.int a0), some (.int a1)] := rfl
theorem en_112 {a0 : Nat} {a1 : Int32} {a2 : Int32} : qEntry 112 [.ref a0, .int a1, .int a2] = [some (.ref a0), some (.int a1), some (.int a2), none] := rfl
theorem en_113 {a0 : Nat} {a1 : Int32} {a2 : Int32} : qEntry 113 [.ref a0, .int a1, .int a2] = [some (.ref a0), some (.int a1), some (.int a2)] := rfl
theorem en_114 {a0 : Nat} {a1 : Int32} : qEntry 114 [.ref a0, .int a1] = [some (.ref a0), some (.int a1)] := rfl
theorem en_115 {a0 : Nat} {a1 : Int32} {a2 : Int32} : qEntry 115 [.ref a0, .int a1, .int a2] = [some (.ref a0), some (.int a1), some (.int a2)] := rfl
theorem en_116 {a0 : Nat} {a1 : Int32} {a2 : Int32} : qEntry 116 [.ref a0, .int a1, .int a2] = [some (.ref a0), some (.int a1), some (.int a2), none] := rfl
theorem en_117 {a0 : Nat} {a1 : Int32} {a2 : Int32} {a3 : Int32} {a4 : Int32} : qEntry 117 [.ref a0, .int a1, .int a2, .int a3, .int a4] = [some (.ref a0), some (.int a1), some (.int a2), some (.int a3), some (.int a4)] := rfl
theorem en_118 {a0 : Nat} {a1 : Int32} {a2 : Int32} {a3 : Int32} {a4 : Int32} : qEntry 118 [.ref a0, .int a1, .int a2, .int a3, .int a4] = [some (.ref a0), some (.int a1), some (.int a2), some (.int a3), some (.int a4), none, none] := rfl
theorem en_119 {a0 : Nat} {a1 : Int32} {a2 : Int32} {a3 : Int32} {a4 : Int32} : qEntry 119 [.ref a0, .int a1, .int a2, .int a3, .int a4] = [some (.ref a0), some (.int a1), some (.int a2), some (.int a3), some (.int a4), none] := rfl
theorem en_120 {a0 : Nat} {a1 : Int32} : qEntry 120 [.ref a0, .int a1] = [some (.ref a0), some (.int a1)] := rfl
theorem en_121 {a0 : Nat} {a1 : Int32} : qEntry 121 [.ref a0, .int a1] = [some (.ref a0), some (.int a1), none] := rfl
theorem en_122 {a0 : Nat} {a1 : Int32} {a2 : Int32} : qEntry 122 [.ref a0, .int a1, .int a2] = [some (.ref a0), some (.int a1), some (.int a2)] := rfl
theorem en_123 {a0 : Nat} {a1 : Int32} {a2 : Int32} : qEntry 123 [.ref a0, .int a1, .int a2] = [some (.ref a0), some (.int a1), some (.int a2)] := rfl
theorem en_124 {a0 : Nat} {a1 : Int32} {a2 : Int32} : qEntry 124 [.ref a0, .int a1, .int a2] = [some (.ref a0), some (.int a1), some (.int a2), none, none] := rfl
theorem en_125 {a0 : Nat} {a1 : Int32} {a2 : Int32} : qEntry 125 [.ref a0, .int a1, .int a2] = [some (.ref a0), some (.int a1), some (.int a2)] := rfl
theorem en_126 {a0 : Nat} {a1 : Int32} : qEntry 126 [.ref a0, .int a1] = [some (.ref a0), some (.int a1)] := rfl
theorem en_127 {a0 : Nat} {a1 : Int32} : qEntry 127 [.ref a0, .int a1] = [some (.ref a0), some (.int a1), none, none, none] := rfl
theorem en_128 {a0 : Nat} {a1 : Int32} {a2 : Int32} : qEntry 128 [.ref a0, .int a1, .int a2] = [some (.ref a0), some (.int a1), some (.int a2)] := rfl
theorem en_129 {a0 : Nat} : qEntry 129 [.ref a0] = [some (.ref a0), none, none] := rfl
theorem en_130 {a0 : Nat} : qEntry 130 [.ref a0] = [some (.ref a0)] := rfl
theorem en_131 {a0 : Nat} {a1 : Int32} {a2 : Int32} : qEntry 131 [.ref a0, .int a1, .int a2] = [some (.ref a0), some (.int a1), some (.int a2), none, none] := rfl
theorem en_132 {a0 : Nat} : qEntry 132 [.ref a0] = [some (.ref a0)] := rfl
theorem en_133 {a0 : Nat} {a1 : Int32} {a2 : Int32} : qEntry 133 [.ref a0, .int a1, .int a2] = [some (.ref a0), some (.int a1), some (.int a2), none] := rfl
theorem en_134 {a0 : Int64} {a1 : Int32} : qEntry 134 [.long a0, .int a1] = [some (.long a0), none, some (.int a1)] := rfl
theorem en_135 {a0 : Int64} : qEntry 135 [.long a0] = [some (.long a0), none, none, none] := rfl
theorem en_136 {a0 : Nat} {a1 : Int64} : qEntry 136 [.ref a0, .long a1] = [some (.ref a0), some (.long a1), none, none, none] := rfl
theorem en_137 {a0 : Nat} : qEntry 137 [.ref a0] = [some (.ref a0), none] := rfl
theorem en_138 {a0 : Nat} {a1 : Int32} {a2 : Int32} : qEntry 138 [.ref a0, .int a1, .int a2] = [some (.ref a0), some (.int a1), some (.int a2)] := rfl
theorem en_139 {a0 : Nat} {a1 : Int32} : qEntry 139 [.ref a0, .int a1] = [some (.ref a0), some (.int a1), none] := rfl
theorem en_140 {a0 : Nat} {a1 : Int32} : qEntry 140 [.ref a0, .int a1] = [some (.ref a0), some (.int a1), none] := rfl
theorem en_141 {a0 : Nat} {a1 : Int32} : qEntry 141 [.ref a0, .int a1] = [some (.ref a0), some (.int a1)] := rfl
theorem en_142 {a0 : Nat} : qEntry 142 [.ref a0] = [some (.ref a0), none] := rfl
theorem en_143 {a0 : Nat} : qEntry 143 [.ref a0] = [some (.ref a0), none] := rfl
theorem en_144 {a0 : Nat} : qEntry 144 [.ref a0] = [some (.ref a0)] := rfl
theorem en_145 {a0 : Nat} {a1 : Int32} {a2 : Int32} {a3 : Int32} {a4 : Int32} : qEntry 145 [.ref a0, .int a1, .int a2, .int a3, .int a4] = [some (.ref a0), some (.int a1), some (.int a2), some (.int a3), some (.int a4)] := rfl
theorem en_146 {a0 : Nat} {a1 : Int32} : qEntry 146 [.ref a0, .int a1] = [some (.ref a0), some (.int a1), none, none, none, none] := rfl
theorem en_147 {a0 : Nat} : qEntry 147 [.ref a0] = [some (.ref a0), none] := rfl
theorem i_add3 (a b c : Nat) : nI a + nI 11 * nI b + nI c = nI (a + 11 * b + c) := by rw [pk_mul, nI_add, nI_add]
theorem s_87 {v lo hi : Int32} {M : qHp} : qRun 87 [.int v, .int lo, .int hi] M = some (some (.int (bI (lo ≤ v ∧ v ≤ hi))), M) := by
  refine qRun_of ?_ rfl
  rw [en_87]
  unfold bI
  by_cases h1 : v < lo
  · have h2 : ¬ (lo ≤ v ∧ v ≤ hi) := fun q => absurd q.1 (Int32.not_le.mpr h1)
    simp [x_87_0, x_87_1, x_87_2, x_87_5, x_87_6, x_87_7, x_87_10, x_87_11, x_87_14, x_87_15, h1, h2]
  · by_cases h3 : hi < v
    · have h2 : ¬ (lo ≤ v ∧ v ≤ hi) := fun q => absurd q.2 (Int32.not_le.mpr h3)
      simp [x_87_0, x_87_1, x_87_2, x_87_5, x_87_6, x_87_7, x_87_10, x_87_11, x_87_14, x_87_15, h1, h2, h3]
    · have h2 : lo ≤ v ∧ v ≤ hi := ⟨Int32.not_lt.mp h1, Int32.not_lt.mp h3⟩
      simp [x_87_0, x_87_1, x_87_2, x_87_5, x_87_6, x_87_7, x_87_10, x_87_11, x_87_14, x_87_15, h1, h2, h3]
theorem s_88 {M : qHp} {a b w : Nat} {s : Sg} (hb : b < 40) (hw : w < 11) : qRun 88 [.ref a, .int (nI b), .int (nI w)] (mW M a s) = some (some (.int (s (11 + b) w)), mW M a s) := by
  refine qRun_of ?_ rfl
  rw [en_88]
  have h : hLI (mW M a s) a (200 + 11 * nI b + nI w) = some (.int (s (11 + b) w)) := ml (k := 200 + 11 * b + w) (by omega) (loc_b hw) (i_add3 200 b w)
  simp only [x_88_0, x_88_1, x_88_4, x_88_6, x_88_7, x_88_8, x_88_9, x_88_10, x_88_11, x_88_12, Option.bind_some, Option.bind_none, Option.toList_some, Option.toList_none, List.cons_append, List.nil_append, pNl_i, pNl_r, pNl_u, pNl_n, bI_0, bI_1, nn_or, or_nn, not_false_eq_true, not_true_eq_false, i1000, i1e0, true_or, or_true, Decidable.not_not, if_true, if_false, Bool.false_eq_true, Int32.zero_add, true_and, and_true, h]
theorem s_89 {M : qHp} {a b w : Nat} {v : Int32} {s : Sg} (hb : b < 40) (hw : w < 11) : qRun 89 [.ref a, .int (nI b), .int (nI w), .int v] (mW M a s) = some (none, mW M a (u2 s (11 + b) w v)) := by
  refine qRun_of ?_ rfl
  rw [en_89]
  have h : hS (mW M a s) 8 a (200 + 11 * nI b + nI w) (.int v) = some (mW M a (u2 s (11 + b) w v)) := ms (k := 200 + 11 * b + w) (by omega) (loc_b hw) (i_add3 200 b w)
  simp only [x_89_0, x_89_1, x_89_4, x_89_6, x_89_7, x_89_8, x_89_9, x_89_10, x_89_11, x_89_12, x_89_13, Option.bind_some, Option.bind_none, Option.toList_some, Option.toList_none, List.cons_append, List.nil_append, pNl_i, pNl_r, pNl_u, pNl_n, bI_0, bI_1, nn_or, or_nn, not_false_eq_true, not_true_eq_false, i1000, i1e0, true_or, or_true, Decidable.not_not, if_true, if_false, Bool.false_eq_true, Int32.zero_add, true_and, and_true, h]
theorem s_90 {v : Int32} {M : qHp} : qRun 90 [.int v] M = some (some (.int (bI (0 ≤ v ∧ v ≤ 2))), M) := by
  refine qRun_of ?_ rfl
  rw [en_90]
  simp only [x_90_0, x_90_1, x_90_2, x_90_3, x_90_6, Option.bind_some, Option.bind_none, Option.toList_some, Option.toList_none, List.cons_append, List.nil_append, pNl_i, pNl_r, pNl_u, pNl_n, bI_0, bI_1, nn_or, or_nn, not_false_eq_true, not_true_eq_false, i1000, i1e0, true_or, or_true, Decidable.not_not, if_true, if_false, Bool.false_eq_true, Int32.zero_add, true_and, and_true, s_87]
theorem s_91 {v : Int32} {M : qHp} : qRun 91 [.int v] M = some (some (.int (bI (0 ≤ v ∧ v ≤ 7))), M) := by
  refine qRun_of ?_ rfl
  rw [en_91]
  simp only [x_91_0, x_91_1, x_91_2, x_91_4, x_91_7, Option.bind_some, Option.bind_none, Option.toList_some, Option.toList_none, List.cons_append, List.nil_append, pNl_i, pNl_r, pNl_u, pNl_n, bI_0, bI_1, nn_or, or_nn, not_false_eq_true, not_true_eq_false, i1000, i1e0, true_or, or_true, Decidable.not_not, if_true, if_false, Bool.false_eq_true, Int32.zero_add, true_and, and_true, s_87]
theorem s_111 {t v : Int32} {M : qHp} : qRun 111 [.int t, .int v] M = some (some (.int (bI (if t = 0 then 0 ≤ v ∧ v ≤ 30 else if t = 1 then 0 ≤ v ∧ v ≤ 500 else if t = 2 then 0 ≤ v ∧ v ≤ 20 else if t = 3 then 1 ≤ v ∧ v ≤ 50 else if t = 4 then 0 ≤ v ∧ v ≤ 1440 else if t = 5 then 0 ≤ v ∧ v ≤ 1 else 1 ≤ v ∧ v ≤ 100))), M) := by
  refine qRun_of ?_ rfl
  rw [en_111]
  simp only [x_111_0, x_111_1, x_111_40, x_111_41, x_111_42, x_111_44, x_111_47, x_111_48, x_111_49, x_111_50, x_111_53, x_111_56, x_111_57, x_111_58, x_111_59, x_111_61, x_111_64, x_111_65, x_111_66, x_111_67, x_111_69, x_111_72, x_111_73, x_111_74, x_111_75, x_111_78, x_111_81, x_111_82, x_111_83, x_111_84, x_111_85, x_111_88, x_111_89, x_111_90, x_111_91, x_111_93, x_111_96, Option.bind_some, Option.bind_none, Option.toList_some, Option.toList_none, List.cons_append, List.nil_append, pNl_i, pNl_r, pNl_u, pNl_n, bI_0, bI_1, nn_or, or_nn, not_false_eq_true, not_true_eq_false, i1000, i1e0, true_or, or_true, Decidable.not_not, if_true, if_false, Bool.false_eq_true, Int32.zero_add, true_and, and_true, s_87]
  repeat' split
  all_goals rfl
