/-! The cells; the ranges of their ints. (printed by wip/p41/gen/words.py) -/
def ac_ty (cA : Nat → ClassId) : List (ClassId × FieldType) := [(cA 0, .int), (cA 1, .byte), (cA 2, .long), (cA 3, .boolean), (cA 4, .object "WellPromises$Image")]
def TT (nF : Nat) : List ac_T := [.inl (11, [(2, 1), (2, 4), (2, 13), (2, 22), (2, 24), (2, 29), (2, 32), (2, 38), (2, 39), (2, 43), (2, 47), (2, 51), (2, 52), (0, 0), (0, 0)]), .inl (10, [(2, 2), (2, 3), (0, 0), (0, 0), (0, 0), (0, 0), (0, 0), (1, 0), (0, 0), (0, 0), (0, 0), (0, 0)]), .inr (1, 940, 0), .inr (2, 27, 2), .inl (2, [(0, 0), (0, 0), (0, 0), (0, 0), (0, 0), (0, 0), (0, 0), (0, 0), (0, 0), (2, 5), (2, 6), (2, 7), (2, 8), (2, 9), (2, 10), (2, 11), (2, 12)]), .inr (0, 8, 0), .inr (0, 6, 0), .inr (0, 4, 0), .inr (0, 64, 0), .inr (0, 8, 0), .inr (2, 26, 1), .inr (0, 26, 0), .inr (0, 26, 0), .inl (2, [(0, 0), (0, 0), (0, 0), (0, 0), (0, 0), (0, 0), (0, 0), (0, 0), (0, 0), (2, 14), (2, 15), (2, 16), (2, 17), (2, 18), (2, 19), (2, 20), (2, 21)]), .inr (0, 8, 0), .inr (0, 6, 0), .inr (0, 4, 0), .inr (0, 64, 0), .inr (0, 8, 0), .inr (2, 26, 1), .inr (0, 26, 0), .inr (0, 26, 0), .inl (3, [(2, 1), (2, 13), (2, 23), (0, 0), (0, 0)]), .inr (0, 8, 0), .inl (6, [(2, 4), (2, 25), (2, 26), (2, 27), (2, 28), (0, 0), (0, 0)]), .inr (0, 31, 0), .inr (0, 320, 0), .inr (0, 31, 0), .inr (0, 248, 0), .inl (5, [(2, 4), (2, 24), (2, 30), (2, 31), (0, 0), (0, 0), (0, 0)]), .inr (0, 20, 0), .inr (0, 20, 0), .inl (7, [(2, 4), (2, 24), (2, 29), (2, 33), (2, 34), (2, 35), (2, 36), (2, 37), (0, 0), (0, 0), (0, 0), (0, 0), (0, 0), (0, 0)]), .inr (0, 4, 0), .inr (0, 4, 0), .inr (0, 256, 0), .inr (0, 24, 0), .inr (1, nF, 0), .inl (1, [(2, 4), (2, 24), (0, 0)]), .inl (0, [(2, 1), (2, 4), (2, 24), (2, 40), (2, 41), (2, 42), (0, 0), (0, 0), (0, 0), (0, 0)]), .inr (0, 40, 0), .inr (0, 40, 0), .inr (0, 40, 0), .inl (8, [(2, 44), (2, 45), (2, 46), (0, 0), (0, 0)]), .inr (0, 40, 0), .inr (0, 40, 0), .inr (0, 40, 0), .inl (8, [(2, 48), (2, 49), (2, 50), (0, 0), (0, 0)]), .inr (0, 40, 0), .inr (0, 40, 0), .inr (0, 40, 0), .inl (9, [(2, 1), (2, 4), (2, 47)]), .inr (4, 2, 57), .inl (4, [(2, 55), (2, 73), (2, 81), (2, 82), (0, 0)]), .inl (4, [(2, 64), (2, 77), (2, 83), (2, 84), (0, 0)]), .inl (2, [(0, 0), (0, 0), (0, 0), (0, 0), (0, 0), (0, 0), (0, 0), (0, 0), (0, 0), (2, 56), (2, 57), (2, 58), (2, 59), (2, 60), (2, 61), (2, 62), (2, 63)]), .inr (0, 8, 0), .inr (0, 6, 0), .inr (0, 4, 0), .inr (0, 64, 0), .inr (0, 8, 0), .inr (2, 26, 1), .inr (0, 26, 0), .inr (0, 26, 0), .inl (2, [(0, 0), (0, 0), (0, 0), (0, 0), (0, 0), (0, 0), (0, 0), (0, 0), (0, 0), (2, 65), (2, 66), (2, 67), (2, 68), (2, 69), (2, 70), (2, 71), (2, 72)]), .inr (0, 8, 0), .inr (0, 6, 0), .inr (0, 4, 0), .inr (0, 64, 0), .inr (0, 8, 0), .inr (2, 26, 1), .inr (0, 26, 0), .inr (0, 26, 0), .inl (8, [(2, 74), (2, 75), (2, 76), (0, 0), (0, 0)]), .inr (0, 40, 0), .inr (0, 40, 0), .inr (0, 40, 0), .inl (8, [(2, 78), (2, 79), (2, 80), (0, 0), (0, 0)]), .inr (0, 40, 0), .inr (0, 40, 0), .inr (0, 40, 0), .inr (0, 31, 0), .inr (0, 320, 0), .inr (0, 31, 0), .inr (0, 320, 0), .inl (12, [(0, 0), (2, 86), (0, 0), (0, 0), (0, 0), (0, 0), (2, 87), (2, 88), (2, 89), (2, 90), (2, 91), (0, 0), (0, 0), (0, 0), (0, 0), (0, 0), (0, 0), (1, 0), (0, 0), (0, 0), (0, 0), (2, 92), (2, 93), (2, 94), (0, 0), (2, 95), (2, 96), (2, 97), (0, 0), (0, 0), (0, 0), (2, 98), (0, 0), (0, 0), (0, 0), (0, 0), (2, 99), (0, 0), (2, 100), (0, 0), (0, 0), (0, 0), (0, 0), (0, 0), (2, 101), (2, 102), (2, 103), (2, 104)]), .inr (1, 940, 0), .inr (0, 657, 0), .inr (0, 106, 0), .inr (0, 135, 0), .inr (2, 52, 1), .inr (2, 27, 3), .inr (0, 8, 0), .inr (0, 2960, 0), .inr (0, 370, 0), .inr (0, 51200, 0), .inr (0, 4, 0), .inr (0, 24, 0), .inr (0, 6, 0), .inr (0, 4, 0), .inr (0, 45, 0), .inr (3, 45, 0), .inr (0, 1314, 0), .inr (2, 52, 1), .inr (3, 2, 0)]
theorem tc_0 {nF : Nat} : (TT nF)[0]? = some (.inl (11, [(2, 1), (2, 4), (2, 13), (2, 22), (2, 24), (2, 29), (2, 32), (2, 38), (2, 39), (2, 43), (2, 47), (2, 51), (2, 52), (0, 0), (0, 0)])) := rfl
theorem tc_1 {nF : Nat} : (TT nF)[1]? = some (.inl (10, [(2, 2), (2, 3), (0, 0), (0, 0), (0, 0), (0, 0), (0, 0), (1, 0), (0, 0), (0, 0), (0, 0), (0, 0)])) := rfl
theorem tc_2 {nF : Nat} : (TT nF)[2]? = some (.inr (1, 940, 0)) := rfl
theorem tc_3 {nF : Nat} : (TT nF)[3]? = some (.inr (2, 27, 2)) := rfl
theorem tc_4 {nF : Nat} : (TT nF)[4]? = some (.inl (2, [(0, 0), (0, 0), (0, 0), (0, 0), (0, 0), (0, 0), (0, 0), (0, 0), (0, 0), (2, 5), (2, 6), (2, 7), (2, 8), (2, 9), (2, 10), (2, 11), (2, 12)])) := rfl
theorem tc_5 {nF : Nat} : (TT nF)[5]? = some (.inr (0, 8, 0)) := rfl
theorem tc_6 {nF : Nat} : (TT nF)[6]? = some (.inr (0, 6, 0)) := rfl
theorem tc_7 {nF : Nat} : (TT nF)[7]? = some (.inr (0, 4, 0)) := rfl
theorem tc_8 {nF : Nat} : (TT nF)[8]? = some (.inr (0, 64, 0)) := rfl
theorem tc_9 {nF : Nat} : (TT nF)[9]? = some (.inr (0, 8, 0)) := rfl
theorem tc_10 {nF : Nat} : (TT nF)[10]? = some (.inr (2, 26, 1)) := rfl
theorem tc_11 {nF : Nat} : (TT nF)[11]? = some (.inr (0, 26, 0)) := rfl
theorem tc_12 {nF : Nat} : (TT nF)[12]? = some (.inr (0, 26, 0)) := rfl
theorem tc_13 {nF : Nat} : (TT nF)[13]? = some (.inl (2, [(0, 0), (0, 0), (0, 0), (0, 0), (0, 0), (0, 0), (0, 0), (0, 0), (0, 0), (2, 14), (2, 15), (2, 16), (2, 17), (2, 18), (2, 19), (2, 20), (2, 21)])) := rfl
theorem tc_14 {nF : Nat} : (TT nF)[14]? = some (.inr (0, 8, 0)) := rfl
theorem tc_15 {nF : Nat} : (TT nF)[15]? = some (.inr (0, 6, 0)) := rfl
theorem tc_16 {nF : Nat} : (TT nF)[16]? = some (.inr (0, 4, 0)) := rfl
theorem tc_17 {nF : Nat} : (TT nF)[17]? = some (.inr (0, 64, 0)) := rfl
theorem tc_18 {nF : Nat} : (TT nF)[18]? = some (.inr (0, 8, 0)) := rfl
theorem tc_19 {nF : Nat} : (TT nF)[19]? = some (.inr (2, 26, 1)) := rfl
theorem tc_20 {nF : Nat} : (TT nF)[20]? = some (.inr (0, 26, 0)) := rfl
theorem tc_21 {nF : Nat} : (TT nF)[21]? = some (.inr (0, 26, 0)) := rfl
theorem tc_22 {nF : Nat} : (TT nF)[22]? = some (.inl (3, [(2, 1), (2, 13), (2, 23), (0, 0), (0, 0)])) := rfl
theorem tc_23 {nF : Nat} : (TT nF)[23]? = some (.inr (0, 8, 0)) := rfl
theorem tc_24 {nF : Nat} : (TT nF)[24]? = some (.inl (6, [(2, 4), (2, 25), (2, 26), (2, 27), (2, 28), (0, 0), (0, 0)])) := rfl
theorem tc_25 {nF : Nat} : (TT nF)[25]? = some (.inr (0, 31, 0)) := rfl
theorem tc_26 {nF : Nat} : (TT nF)[26]? = some (.inr (0, 320, 0)) := rfl
theorem tc_27 {nF : Nat} : (TT nF)[27]? = some (.inr (0, 31, 0)) := rfl
theorem tc_28 {nF : Nat} : (TT nF)[28]? = some (.inr (0, 248, 0)) := rfl
theorem tc_29 {nF : Nat} : (TT nF)[29]? = some (.inl (5, [(2, 4), (2, 24), (2, 30), (2, 31), (0, 0), (0, 0), (0, 0)])) := rfl
theorem tc_30 {nF : Nat} : (TT nF)[30]? = some (.inr (0, 20, 0)) := rfl
theorem tc_31 {nF : Nat} : (TT nF)[31]? = some (.inr (0, 20, 0)) := rfl
theorem tc_32 {nF : Nat} : (TT nF)[32]? = some (.inl (7, [(2, 4), (2, 24), (2, 29), (2, 33), (2, 34), (2, 35), (2, 36), (2, 37), (0, 0), (0, 0), (0, 0), (0, 0), (0, 0), (0, 0)])) := rfl
theorem tc_33 {nF : Nat} : (TT nF)[33]? = some (.inr (0, 4, 0)) := rfl
theorem tc_34 {nF : Nat} : (TT nF)[34]? = some (.inr (0, 4, 0)) := rfl
theorem tc_35 {nF : Nat} : (TT nF)[35]? = some (.inr (0, 256, 0)) := rfl
theorem tc_36 {nF : Nat} : (TT nF)[36]? = some (.inr (0, 24, 0)) := rfl
theorem tc_37 {nF : Nat} : (TT nF)[37]? = some (.inr (1, nF, 0)) := rfl
theorem tc_38 {nF : Nat} : (TT nF)[38]? = some (.inl (1, [(2, 4), (2, 24), (0, 0)])) := rfl
theorem tc_39 {nF : Nat} : (TT nF)[39]? = some (.inl (0, [(2, 1), (2, 4), (2, 24), (2, 40), (2, 41), (2, 42), (0, 0), (0, 0), (0, 0), (0, 0)])) := rfl
theorem tc_40 {nF : Nat} : (TT nF)[40]? = some (.inr (0, 40, 0)) := rfl
theorem tc_41 {nF : Nat} : (TT nF)[41]? = some (.inr (0, 40, 0)) := rfl
theorem tc_42 {nF : Nat} : (TT nF)[42]? = some (.inr (0, 40, 0)) := rfl
theorem tc_43 {nF : Nat} : (TT nF)[43]? = some (.inl (8, [(2, 44), (2, 45), (2, 46), (0, 0), (0, 0)])) := rfl
theorem tc_44 {nF : Nat} : (TT nF)[44]? = some (.inr (0, 40, 0)) := rfl
theorem tc_45 {nF : Nat} : (TT nF)[45]? = some (.inr (0, 40, 0)) := rfl
theorem tc_46 {nF : Nat} : (TT nF)[46]? = some (.inr (0, 40, 0)) := rfl
theorem tc_47 {nF : Nat} : (TT nF)[47]? = some (.inl (8, [(2, 48), (2, 49), (2, 50), (0, 0), (0, 0)])) := rfl
theorem tc_48 {nF : Nat} : (TT nF)[48]? = some (.inr (0, 40, 0)) := rfl
theorem tc_49 {nF : Nat} : (TT nF)[49]? = some (.inr (0, 40, 0)) := rfl
theorem tc_50 {nF : Nat} : (TT nF)[50]? = some (.inr (0, 40, 0)) := rfl
theorem tc_51 {nF : Nat} : (TT nF)[51]? = some (.inl (9, [(2, 1), (2, 4), (2, 47)])) := rfl
theorem tc_52 {nF : Nat} : (TT nF)[52]? = some (.inr (4, 2, 57)) := rfl
theorem tc_53 {nF : Nat} : (TT nF)[53]? = some (.inl (4, [(2, 55), (2, 73), (2, 81), (2, 82), (0, 0)])) := rfl
theorem tc_54 {nF : Nat} : (TT nF)[54]? = some (.inl (4, [(2, 64), (2, 77), (2, 83), (2, 84), (0, 0)])) := rfl
theorem tc_55 {nF : Nat} : (TT nF)[55]? = some (.inl (2, [(0, 0), (0, 0), (0, 0), (0, 0), (0, 0), (0, 0), (0, 0), (0, 0), (0, 0), (2, 56), (2, 57), (2, 58), (2, 59), (2, 60), (2, 61), (2, 62), (2, 63)])) := rfl
theorem tc_56 {nF : Nat} : (TT nF)[56]? = some (.inr (0, 8, 0)) := rfl
theorem tc_57 {nF : Nat} : (TT nF)[57]? = some (.inr (0, 6, 0)) := rfl
theorem tc_58 {nF : Nat} : (TT nF)[58]? = some (.inr (0, 4, 0)) := rfl
theorem tc_59 {nF : Nat} : (TT nF)[59]? = some (.inr (0, 64, 0)) := rfl
theorem tc_60 {nF : Nat} : (TT nF)[60]? = some (.inr (0, 8, 0)) := rfl
theorem tc_61 {nF : Nat} : (TT nF)[61]? = some (.inr (2, 26, 1)) := rfl
theorem tc_62 {nF : Nat} : (TT nF)[62]? = some (.inr (0, 26, 0)) := rfl
theorem tc_63 {nF : Nat} : (TT nF)[63]? = some (.inr (0, 26, 0)) := rfl
theorem tc_64 {nF : Nat} : (TT nF)[64]? = some (.inl (2, [(0, 0), (0, 0), (0, 0), (0, 0), (0, 0), (0, 0), (0, 0), (0, 0), (0, 0), (2, 65), (2, 66), (2, 67), (2, 68), (2, 69), (2, 70), (2, 71), (2, 72)])) := rfl
theorem tc_65 {nF : Nat} : (TT nF)[65]? = some (.inr (0, 8, 0)) := rfl
theorem tc_66 {nF : Nat} : (TT nF)[66]? = some (.inr (0, 6, 0)) := rfl
theorem tc_67 {nF : Nat} : (TT nF)[67]? = some (.inr (0, 4, 0)) := rfl
theorem tc_68 {nF : Nat} : (TT nF)[68]? = some (.inr (0, 64, 0)) := rfl
theorem tc_69 {nF : Nat} : (TT nF)[69]? = some (.inr (0, 8, 0)) := rfl
theorem tc_70 {nF : Nat} : (TT nF)[70]? = some (.inr (2, 26, 1)) := rfl
theorem tc_71 {nF : Nat} : (TT nF)[71]? = some (.inr (0, 26, 0)) := rfl
theorem tc_72 {nF : Nat} : (TT nF)[72]? = some (.inr (0, 26, 0)) := rfl
theorem tc_73 {nF : Nat} : (TT nF)[73]? = some (.inl (8, [(2, 74), (2, 75), (2, 76), (0, 0), (0, 0)])) := rfl
theorem tc_74 {nF : Nat} : (TT nF)[74]? = some (.inr (0, 40, 0)) := rfl
theorem tc_75 {nF : Nat} : (TT nF)[75]? = some (.inr (0, 40, 0)) := rfl
theorem tc_76 {nF : Nat} : (TT nF)[76]? = some (.inr (0, 40, 0)) := rfl
theorem tc_77 {nF : Nat} : (TT nF)[77]? = some (.inl (8, [(2, 78), (2, 79), (2, 80), (0, 0), (0, 0)])) := rfl
theorem tc_78 {nF : Nat} : (TT nF)[78]? = some (.inr (0, 40, 0)) := rfl
theorem tc_79 {nF : Nat} : (TT nF)[79]? = some (.inr (0, 40, 0)) := rfl
theorem tc_80 {nF : Nat} : (TT nF)[80]? = some (.inr (0, 40, 0)) := rfl
theorem tc_81 {nF : Nat} : (TT nF)[81]? = some (.inr (0, 31, 0)) := rfl
theorem tc_82 {nF : Nat} : (TT nF)[82]? = some (.inr (0, 320, 0)) := rfl
theorem tc_83 {nF : Nat} : (TT nF)[83]? = some (.inr (0, 31, 0)) := rfl
theorem tc_84 {nF : Nat} : (TT nF)[84]? = some (.inr (0, 320, 0)) := rfl
theorem tc_85 {nF : Nat} : (TT nF)[85]? = some (.inl (12, [(0, 0), (2, 86), (0, 0), (0, 0), (0, 0), (0, 0), (2, 87), (2, 88), (2, 89), (2, 90), (2, 91), (0, 0), (0, 0), (0, 0), (0, 0), (0, 0), (0, 0), (1, 0), (0, 0), (0, 0), (0, 0), (2, 92), (2, 93), (2, 94), (0, 0), (2, 95), (2, 96), (2, 97), (0, 0), (0, 0), (0, 0), (2, 98), (0, 0), (0, 0), (0, 0), (0, 0), (2, 99), (0, 0), (2, 100), (0, 0), (0, 0), (0, 0), (0, 0), (0, 0), (2, 101), (2, 102), (2, 103), (2, 104)])) := rfl
theorem tc_86 {nF : Nat} : (TT nF)[86]? = some (.inr (1, 940, 0)) := rfl
theorem tc_87 {nF : Nat} : (TT nF)[87]? = some (.inr (0, 657, 0)) := rfl
theorem tc_88 {nF : Nat} : (TT nF)[88]? = some (.inr (0, 106, 0)) := rfl
theorem tc_89 {nF : Nat} : (TT nF)[89]? = some (.inr (0, 135, 0)) := rfl
theorem tc_90 {nF : Nat} : (TT nF)[90]? = some (.inr (2, 52, 1)) := rfl
theorem tc_91 {nF : Nat} : (TT nF)[91]? = some (.inr (2, 27, 3)) := rfl
theorem tc_92 {nF : Nat} : (TT nF)[92]? = some (.inr (0, 8, 0)) := rfl
theorem tc_93 {nF : Nat} : (TT nF)[93]? = some (.inr (0, 2960, 0)) := rfl
theorem tc_94 {nF : Nat} : (TT nF)[94]? = some (.inr (0, 370, 0)) := rfl
theorem tc_95 {nF : Nat} : (TT nF)[95]? = some (.inr (0, 51200, 0)) := rfl
theorem tc_96 {nF : Nat} : (TT nF)[96]? = some (.inr (0, 4, 0)) := rfl
theorem tc_97 {nF : Nat} : (TT nF)[97]? = some (.inr (0, 24, 0)) := rfl
theorem tc_98 {nF : Nat} : (TT nF)[98]? = some (.inr (0, 6, 0)) := rfl
theorem tc_99 {nF : Nat} : (TT nF)[99]? = some (.inr (0, 4, 0)) := rfl
theorem tc_100 {nF : Nat} : (TT nF)[100]? = some (.inr (0, 45, 0)) := rfl
theorem tc_101 {nF : Nat} : (TT nF)[101]? = some (.inr (3, 45, 0)) := rfl
theorem tc_102 {nF : Nat} : (TT nF)[102]? = some (.inr (0, 1314, 0)) := rfl
theorem tc_103 {nF : Nat} : (TT nF)[103]? = some (.inr (2, 52, 1)) := rfl
theorem tc_104 {nF : Nat} : (TT nF)[104]? = some (.inr (3, 2, 0)) := rfl
def rgT : Int × Int := (-2147483648, 2147483647)
def rgL : List (Nat → Int × Int) := [fun k => ([rgT, rgT, rgT, rgT, rgT, rgT, rgT, rgT, rgT, rgT, rgT, rgT, rgT, rgT, (0, 1)] : List (Int × Int)).getD k rgT, fun k => ([rgT, rgT, (0, 940), (0, 900), (0, 940), (0, 940), (-128, 127), rgT, rgT, (0, 7), (0, 4), (0, 940)] : List (Int × Int)).getD k rgT, fun _ => (-128, 127), fun _ => rgT, fun k => ([(4, 24), (0, 8), (0, 12), (0, 6), (0, 4), (0, 6), (0, 8), (0, 8), (0, 26), rgT, rgT, rgT, rgT, rgT, rgT, rgT, rgT] : List (Int × Int)).getD k rgT, fun _ => rgT, fun _ => (0, 7), fun _ => (0, 7), fun k => (fun j => if j < 2 then rgT else if j < 3 then (0, 7) else if j < 5 then rgT else if j < 6 then (0, 3) else rgT) (k % 8), fun _ => rgT, fun _ => rgT, fun _ => (0, 3), fun _ => (0, 7), fun k => ([(4, 24), (0, 8), (0, 12), (0, 6), (0, 4), (0, 6), (0, 8), (0, 8), (0, 26), rgT, rgT, rgT, rgT, rgT, rgT, rgT, rgT] : List (Int × Int)).getD k rgT, fun _ => rgT, fun _ => (0, 7), fun _ => (0, 7), fun k => (fun j => if j < 2 then rgT else if j < 3 then (0, 7) else if j < 5 then rgT else if j < 6 then (0, 3) else rgT) (k % 8), fun _ => rgT, fun _ => rgT, fun _ => (0, 3), fun _ => (0, 7), fun k => ([rgT, rgT, rgT, (0, 940), (0, 1)] : List (Int × Int)).getD k rgT, fun k => (fun j => if j < 2 then rgT else if j < 3 then (0, 7) else if j < 5 then rgT else if j < 6 then (0, 3) else rgT) (k % 8), fun k => ([rgT, rgT, rgT, rgT, rgT, (0, 8), (0, 7)] : List (Int × Int)).getD k rgT, fun k => if k < 1 then (0, 480) else if k < 2 then rgT else if k < 3 then (0, 80) else if k < 7 then (0, 7) else if k < 15 then rgT else if k < 23 then (-1, 480) else rgT, fun k => (fun j => if j < 1 then (0, 480) else rgT) (k % 4), fun k => if k < 1 then (0, 480) else if k < 2 then rgT else if k < 3 then (0, 80) else if k < 7 then (0, 7) else if k < 15 then rgT else if k < 23 then (-1, 480) else rgT, fun k => (fun j => if j < 1 then (0, 480) else if j < 2 then rgT else if j < 3 then (0, 80) else if j < 7 then (0, 7) else if j < 15 then rgT else if j < 23 then (-1, 480) else rgT) (k % 31), fun k => ([rgT, rgT, rgT, rgT, rgT, rgT, (0, 121)] : List (Int × Int)).getD k rgT, fun _ => rgT, fun _ => rgT, fun k => ([rgT, rgT, rgT, rgT, rgT, rgT, rgT, rgT, (0, 4), (0, 256), (0, 3), (0, 23), (0, 23), (0, 24)] : List (Int × Int)).getD k rgT, fun _ => (0, 7), fun _ => (0, 3), fun _ => (0, 255), fun _ => rgT, fun _ => (-128, 127), fun _ => rgT, fun k => ([rgT, rgT, rgT, rgT, rgT, rgT, (0, 40), rgT, rgT, rgT] : List (Int × Int)).getD k rgT, fun _ => (-1, 7), fun _ => rgT, fun _ => (0, 99), fun k => ([rgT, rgT, rgT, (0, 40), (0, 20)] : List (Int × Int)).getD k rgT, fun _ => rgT, fun _ => rgT, fun _ => rgT, fun k => ([rgT, rgT, rgT, (0, 40), (0, 20)] : List (Int × Int)).getD k rgT, fun _ => rgT, fun _ => rgT, fun _ => rgT, fun _ => rgT, fun _ => rgT, fun k => ([rgT, rgT, rgT, rgT, (0, 1)] : List (Int × Int)).getD k rgT, fun k => ([rgT, rgT, rgT, rgT, (0, 1)] : List (Int × Int)).getD k rgT, fun k => ([(4, 24), (0, 8), (0, 12), (0, 6), (0, 4), (0, 6), (0, 8), (0, 8), (0, 26), rgT, rgT, rgT, rgT, rgT, rgT, rgT, rgT] : List (Int × Int)).getD k rgT, fun _ => rgT, fun _ => (0, 7), fun _ => (0, 7), fun k => (fun j => if j < 2 then rgT else if j < 3 then (0, 7) else if j < 5 then rgT else if j < 6 then (0, 3) else rgT) (k % 8), fun _ => rgT, fun _ => rgT, fun _ => (0, 3), fun _ => (0, 7), fun k => ([(4, 24), (0, 8), (0, 12), (0, 6), (0, 4), (0, 6), (0, 8), (0, 8), (0, 26), rgT, rgT, rgT, rgT, rgT, rgT, rgT, rgT] : List (Int × Int)).getD k rgT, fun _ => rgT, fun _ => (0, 7), fun _ => (0, 7), fun k => (fun j => if j < 2 then rgT else if j < 3 then (0, 7) else if j < 5 then rgT else if j < 6 then (0, 3) else rgT) (k % 8), fun _ => rgT, fun _ => rgT, fun _ => (0, 3), fun _ => (0, 7), fun k => ([rgT, rgT, rgT, (0, 40), (0, 20)] : List (Int × Int)).getD k rgT, fun _ => rgT, fun _ => rgT, fun _ => rgT, fun k => ([rgT, rgT, rgT, (0, 40), (0, 20)] : List (Int × Int)).getD k rgT, fun _ => rgT, fun _ => rgT, fun _ => rgT, fun k => if k < 1 then (0, 480) else if k < 2 then rgT else if k < 3 then (0, 80) else if k < 7 then (0, 7) else if k < 15 then rgT else if k < 23 then (-1, 480) else rgT, fun k => (fun j => if j < 1 then (0, 480) else rgT) (k % 4), fun k => if k < 1 then (0, 480) else if k < 2 then rgT else if k < 3 then (0, 80) else if k < 7 then (0, 7) else if k < 15 then rgT else if k < 23 then (-1, 480) else rgT, fun k => (fun j => if j < 1 then (0, 480) else rgT) (k % 4), fun k => ([(0, 1), rgT, (0, 940), (0, 940), (0, 940), (0, 900), rgT, rgT, rgT, rgT, rgT, (0, 4), rgT, rgT, rgT, rgT, rgT, rgT, rgT, rgT, (0, 1), rgT, rgT, rgT, (0, 8), rgT, rgT, rgT, (0, 4), (0, 23), (0, 24), rgT, rgT, rgT, rgT, (0, 40), rgT, (0, 1), rgT, (0, 45), (0, 20), (0, 45), rgT, (0, 1), rgT, rgT, rgT, rgT] : List (Int × Int)).getD k rgT, fun _ => (-128, 127), fun k => if k < 1 then (4, 24) else if k < 2 then (0, 8) else if k < 3 then (0, 12) else if k < 4 then (0, 6) else if k < 5 then (0, 4) else if k < 6 then (0, 6) else if k < 7 then (0, 8) else if k < 8 then (0, 8) else if k < 16 then rgT else if k < 22 then (0, 7) else if k < 26 then (0, 7) else if k < 42 then rgT else if k < 50 then (0, 7) else if k < 66 then rgT else if k < 74 then (0, 3) else if k < 106 then rgT else if k < 107 then (0, 480) else if k < 111 then (0, 7) else if k < 123 then rgT else if k < 124 then (0, 80) else if k < 132 then (0, 481) else if k < 476 then rgT else if k < 477 then (0, 45) else rgT, fun k => if k < 1 then (0, 24) else if k < 2 then (0, 8) else if k < 3 then (0, 12) else if k < 4 then (0, 6) else if k < 5 then (0, 4) else if k < 6 then (0, 6) else if k < 7 then (0, 8) else if k < 8 then (0, 8) else if k < 16 then rgT else if k < 22 then (0, 7) else if k < 26 then (0, 7) else if k < 42 then rgT else if k < 50 then (0, 7) else if k < 66 then rgT else if k < 74 then (0, 3) else rgT, fun _ => rgT, fun _ => rgT, fun _ => rgT, fun _ => rgT, fun k => (fun j => if j < 1 then (0, 480) else if j < 5 then (0, 7) else if j < 17 then rgT else if j < 18 then (0, 80) else if j < 26 then (0, 481) else rgT) (k % 370), fun k => if k < 1 then (0, 480) else if k < 5 then (0, 7) else if k < 17 then rgT else if k < 18 then (0, 80) else if k < 26 then (0, 481) else rgT, fun _ => rgT, fun _ => (0, 7), fun _ => rgT, fun _ => rgT, fun _ => rgT, fun _ => rgT, fun _ => (0, 1), fun k => (fun j => if j < 1 then (0, 24) else if j < 2 then (0, 8) else if j < 3 then (0, 12) else if j < 4 then (0, 6) else if j < 5 then (0, 4) else if j < 6 then (0, 6) else if j < 7 then (0, 8) else if j < 8 then (0, 8) else if j < 16 then rgT else if j < 22 then (0, 7) else if j < 26 then (0, 7) else if j < 42 then rgT else if j < 50 then (0, 7) else if j < 66 then rgT else if j < 74 then (0, 3) else if j < 106 then rgT else if j < 107 then (0, 480) else if j < 111 then (0, 7) else if j < 123 then rgT else if j < 124 then (0, 80) else if j < 132 then (0, 481) else if j < 476 then rgT else if j < 477 then (0, 45) else rgT) (k % 657), fun _ => rgT, fun _ => (0, 1)]
def rg (c k : Nat) : Int × Int := (rgL.getD c (fun _ => rgT)) k
theorem i_01 {v : Int32} (h : 0 ≤ v.toInt ∧ v.toInt ≤ 1) : v = 0 ∨ v = 1 := by
  rcases (show v.toInt = 0 ∨ v.toInt = 1 by omega) with h | h
  · exact Or.inl (Int32.toInt_inj.mp h)
  · exact Or.inr (Int32.toInt_inj.mp h)
theorem i_zn {v : Int32} (h : v = 0 ∨ v = 1) : narrow .boolean (.int v) = .int v := by rcases h with h | h <;> rw [h] <;> rfl
theorem i_zf {v : Int32} (h : v = 0 ∨ v = 1) : fits .boolean (.int v) = true := by rcases h with h | h <;> rw [h] <;> rfl
theorem i_znar {v : Int32} (h : v = 0 ∨ v = 1) : vp_nar .boolean v = v := by rcases h with h | h <;> rw [h] <;> rfl
theorem i_min {x y v : Int32} {a b : Int} (hx : x.toInt = a) (hy : y.toInt = b) (h : v = if y < x then y else x) : (v.toInt = a ∨ v.toInt = b) ∧ v.toInt ≤ a ∧ v.toInt ≤ b := by
  subst h
  by_cases q : y < x
  · rw [if_pos q]
    have := (i_lt hy hx).mp q
    omega
  · rw [if_neg q]
    have := Int.not_lt.mp (fun z => q ((i_lt hy hx).mpr z))
    omega
theorem i_max {x y v : Int32} {a b : Int} (hx : x.toInt = a) (hy : y.toInt = b) (h : v = if x < y then y else x) : (v.toInt = a ∨ v.toInt = b) ∧ a ≤ v.toInt ∧ b ≤ v.toInt := by
  subst h
  by_cases q : x < y
  · rw [if_pos q]
    have := (i_lt hx hy).mp q
    omega
  · rw [if_neg q]
    have := Int.not_lt.mp (fun z => q ((i_lt hx hy).mpr z))
    omega
theorem i_mulb {x y a0 a1 b0 b1 : Int} (ha : a0 ≤ x ∧ x ≤ a1) (hb : b0 ≤ y ∧ y ≤ b1) (h0 : 0 ≤ a0 ∧ 0 ≤ b0) : a0 * b0 ≤ x * y ∧ x * y ≤ a1 * b1 :=
  ⟨Int.le_trans (Int.mul_le_mul_of_nonneg_right ha.1 h0.2) (Int.mul_le_mul_of_nonneg_left hb.1 (by omega)), Int.le_trans (Int.mul_le_mul_of_nonneg_right ha.2 (by omega)) (Int.mul_le_mul_of_nonneg_left hb.2 (by omega))⟩
theorem ic_m2 : (-2 : Int32).toInt = -2 := by decide
theorem ic_m1 : (-1 : Int32).toInt = -1 := by decide
theorem ic_0 : (0 : Int32).toInt = 0 := by decide
theorem ic_1 : (1 : Int32).toInt = 1 := by decide
theorem ic_2 : (2 : Int32).toInt = 2 := by decide
theorem ic_3 : (3 : Int32).toInt = 3 := by decide
theorem ic_4 : (4 : Int32).toInt = 4 := by decide
theorem ic_5 : (5 : Int32).toInt = 5 := by decide
theorem ic_6 : (6 : Int32).toInt = 6 := by decide
theorem ic_7 : (7 : Int32).toInt = 7 := by decide
theorem ic_8 : (8 : Int32).toInt = 8 := by decide
theorem ic_9 : (9 : Int32).toInt = 9 := by decide
theorem ic_10 : (10 : Int32).toInt = 10 := by decide
theorem ic_11 : (11 : Int32).toInt = 11 := by decide
theorem ic_12 : (12 : Int32).toInt = 12 := by decide
theorem ic_13 : (13 : Int32).toInt = 13 := by decide
theorem ic_14 : (14 : Int32).toInt = 14 := by decide
theorem ic_15 : (15 : Int32).toInt = 15 := by decide
theorem ic_16 : (16 : Int32).toInt = 16 := by decide
theorem ic_17 : (17 : Int32).toInt = 17 := by decide
theorem ic_18 : (18 : Int32).toInt = 18 := by decide
theorem ic_19 : (19 : Int32).toInt = 19 := by decide
theorem ic_20 : (20 : Int32).toInt = 20 := by decide
theorem ic_21 : (21 : Int32).toInt = 21 := by decide
theorem ic_22 : (22 : Int32).toInt = 22 := by decide
theorem ic_23 : (23 : Int32).toInt = 23 := by decide
theorem ic_24 : (24 : Int32).toInt = 24 := by decide
theorem ic_25 : (25 : Int32).toInt = 25 := by decide
theorem ic_26 : (26 : Int32).toInt = 26 := by decide
theorem ic_27 : (27 : Int32).toInt = 27 := by decide
theorem ic_30 : (30 : Int32).toInt = 30 := by decide
theorem ic_31 : (31 : Int32).toInt = 31 := by decide
theorem ic_32 : (32 : Int32).toInt = 32 := by decide
theorem ic_34 : (34 : Int32).toInt = 34 := by decide
theorem ic_38 : (38 : Int32).toInt = 38 := by decide
theorem ic_40 : (40 : Int32).toInt = 40 := by decide
theorem ic_41 : (41 : Int32).toInt = 41 := by decide
theorem ic_42 : (42 : Int32).toInt = 42 := by decide
theorem ic_44 : (44 : Int32).toInt = 44 := by decide
theorem ic_48 : (48 : Int32).toInt = 48 := by decide
theorem ic_50 : (50 : Int32).toInt = 50 := by decide
theorem ic_57 : (57 : Int32).toInt = 57 := by decide
theorem ic_58 : (58 : Int32).toInt = 58 := by decide
theorem ic_59 : (59 : Int32).toInt = 59 := by decide
theorem ic_60 : (60 : Int32).toInt = 60 := by decide
theorem ic_61 : (61 : Int32).toInt = 61 := by decide
theorem ic_62 : (62 : Int32).toInt = 62 := by decide
theorem ic_63 : (63 : Int32).toInt = 63 := by decide
theorem ic_64 : (64 : Int32).toInt = 64 := by decide
theorem ic_66 : (66 : Int32).toInt = 66 := by decide
theorem ic_74 : (74 : Int32).toInt = 74 := by decide
theorem ic_80 : (80 : Int32).toInt = 80 := by decide
theorem ic_82 : (82 : Int32).toInt = 82 := by decide
theorem ic_90 : (90 : Int32).toInt = 90 := by decide
theorem ic_97 : (97 : Int32).toInt = 97 := by decide
theorem ic_98 : (98 : Int32).toInt = 98 := by decide
theorem ic_99 : (99 : Int32).toInt = 99 := by decide
theorem ic_100 : (100 : Int32).toInt = 100 := by decide
theorem ic_106 : (106 : Int32).toInt = 106 := by decide
theorem ic_107 : (107 : Int32).toInt = 107 := by decide
theorem ic_108 : (108 : Int32).toInt = 108 := by decide
theorem ic_111 : (111 : Int32).toInt = 111 := by decide
theorem ic_113 : (113 : Int32).toInt = 113 := by decide
theorem ic_114 : (114 : Int32).toInt = 114 := by decide
theorem ic_115 : (115 : Int32).toInt = 115 := by decide
theorem ic_116 : (116 : Int32).toInt = 116 := by decide
theorem ic_119 : (119 : Int32).toInt = 119 := by decide
theorem ic_122 : (122 : Int32).toInt = 122 := by decide
theorem ic_123 : (123 : Int32).toInt = 123 := by decide
theorem ic_124 : (124 : Int32).toInt = 124 := by decide
theorem ic_126 : (126 : Int32).toInt = 126 := by decide
theorem ic_132 : (132 : Int32).toInt = 132 := by decide
theorem ic_140 : (140 : Int32).toInt = 140 := by decide
theorem ic_148 : (148 : Int32).toInt = 148 := by decide
theorem ic_199 : (199 : Int32).toInt = 199 := by decide
theorem ic_200 : (200 : Int32).toInt = 200 := by decide
theorem ic_255 : (255 : Int32).toInt = 255 := by decide
theorem ic_256 : (256 : Int32).toInt = 256 := by decide
theorem ic_320 : (320 : Int32).toInt = 320 := by decide
theorem ic_370 : (370 : Int32).toInt = 370 := by decide
theorem ic_476 : (476 : Int32).toInt = 476 := by decide
theorem ic_477 : (477 : Int32).toInt = 477 := by decide
theorem ic_657 : (657 : Int32).toInt = 657 := by decide
theorem ic_940 : (940 : Int32).toInt = 940 := by decide
theorem ic_1000 : (1000 : Int32).toInt = 1000 := by decide
theorem ic_2048 : (2048 : Int32).toInt = 2048 := by decide
theorem ic_2590 : (2590 : Int32).toInt = 2590 := by decide
theorem ic_51200 : (51200 : Int32).toInt = 51200 := by decide
theorem ic_252645135 : (252645135 : Int32).toInt = 252645135 := by decide
theorem ic_858993459 : (858993459 : Int32).toInt = 858993459 := by decide
theorem ic_1431655765 : (1431655765 : Int32).toInt = 1431655765 := by decide
