/-! The template with the names that stay. (printed by wip/tn/tn.py) -/
def TN (nF : Nat) : List ac_T := [.inl (11, [(2, 1), (2, 4), (2, 13), (2, 22), (2, 24), (2, 29), (2, 32), (2, 38), (2, 39), (2, 43), (2, 47), (2, 51), (2, 52), (0, 0), (0, 0)]), .inl (10, [(2, 2), (2, 3), (0, 0), (0, 0), (0, 0), (0, 0), (0, 0), (1, 0), (0, 0), (0, 0), (0, 0), (0, 0)]), .inr (1, 940, 0), .inr (2, 27, 2), .inl (2, [(0, 0), (0, 0), (0, 0), (0, 0), (0, 0), (0, 0), (0, 0), (0, 0), (0, 0), (2, 5), (2, 6), (2, 7), (2, 8), (2, 9), (2, 10), (2, 11), (2, 12)]), .inr (0, 8, 0), .inr (0, 6, 0), .inr (0, 4, 0), .inr (0, 64, 0), .inr (0, 8, 0), .inr (2, 26, 4), .inr (0, 26, 0), .inr (0, 26, 0), .inl (2, [(0, 0), (0, 0), (0, 0), (0, 0), (0, 0), (0, 0), (0, 0), (0, 0), (0, 0), (2, 14), (2, 15), (2, 16), (2, 17), (2, 18), (2, 19), (2, 20), (2, 21)]), .inr (0, 8, 0), .inr (0, 6, 0), .inr (0, 4, 0), .inr (0, 64, 0), .inr (0, 8, 0), .inr (2, 26, 1), .inr (0, 26, 0), .inr (0, 26, 0), .inl (3, [(2, 1), (2, 13), (2, 23), (0, 0), (0, 0)]), .inr (0, 8, 0), .inl (6, [(2, 4), (2, 25), (2, 26), (2, 27), (2, 28), (0, 0), (0, 0)]), .inr (0, 31, 0), .inr (0, 320, 0), .inr (0, 31, 0), .inr (0, 248, 0), .inl (5, [(2, 4), (2, 24), (2, 30), (2, 31), (0, 0), (0, 0), (0, 0)]), .inr (0, 20, 0), .inr (0, 20, 0), .inl (7, [(2, 4), (2, 24), (2, 29), (2, 33), (2, 34), (2, 35), (2, 36), (2, 37), (0, 0), (0, 0), (0, 0), (0, 0), (0, 0), (0, 0)]), .inr (0, 4, 0), .inr (0, 4, 0), .inr (0, 256, 0), .inr (0, 24, 0), .inr (1, nF, 0), .inl (1, [(2, 4), (2, 24), (0, 0)]), .inl (0, [(2, 1), (2, 4), (2, 24), (2, 40), (2, 41), (2, 42), (0, 0), (0, 0), (0, 0), (0, 0)]), .inr (0, 40, 0), .inr (0, 40, 0), .inr (0, 40, 0), .inl (8, [(2, 44), (2, 45), (2, 46), (0, 0), (0, 0)]), .inr (0, 40, 0), .inr (0, 40, 0), .inr (0, 40, 0), .inl (8, [(2, 48), (2, 49), (2, 50), (0, 0), (0, 0)]), .inr (0, 40, 0), .inr (0, 40, 0), .inr (0, 40, 0), .inl (9, [(2, 1), (2, 4), (2, 47)]), .inr (4, 2, 62), .inl (4, [(2, 55), (2, 73), (2, 81), (2, 82), (0, 0)]), .inl (4, [(2, 64), (2, 77), (2, 83), (2, 84), (0, 0)]), .inl (2, [(0, 0), (0, 0), (0, 0), (0, 0), (0, 0), (0, 0), (0, 0), (0, 0), (0, 0), (2, 56), (2, 57), (2, 58), (2, 59), (2, 60), (2, 61), (2, 62), (2, 63)]), .inr (0, 8, 0), .inr (0, 6, 0), .inr (0, 4, 0), .inr (0, 64, 0), .inr (0, 8, 0), .inr (2, 26, 5), .inr (0, 26, 0), .inr (0, 26, 0), .inl (2, [(0, 0), (0, 0), (0, 0), (0, 0), (0, 0), (0, 0), (0, 0), (0, 0), (0, 0), (2, 65), (2, 66), (2, 67), (2, 68), (2, 69), (2, 70), (2, 71), (2, 72)]), .inr (0, 8, 0), .inr (0, 6, 0), .inr (0, 4, 0), .inr (0, 64, 0), .inr (0, 8, 0), .inr (2, 26, 6), .inr (0, 26, 0), .inr (0, 26, 0), .inl (8, [(2, 74), (2, 75), (2, 76), (0, 0), (0, 0)]), .inr (0, 40, 0), .inr (0, 40, 0), .inr (0, 40, 0), .inl (8, [(2, 78), (2, 79), (2, 80), (0, 0), (0, 0)]), .inr (0, 40, 0), .inr (0, 40, 0), .inr (0, 40, 0), .inr (0, 31, 0), .inr (0, 320, 0), .inr (0, 31, 0), .inr (0, 320, 0), .inl (12, [(0, 0), (2, 86), (0, 0), (0, 0), (0, 0), (0, 0), (2, 87), (2, 88), (2, 89), (2, 90), (2, 91), (0, 0), (0, 0), (0, 0), (0, 0), (0, 0), (0, 0), (1, 0), (0, 0), (0, 0), (0, 0), (2, 92), (2, 93), (2, 94), (0, 0), (2, 95), (2, 96), (2, 97), (0, 0), (0, 0), (0, 0), (2, 98), (0, 0), (0, 0), (0, 0), (0, 0), (2, 99), (0, 0), (2, 100), (0, 0), (0, 0), (0, 0), (0, 0), (0, 0), (2, 101), (2, 102), (2, 103), (2, 104)]), .inr (1, 940, 0), .inr (0, 657, 0), .inr (0, 106, 0), .inr (0, 135, 0), .inr (2, 52, 7), .inr (2, 27, 3), .inr (0, 8, 0), .inr (0, 2960, 0), .inr (0, 370, 0), .inr (0, 51200, 0), .inr (0, 4, 0), .inr (0, 24, 0), .inr (0, 6, 0), .inr (0, 4, 0), .inr (0, 45, 0), .inr (3, 45, 0), .inr (0, 1314, 0), .inr (2, 52, 8), .inr (3, 2, 0)]
theorem tn_0 {nF : Nat} : (TN nF)[0]? = some (.inl (11, [(2, 1), (2, 4), (2, 13), (2, 22), (2, 24), (2, 29), (2, 32), (2, 38), (2, 39), (2, 43), (2, 47), (2, 51), (2, 52), (0, 0), (0, 0)])) := rfl
theorem tn_1 {nF : Nat} : (TN nF)[1]? = some (.inl (10, [(2, 2), (2, 3), (0, 0), (0, 0), (0, 0), (0, 0), (0, 0), (1, 0), (0, 0), (0, 0), (0, 0), (0, 0)])) := rfl
theorem tn_2 {nF : Nat} : (TN nF)[2]? = some (.inr (1, 940, 0)) := rfl
theorem tn_3 {nF : Nat} : (TN nF)[3]? = some (.inr (2, 27, 2)) := rfl
theorem tn_4 {nF : Nat} : (TN nF)[4]? = some (.inl (2, [(0, 0), (0, 0), (0, 0), (0, 0), (0, 0), (0, 0), (0, 0), (0, 0), (0, 0), (2, 5), (2, 6), (2, 7), (2, 8), (2, 9), (2, 10), (2, 11), (2, 12)])) := rfl
theorem tn_5 {nF : Nat} : (TN nF)[5]? = some (.inr (0, 8, 0)) := rfl
theorem tn_6 {nF : Nat} : (TN nF)[6]? = some (.inr (0, 6, 0)) := rfl
theorem tn_7 {nF : Nat} : (TN nF)[7]? = some (.inr (0, 4, 0)) := rfl
theorem tn_8 {nF : Nat} : (TN nF)[8]? = some (.inr (0, 64, 0)) := rfl
theorem tn_9 {nF : Nat} : (TN nF)[9]? = some (.inr (0, 8, 0)) := rfl
theorem tn_10 {nF : Nat} : (TN nF)[10]? = some (.inr (2, 26, 4)) := rfl
theorem tn_11 {nF : Nat} : (TN nF)[11]? = some (.inr (0, 26, 0)) := rfl
theorem tn_12 {nF : Nat} : (TN nF)[12]? = some (.inr (0, 26, 0)) := rfl
theorem tn_13 {nF : Nat} : (TN nF)[13]? = some (.inl (2, [(0, 0), (0, 0), (0, 0), (0, 0), (0, 0), (0, 0), (0, 0), (0, 0), (0, 0), (2, 14), (2, 15), (2, 16), (2, 17), (2, 18), (2, 19), (2, 20), (2, 21)])) := rfl
theorem tn_14 {nF : Nat} : (TN nF)[14]? = some (.inr (0, 8, 0)) := rfl
theorem tn_15 {nF : Nat} : (TN nF)[15]? = some (.inr (0, 6, 0)) := rfl
theorem tn_16 {nF : Nat} : (TN nF)[16]? = some (.inr (0, 4, 0)) := rfl
theorem tn_17 {nF : Nat} : (TN nF)[17]? = some (.inr (0, 64, 0)) := rfl
theorem tn_18 {nF : Nat} : (TN nF)[18]? = some (.inr (0, 8, 0)) := rfl
theorem tn_19 {nF : Nat} : (TN nF)[19]? = some (.inr (2, 26, 1)) := rfl
theorem tn_20 {nF : Nat} : (TN nF)[20]? = some (.inr (0, 26, 0)) := rfl
theorem tn_21 {nF : Nat} : (TN nF)[21]? = some (.inr (0, 26, 0)) := rfl
theorem tn_22 {nF : Nat} : (TN nF)[22]? = some (.inl (3, [(2, 1), (2, 13), (2, 23), (0, 0), (0, 0)])) := rfl
theorem tn_23 {nF : Nat} : (TN nF)[23]? = some (.inr (0, 8, 0)) := rfl
theorem tn_24 {nF : Nat} : (TN nF)[24]? = some (.inl (6, [(2, 4), (2, 25), (2, 26), (2, 27), (2, 28), (0, 0), (0, 0)])) := rfl
theorem tn_25 {nF : Nat} : (TN nF)[25]? = some (.inr (0, 31, 0)) := rfl
theorem tn_26 {nF : Nat} : (TN nF)[26]? = some (.inr (0, 320, 0)) := rfl
theorem tn_27 {nF : Nat} : (TN nF)[27]? = some (.inr (0, 31, 0)) := rfl
theorem tn_28 {nF : Nat} : (TN nF)[28]? = some (.inr (0, 248, 0)) := rfl
theorem tn_29 {nF : Nat} : (TN nF)[29]? = some (.inl (5, [(2, 4), (2, 24), (2, 30), (2, 31), (0, 0), (0, 0), (0, 0)])) := rfl
theorem tn_30 {nF : Nat} : (TN nF)[30]? = some (.inr (0, 20, 0)) := rfl
theorem tn_31 {nF : Nat} : (TN nF)[31]? = some (.inr (0, 20, 0)) := rfl
theorem tn_32 {nF : Nat} : (TN nF)[32]? = some (.inl (7, [(2, 4), (2, 24), (2, 29), (2, 33), (2, 34), (2, 35), (2, 36), (2, 37), (0, 0), (0, 0), (0, 0), (0, 0), (0, 0), (0, 0)])) := rfl
theorem tn_33 {nF : Nat} : (TN nF)[33]? = some (.inr (0, 4, 0)) := rfl
theorem tn_34 {nF : Nat} : (TN nF)[34]? = some (.inr (0, 4, 0)) := rfl
theorem tn_35 {nF : Nat} : (TN nF)[35]? = some (.inr (0, 256, 0)) := rfl
theorem tn_36 {nF : Nat} : (TN nF)[36]? = some (.inr (0, 24, 0)) := rfl
theorem tn_37 {nF : Nat} : (TN nF)[37]? = some (.inr (1, nF, 0)) := rfl
theorem tn_38 {nF : Nat} : (TN nF)[38]? = some (.inl (1, [(2, 4), (2, 24), (0, 0)])) := rfl
theorem tn_39 {nF : Nat} : (TN nF)[39]? = some (.inl (0, [(2, 1), (2, 4), (2, 24), (2, 40), (2, 41), (2, 42), (0, 0), (0, 0), (0, 0), (0, 0)])) := rfl
theorem tn_40 {nF : Nat} : (TN nF)[40]? = some (.inr (0, 40, 0)) := rfl
theorem tn_41 {nF : Nat} : (TN nF)[41]? = some (.inr (0, 40, 0)) := rfl
theorem tn_42 {nF : Nat} : (TN nF)[42]? = some (.inr (0, 40, 0)) := rfl
theorem tn_43 {nF : Nat} : (TN nF)[43]? = some (.inl (8, [(2, 44), (2, 45), (2, 46), (0, 0), (0, 0)])) := rfl
theorem tn_44 {nF : Nat} : (TN nF)[44]? = some (.inr (0, 40, 0)) := rfl
theorem tn_45 {nF : Nat} : (TN nF)[45]? = some (.inr (0, 40, 0)) := rfl
theorem tn_46 {nF : Nat} : (TN nF)[46]? = some (.inr (0, 40, 0)) := rfl
theorem tn_47 {nF : Nat} : (TN nF)[47]? = some (.inl (8, [(2, 48), (2, 49), (2, 50), (0, 0), (0, 0)])) := rfl
theorem tn_48 {nF : Nat} : (TN nF)[48]? = some (.inr (0, 40, 0)) := rfl
theorem tn_49 {nF : Nat} : (TN nF)[49]? = some (.inr (0, 40, 0)) := rfl
theorem tn_50 {nF : Nat} : (TN nF)[50]? = some (.inr (0, 40, 0)) := rfl
theorem tn_51 {nF : Nat} : (TN nF)[51]? = some (.inl (9, [(2, 1), (2, 4), (2, 47)])) := rfl
theorem tn_52 {nF : Nat} : (TN nF)[52]? = some (.inr (4, 2, 62)) := rfl
theorem tn_53 {nF : Nat} : (TN nF)[53]? = some (.inl (4, [(2, 55), (2, 73), (2, 81), (2, 82), (0, 0)])) := rfl
theorem tn_54 {nF : Nat} : (TN nF)[54]? = some (.inl (4, [(2, 64), (2, 77), (2, 83), (2, 84), (0, 0)])) := rfl
theorem tn_55 {nF : Nat} : (TN nF)[55]? = some (.inl (2, [(0, 0), (0, 0), (0, 0), (0, 0), (0, 0), (0, 0), (0, 0), (0, 0), (0, 0), (2, 56), (2, 57), (2, 58), (2, 59), (2, 60), (2, 61), (2, 62), (2, 63)])) := rfl
theorem tn_56 {nF : Nat} : (TN nF)[56]? = some (.inr (0, 8, 0)) := rfl
theorem tn_57 {nF : Nat} : (TN nF)[57]? = some (.inr (0, 6, 0)) := rfl
theorem tn_58 {nF : Nat} : (TN nF)[58]? = some (.inr (0, 4, 0)) := rfl
theorem tn_59 {nF : Nat} : (TN nF)[59]? = some (.inr (0, 64, 0)) := rfl
theorem tn_60 {nF : Nat} : (TN nF)[60]? = some (.inr (0, 8, 0)) := rfl
theorem tn_61 {nF : Nat} : (TN nF)[61]? = some (.inr (2, 26, 5)) := rfl
theorem tn_62 {nF : Nat} : (TN nF)[62]? = some (.inr (0, 26, 0)) := rfl
theorem tn_63 {nF : Nat} : (TN nF)[63]? = some (.inr (0, 26, 0)) := rfl
theorem tn_64 {nF : Nat} : (TN nF)[64]? = some (.inl (2, [(0, 0), (0, 0), (0, 0), (0, 0), (0, 0), (0, 0), (0, 0), (0, 0), (0, 0), (2, 65), (2, 66), (2, 67), (2, 68), (2, 69), (2, 70), (2, 71), (2, 72)])) := rfl
theorem tn_65 {nF : Nat} : (TN nF)[65]? = some (.inr (0, 8, 0)) := rfl
theorem tn_66 {nF : Nat} : (TN nF)[66]? = some (.inr (0, 6, 0)) := rfl
theorem tn_67 {nF : Nat} : (TN nF)[67]? = some (.inr (0, 4, 0)) := rfl
theorem tn_68 {nF : Nat} : (TN nF)[68]? = some (.inr (0, 64, 0)) := rfl
theorem tn_69 {nF : Nat} : (TN nF)[69]? = some (.inr (0, 8, 0)) := rfl
theorem tn_70 {nF : Nat} : (TN nF)[70]? = some (.inr (2, 26, 6)) := rfl
theorem tn_71 {nF : Nat} : (TN nF)[71]? = some (.inr (0, 26, 0)) := rfl
theorem tn_72 {nF : Nat} : (TN nF)[72]? = some (.inr (0, 26, 0)) := rfl
theorem tn_73 {nF : Nat} : (TN nF)[73]? = some (.inl (8, [(2, 74), (2, 75), (2, 76), (0, 0), (0, 0)])) := rfl
theorem tn_74 {nF : Nat} : (TN nF)[74]? = some (.inr (0, 40, 0)) := rfl
theorem tn_75 {nF : Nat} : (TN nF)[75]? = some (.inr (0, 40, 0)) := rfl
theorem tn_76 {nF : Nat} : (TN nF)[76]? = some (.inr (0, 40, 0)) := rfl
theorem tn_77 {nF : Nat} : (TN nF)[77]? = some (.inl (8, [(2, 78), (2, 79), (2, 80), (0, 0), (0, 0)])) := rfl
theorem tn_78 {nF : Nat} : (TN nF)[78]? = some (.inr (0, 40, 0)) := rfl
theorem tn_79 {nF : Nat} : (TN nF)[79]? = some (.inr (0, 40, 0)) := rfl
theorem tn_80 {nF : Nat} : (TN nF)[80]? = some (.inr (0, 40, 0)) := rfl
theorem tn_81 {nF : Nat} : (TN nF)[81]? = some (.inr (0, 31, 0)) := rfl
theorem tn_82 {nF : Nat} : (TN nF)[82]? = some (.inr (0, 320, 0)) := rfl
theorem tn_83 {nF : Nat} : (TN nF)[83]? = some (.inr (0, 31, 0)) := rfl
theorem tn_84 {nF : Nat} : (TN nF)[84]? = some (.inr (0, 320, 0)) := rfl
theorem tn_85 {nF : Nat} : (TN nF)[85]? = some (.inl (12, [(0, 0), (2, 86), (0, 0), (0, 0), (0, 0), (0, 0), (2, 87), (2, 88), (2, 89), (2, 90), (2, 91), (0, 0), (0, 0), (0, 0), (0, 0), (0, 0), (0, 0), (1, 0), (0, 0), (0, 0), (0, 0), (2, 92), (2, 93), (2, 94), (0, 0), (2, 95), (2, 96), (2, 97), (0, 0), (0, 0), (0, 0), (2, 98), (0, 0), (0, 0), (0, 0), (0, 0), (2, 99), (0, 0), (2, 100), (0, 0), (0, 0), (0, 0), (0, 0), (0, 0), (2, 101), (2, 102), (2, 103), (2, 104)])) := rfl
theorem tn_86 {nF : Nat} : (TN nF)[86]? = some (.inr (1, 940, 0)) := rfl
theorem tn_87 {nF : Nat} : (TN nF)[87]? = some (.inr (0, 657, 0)) := rfl
theorem tn_88 {nF : Nat} : (TN nF)[88]? = some (.inr (0, 106, 0)) := rfl
theorem tn_89 {nF : Nat} : (TN nF)[89]? = some (.inr (0, 135, 0)) := rfl
theorem tn_90 {nF : Nat} : (TN nF)[90]? = some (.inr (2, 52, 7)) := rfl
theorem tn_91 {nF : Nat} : (TN nF)[91]? = some (.inr (2, 27, 3)) := rfl
theorem tn_92 {nF : Nat} : (TN nF)[92]? = some (.inr (0, 8, 0)) := rfl
theorem tn_93 {nF : Nat} : (TN nF)[93]? = some (.inr (0, 2960, 0)) := rfl
theorem tn_94 {nF : Nat} : (TN nF)[94]? = some (.inr (0, 370, 0)) := rfl
theorem tn_95 {nF : Nat} : (TN nF)[95]? = some (.inr (0, 51200, 0)) := rfl
theorem tn_96 {nF : Nat} : (TN nF)[96]? = some (.inr (0, 4, 0)) := rfl
theorem tn_97 {nF : Nat} : (TN nF)[97]? = some (.inr (0, 24, 0)) := rfl
theorem tn_98 {nF : Nat} : (TN nF)[98]? = some (.inr (0, 6, 0)) := rfl
theorem tn_99 {nF : Nat} : (TN nF)[99]? = some (.inr (0, 4, 0)) := rfl
theorem tn_100 {nF : Nat} : (TN nF)[100]? = some (.inr (0, 45, 0)) := rfl
theorem tn_101 {nF : Nat} : (TN nF)[101]? = some (.inr (3, 45, 0)) := rfl
theorem tn_102 {nF : Nat} : (TN nF)[102]? = some (.inr (0, 1314, 0)) := rfl
theorem tn_103 {nF : Nat} : (TN nF)[103]? = some (.inr (2, 52, 8)) := rfl
theorem tn_104 {nF : Nat} : (TN nF)[104]? = some (.inr (3, 2, 0)) := rfl
def setN (T : List ac_T) : List ac_T := ((((T.set 10 (.inr (2, 26, 4))).set 61 (.inr (2, 26, 5))).set 70 (.inr (2, 26, 6))).set 90 (.inr (2, 52, 7))).set 103 (.inr (2, 52, 8))
theorem TN_eq (nF : Nat) : TN nF = setN (TT nF) := rfl
def isNm (c : Nat) : Bool := c == 10 || c == 61 || c == 70 || c == 90 || c == 103
theorem isNm_no {c : Nat} (h : ¬ isNm c = true) : c ≠ 10 ∧ c ≠ 61 ∧ c ≠ 70 ∧ c ≠ 90 ∧ c ≠ 103 := by
  refine ⟨fun q => h (by rw [q]; rfl), fun q => h (by rw [q]; rfl), fun q => h (by rw [q]; rfl), fun q => h (by rw [q]; rfl), fun q => h (by rw [q]; rfl)⟩
theorem isNm_yes {c : Nat} (h : isNm c = true) : c = 10 ∨ c = 61 ∨ c = 70 ∨ c = 90 ∨ c = 103 := by
  unfold isNm at h
  simp only [Bool.or_eq_true, beq_iff_eq] at h
  omega
theorem TN_o {nF c : Nat} (h : ¬ isNm c = true) : (TN nF)[c]? = (TT nF)[c]? := by
  obtain ⟨h1, h2, h3, h4, h5⟩ := isNm_no h
  rw [TN_eq]
  unfold setN
  rw [List.getElem?_set_ne (fun q => h5 q.symm), List.getElem?_set_ne (fun q => h4 q.symm), List.getElem?_set_ne (fun q => h3 q.symm), List.getElem?_set_ne (fun q => h2 q.symm), List.getElem?_set_ne (fun q => h1 q.symm)]
def ixN (c : Nat) : Nat := if c = 10 then 0 else if c = 61 then 1 else if c = 70 then 2 else if c = 90 then 3 else 4
def celN (i : Nat) : Nat := ([10, 61, 70, 90, 103] : List Nat).getD i 10
/-- the state with the names that the address function holds -/
def st (ad : Nat → Nat) (u : ac_U) : ac_U := (u.1, fun c => if isNm c = true then nmc ad (ixN c) else u.2 c)
/-- the address function that holds the names of a state -/
def enc (ad : Nat → Nat) (u : ac_U) : Nat → Nat := fun c => if c < 1000 then ad c else (u.2 (celN ((c - 1000) % 5)) ((c - 1000) / 5)).toBitVec.toNat
theorem enc_lt {ad : Nat → Nat} {u : ac_U} {c : Nat} (h : c < 1000) : enc ad u c = ad c := if_pos h
theorem enc_nmc {ad : Nat → Nat} {u : ac_U} {i : Nat} (hi : i < 5) : nmc (enc ad u) i = u.2 (celN i) := by
  funext z
  show Int64.ofNat (enc ad u (1000 + 5 * z + i)) = _
  have e : enc ad u (1000 + 5 * z + i) = (u.2 (celN i) z).toBitVec.toNat := by
    unfold enc
    rw [if_neg (by omega), show 1000 + 5 * z + i - 1000 = 5 * z + i by omega, show (5 * z + i) % 5 = i by omega, show (5 * z + i) / 5 = z by omega]
  rw [e]
  apply Int64.toBitVec_inj.mp
  show BitVec.ofNat 64 _ = _
  first
    | exact BitVec.eq_of_toNat_eq ((BitVec.toNat_ofNat _ _).trans (Nat.mod_eq_of_lt (BitVec.isLt _)))
    | simp
theorem st_enc {ad : Nat → Nat} {u : ac_U} : st (enc ad u) u = u := by
  refine Prod.ext rfl (funext fun c => ?_)
  show (if isNm c = true then nmc (enc ad u) (ixN c) else u.2 c) = u.2 c
  by_cases h : isNm c = true
  · rw [if_pos h]
    rcases isNm_yes h with e | e | e | e | e <;> subst e
    · exact enc_nmc (i := 0) (by decide)
    · exact enc_nmc (i := 1) (by decide)
    · exact enc_nmc (i := 2) (by decide)
    · exact enc_nmc (i := 3) (by decide)
    · exact enc_nmc (i := 4) (by decide)
  · rw [if_neg h]
theorem nmc_up {ad ad' : Nat → Nat} (had : ∀ c, c ≠ 37 → ad' c = ad c) (i : Nat) : nmc ad' i = nmc ad i := by
  funext z
  unfold nmc
  rw [had _ (by omega)]
theorem st_up {ad ad' : Nat → Nat} (had : ∀ c, c ≠ 37 → ad' c = ad c) (u : ac_U) : st ad' u = st ad u := by
  refine Prod.ext rfl (funext fun c => ?_)
  show (if isNm c = true then nmc ad' (ixN c) else u.2 c) = (if isNm c = true then nmc ad (ixN c) else u.2 c)
  rw [nmc_up had]
theorem w_ext {T T' : List ac_T} {ad ad' : Nat → Nat} {cA : Nat → ClassId} {u u' : ac_U} (h : ∀ c, (T[c]?.map fun t => (ad c, ac_e ad cA (u.1 c) (u.2 c) t)) = (T'[c]?.map fun t => (ad' c, ac_e ad' cA (u'.1 c) (u'.2 c) t))) : ac_w ad cA T u = ac_w ad' cA T' u' := by
  apply List.ext_getElem?
  intro c
  simp only [ac_w, List.getElem?_mapIdx]
  exact h c
/-- the same world, with names that stay and with names as state -/
theorem tn_tt {nF : Nat} {ad : Nat → Nat} {cA : Nat → ClassId} {u : ac_U} : ac_w ad cA (TN nF) u = ac_w ad cA (TT nF) (st ad u) := by
  refine w_ext (fun c => ?_)
  by_cases h : isNm c = true
  · rcases isNm_yes h with e | e | e | e | e <;> subst e
    · rw [tn_10, tc_10]; rfl
    · rw [tn_61, tc_61]; rfl
    · rw [tn_70, tc_70]; rfl
    · rw [tn_90, tc_90]; rfl
    · rw [tn_103, tc_103]; rfl
  · have e : (st ad u).2 c = u.2 c := if_neg h
    rw [TN_o h, e]
    rfl
def okR (t : ac_T) : Bool := match t with
  | .inl o => o.2.all (fun f => !(f.1 == 2) || decide (f.2 < 1000))
  | .inr r => decide (r.2.2 < 4) || (decide (9 ≤ r.2.2) && decide (r.2.2 < 900))
theorem ac_e_lt {ad ad' : Nat → Nat} (had : ∀ c, c < 1000 → ad' c = ad c) {cA : Nat → ClassId} {i : Nat → Int32} {j : Nat → Int64} {t : ac_T} (h : okR t = true) : ac_e ad' cA i j t = ac_e ad cA i j t := by
  cases t with
  | inl o =>
    obtain ⟨o1, o2⟩ := o
    have h1 : ∀ f ∈ o2, f.1 = 2 → f.2 < 1000 := by
      intro f hf e1
      have h2 := List.all_eq_true.mp h f hf
      rw [e1] at h2
      simpa using h2
    show Sum.inr (o1, o2.mapIdx (ac_f ad' i j)) = Sum.inr (o1, o2.mapIdx (ac_f ad i j))
    congr 2
    apply List.ext_getElem?
    intro n
    simp only [List.getElem?_mapIdx]
    cases q : o2[n]? with
    | none => rfl
    | some f =>
      have h2 := h1 f (List.mem_of_getElem? q)
      obtain ⟨f1, f2⟩ := f
      simp only [Option.map_some]
      congr 1
      unfold ac_f
      match f1 with
      | 0 => rfl
      | 1 => rfl
      | 2 => simp only; rw [had f2 (h2 rfl)]
      | n + 3 => rfl
  | inr r =>
    obtain ⟨r1, r2, r3⟩ := r
    show Sum.inl (cA r1, r2, ac_r ad' i j r3) = Sum.inl (cA r1, r2, ac_r ad i j r3)
    have h3 : r3 < 4 ∨ (9 ≤ r3 ∧ r3 < 900) := by
      simp only [okR, Bool.or_eq_true, Bool.and_eq_true, decide_eq_true_eq] at h
      exact h
    congr 3
    match r3 with
    | 0 => rfl
    | 1 => rfl
    | 2 => rfl
    | 3 => rfl
    | 4 => omega
    | 5 => omega
    | 6 => omega
    | 7 => omega
    | 8 => omega
    | b + 9 =>
      unfold ac_r
      simp only
      congr 4
      funext z
      rw [had (b + z % 2) (by omega)]
theorem tt_okR0 : ∀ k, k < 105 → ((TT 0)[k]?.map okR) = some true := by decide +kernel
theorem tt_okR5 : ∀ k, k < 105 → ((TT 51200)[k]?.map okR) = some true := by decide +kernel
theorem tt_tn {nF : Nat} (hn : nF = 0 ∨ nF = 51200) {ad : Nat → Nat} {cA : Nat → ClassId} {u : ac_U} : ac_w ad cA (TT nF) u = ac_w (enc ad u) cA (TN nF) u := by
  rw [tn_tt, st_enc]
  refine w_ext (fun c => ?_)
  cases q : (TT nF)[c]? with
  | none => rfl
  | some t =>
    have hl : c < 105 := by
      have := (List.getElem?_eq_some_iff.mp q).1
      exact this
    have ho : okR t = true := by
      have h1 : ((TT nF)[c]?.map okR) = some true := by
        rcases hn with e | e <;> subst e
        · exact tt_okR0 c hl
        · exact tt_okR5 c hl
      rw [q] at h1
      exact Option.some.inj h1
    simp only [Option.map_some]
    rw [ac_e_lt (ad := ad) (ad' := enc ad u) (fun k hk => enc_lt hk) ho, enc_lt (by omega)]
