theorem dX7_isWithin_17 : decode cX7_isWithin 17 = .ok (.iand, 1) := by decide +kernel
theorem dX7_isWithin_18 : decode cX7_isWithin 18 = .ok (.if_icmp .le 5, 3) := by decide +kernel
theorem dX7_isWithin_21 : decode cX7_isWithin 21 = .ok (.iconst 0, 1) := by decide +kernel
theorem dX7_isWithin_22 : decode cX7_isWithin 22 = .ok (.ireturn, 1) := by decide +kernel
theorem dX7_isWithin_23 : decode cX7_isWithin 23 = .ok (.iinc 2 2, 3) := by decide +kernel
theorem dX7_isWithin_26 : decode cX7_isWithin 26 = .ok (.goto (-24), 3) := by decide +kernel
theorem dX7_isWithin_29 : decode cX7_isWithin 29 = .ok (.iconst 1, 1) := by decide +kernel
theorem dX7_isWithin_30 : decode cX7_isWithin 30 = .ok (.ireturn, 1) := by decide +kernel
theorem dX7_mustStay_0 : decode cX7_mustStay 0 = .ok (.iload_n 1, 1) := by decide +kernel
theorem dX7_mustStay_1 : decode cX7_mustStay 1 = .ok (.aload_n 0, 1) := by decide +kernel
theorem dX7_mustStay_2 : decode cX7_mustStay 2 = .ok (.getfield 38, 3) := by decide +kernel
theorem dX7_mustStay_5 : decode cX7_mustStay 5 = .ok (.if_icmp .ne 21, 3) := by decide +kernel
theorem dX7_mustStay_8 : decode cX7_mustStay 8 = .ok (.aload_n 0, 1) := by decide +kernel
theorem dX7_mustStay_9 : decode cX7_mustStay 9 = .ok (.getfield 51, 3) := by decide +kernel
theorem dX7_mustStay_12 : decode cX7_mustStay 12 = .ok (.aload_n 0, 1) := by decide +kernel
theorem dX7_mustStay_13 : decode cX7_mustStay 13 = .ok (.getfield 35, 3) := by decide +kernel
theorem dX7_mustStay_16 : decode cX7_mustStay 16 = .ok (.invokevirtual 123, 3) := by decide +kernel
theorem dX7_mustStay_19 : decode cX7_mustStay 19 = .ok (.ifCond .eq 7, 3) := by decide +kernel
theorem dX7_mustStay_22 : decode cX7_mustStay 22 = .ok (.iconst 1, 1) := by decide +kernel
theorem dX7_mustStay_23 : decode cX7_mustStay 23 = .ok (.goto 4, 3) := by decide +kernel
theorem dX7_mustStay_26 : decode cX7_mustStay 26 = .ok (.iconst 0, 1) := by decide +kernel
theorem dX7_mustStay_27 : decode cX7_mustStay 27 = .ok (.ireturn, 1) := by decide +kernel
theorem dX7_fillPlace_0 : decode cX7_fillPlace 0 = .ok (.iload_n 1, 1) := by decide +kernel
theorem dX7_fillPlace_1 : decode cX7_fillPlace 1 = .ok (.iload_n 2, 1) := by decide +kernel
theorem dX7_fillPlace_2 : decode cX7_fillPlace 2 = .ok (.iconst 0, 1) := by decide +kernel
theorem dX7_fillPlace_3 : decode cX7_fillPlace 3 = .ok (.invokestatic 111, 3) := by decide +kernel
theorem dX7_fillPlace_6 : decode cX7_fillPlace 6 = .ok (.istore_n 3, 1) := by decide +kernel
theorem dX7_fillPlace_7 : decode cX7_fillPlace 7 = .ok (.iload_n 1, 1) := by decide +kernel
theorem dX7_fillPlace_8 : decode cX7_fillPlace 8 = .ok (.iconst 1, 1) := by decide +kernel
theorem dX7_fillPlace_9 : decode cX7_fillPlace 9 = .ok (.iadd, 1) := by decide +kernel
theorem dX7_fillPlace_10 : decode cX7_fillPlace 10 = .ok (.iload_n 2, 1) := by decide +kernel
theorem dX7_fillPlace_11 : decode cX7_fillPlace 11 = .ok (.iconst 0, 1) := by decide +kernel
theorem dX7_fillPlace_12 : decode cX7_fillPlace 12 = .ok (.invokestatic 111, 3) := by decide +kernel
theorem dX7_fillPlace_15 : decode cX7_fillPlace 15 = .ok (.istore 4, 2) := by decide +kernel
theorem dX7_fillPlace_17 : decode cX7_fillPlace 17 = .ok (.aload_n 0, 1) := by decide +kernel
theorem dX7_fillPlace_18 : decode cX7_fillPlace 18 = .ok (.getfield 24, 3) := by decide +kernel
theorem dX7_fillPlace_21 : decode cX7_fillPlace 21 = .ok (.iload 4, 2) := by decide +kernel
theorem dX7_fillPlace_23 : decode cX7_fillPlace 23 = .ok (.aload_n 0, 1) := by decide +kernel
theorem dX7_fillPlace_24 : decode cX7_fillPlace 24 = .ok (.getfield 24, 3) := by decide +kernel
theorem dX7_fillPlace_27 : decode cX7_fillPlace 27 = .ok (.iload_n 3, 1) := by decide +kernel
theorem dX7_fillPlace_28 : decode cX7_fillPlace 28 = .ok (.sipush 256, 3) := by decide +kernel
theorem dX7_fillPlace_31 : decode cX7_fillPlace 31 = .ok (.invokestatic 126, 3) := by decide +kernel
theorem dX7_fillPlace_34 : decode cX7_fillPlace 34 = .ok (.aload_n 0, 1) := by decide +kernel
theorem dX7_fillPlace_35 : decode cX7_fillPlace 35 = .ok (.iload_n 1, 1) := by decide +kernel
theorem dX7_fillPlace_36 : decode cX7_fillPlace 36 = .ok (.invokevirtual 132, 3) := by decide +kernel
theorem dX7_fillPlace_39 : decode cX7_fillPlace 39 = .ok (.ifCond .eq 4, 3) := by decide +kernel
theorem dX7_fillPlace_42 : decode cX7_fillPlace 42 = .ok (.return_, 1) := by decide +kernel
theorem dX7_fillPlace_43 : decode cX7_fillPlace 43 = .ok (.iconst 0, 1) := by decide +kernel
theorem dX7_fillPlace_44 : decode cX7_fillPlace 44 = .ok (.istore 5, 2) := by decide +kernel
theorem dX7_fillPlace_46 : decode cX7_fillPlace 46 = .ok (.iload 5, 2) := by decide +kernel
theorem dX7_fillPlace_48 : decode cX7_fillPlace 48 = .ok (.aload_n 0, 1) := by decide +kernel
theorem dX7_fillPlace_49 : decode cX7_fillPlace 49 = .ok (.getfield 47, 3) := by decide +kernel
theorem dX7_fillPlace_52 : decode cX7_fillPlace 52 = .ok (.getfield 105, 3) := by decide +kernel
theorem dX7_fillPlace_55 : decode cX7_fillPlace 55 = .ok (.if_icmp .ge 36, 3) := by decide +kernel
theorem dX7_fillPlace_58 : decode cX7_fillPlace 58 = .ok (.aload_n 0, 1) := by decide +kernel
theorem dX7_fillPlace_59 : decode cX7_fillPlace 59 = .ok (.getfield 47, 3) := by decide +kernel
theorem dX7_fillPlace_62 : decode cX7_fillPlace 62 = .ok (.iload_n 2, 1) := by decide +kernel
theorem dX7_fillPlace_63 : decode cX7_fillPlace 63 = .ok (.iload 5, 2) := by decide +kernel
theorem dX7_fillPlace_65 : decode cX7_fillPlace 65 = .ok (.invokevirtual 135, 3) := by decide +kernel
theorem dX7_fillPlace_68 : decode cX7_fillPlace 68 = .ok (.ifCond .eq 17, 3) := by decide +kernel
theorem dX7_fillPlace_71 : decode cX7_fillPlace 71 = .ok (.aload_n 0, 1) := by decide +kernel
theorem dX7_fillPlace_72 : decode cX7_fillPlace 72 = .ok (.iload_n 3, 1) := by decide +kernel
theorem dX7_fillPlace_73 : decode cX7_fillPlace 73 = .ok (.iload_n 1, 1) := by decide +kernel
theorem dX7_fillPlace_74 : decode cX7_fillPlace 74 = .ok (.iconst 1, 1) := by decide +kernel
theorem dX7_fillPlace_75 : decode cX7_fillPlace 75 = .ok (.iadd, 1) := by decide +kernel
theorem dX7_fillPlace_76 : decode cX7_fillPlace 76 = .ok (.iload 5, 2) := by decide +kernel
theorem dX7_fillPlace_78 : decode cX7_fillPlace 78 = .ok (.iconst 0, 1) := by decide +kernel
theorem dX7_fillPlace_79 : decode cX7_fillPlace 79 = .ok (.invokestatic 111, 3) := by decide +kernel
theorem dX7_fillPlace_82 : decode cX7_fillPlace 82 = .ok (.invokevirtual 138, 3) := by decide +kernel
theorem dX7_fillPlace_85 : decode cX7_fillPlace 85 = .ok (.iinc 5 1, 3) := by decide +kernel
theorem dX7_fillPlace_88 : decode cX7_fillPlace 88 = .ok (.goto (-42), 3) := by decide +kernel
theorem dX7_fillPlace_91 : decode cX7_fillPlace 91 = .ok (.iconst 0, 1) := by decide +kernel
theorem dX7_fillPlace_92 : decode cX7_fillPlace 92 = .ok (.istore 5, 2) := by decide +kernel
theorem dX7_fillPlace_94 : decode cX7_fillPlace 94 = .ok (.iload 5, 2) := by decide +kernel
theorem dX7_fillPlace_96 : decode cX7_fillPlace 96 = .ok (.aload_n 0, 1) := by decide +kernel
theorem dX7_fillPlace_97 : decode cX7_fillPlace 97 = .ok (.getfield 47, 3) := by decide +kernel
theorem dX7_fillPlace_100 : decode cX7_fillPlace 100 = .ok (.getfield 141, 3) := by decide +kernel
theorem dX7_fillPlace_103 : decode cX7_fillPlace 103 = .ok (.if_icmp .ge 33, 3) := by decide +kernel
theorem dX7_fillPlace_106 : decode cX7_fillPlace 106 = .ok (.aload_n 0, 1) := by decide +kernel
theorem dX7_fillPlace_107 : decode cX7_fillPlace 107 = .ok (.iload_n 1, 1) := by decide +kernel
theorem dX7_fillPlace_108 : decode cX7_fillPlace 108 = .ok (.iload_n 2, 1) := by decide +kernel
theorem dX7_fillPlace_109 : decode cX7_fillPlace 109 = .ok (.iload 5, 2) := by decide +kernel
theorem dX7_fillPlace_111 : decode cX7_fillPlace 111 = .ok (.invokevirtual 144, 3) := by decide +kernel
theorem dX7_fillPlace_114 : decode cX7_fillPlace 114 = .ok (.istore 6, 2) := by decide +kernel
theorem dX7_fillPlace_116 : decode cX7_fillPlace 116 = .ok (.iload 6, 2) := by decide +kernel
theorem dX7_fillPlace_118 : decode cX7_fillPlace 118 = .ok (.ifCond .eq 12, 3) := by decide +kernel
theorem dX7_fillPlace_121 : decode cX7_fillPlace 121 = .ok (.aload_n 0, 1) := by decide +kernel
theorem dX7_fillPlace_122 : decode cX7_fillPlace 122 = .ok (.iload_n 3, 1) := by decide +kernel
theorem dX7_fillPlace_123 : decode cX7_fillPlace 123 = .ok (.iload 4, 2) := by decide +kernel
theorem dX7_fillPlace_125 : decode cX7_fillPlace 125 = .ok (.iload 6, 2) := by decide +kernel
theorem dX7_fillPlace_127 : decode cX7_fillPlace 127 = .ok (.invokevirtual 147, 3) := by decide +kernel
theorem dX7_fillPlace_130 : decode cX7_fillPlace 130 = .ok (.iinc 5 1, 3) := by decide +kernel
theorem dX7_fillPlace_133 : decode cX7_fillPlace 133 = .ok (.goto (-39), 3) := by decide +kernel
theorem dX7_fillPlace_136 : decode cX7_fillPlace 136 = .ok (.return_, 1) := by decide +kernel
theorem dX7_tryGoing_0 : decode cX7_tryGoing 0 = .ok (.iconst 0, 1) := by decide +kernel
theorem dX7_tryGoing_1 : decode cX7_tryGoing 1 = .ok (.istore_n 3, 1) := by decide +kernel
theorem dX7_tryGoing_2 : decode cX7_tryGoing 2 = .ok (.iload_n 3, 1) := by decide +kernel
theorem dX7_tryGoing_3 : decode cX7_tryGoing 3 = .ok (.aload_n 0, 1) := by decide +kernel
theorem dX7_tryGoing_4 : decode cX7_tryGoing 4 = .ok (.getfield 32, 3) := by decide +kernel
theorem dX7_tryGoing_7 : decode cX7_tryGoing 7 = .ok (.if_icmp .ge 60, 3) := by decide +kernel
theorem dX7_tryGoing_10 : decode cX7_tryGoing 10 = .ok (.iconst 1, 1) := by decide +kernel
theorem dX7_tryGoing_11 : decode cX7_tryGoing 11 = .ok (.aload_n 0, 1) := by decide +kernel
theorem dX7_tryGoing_12 : decode cX7_tryGoing 12 = .ok (.getfield 24, 3) := by decide +kernel
theorem dX7_tryGoing_15 : decode cX7_tryGoing 15 = .ok (.iload_n 2, 1) := by decide +kernel
theorem dX7_tryGoing_16 : decode cX7_tryGoing 16 = .ok (.aload_n 0, 1) := by decide +kernel
theorem dX7_tryGoing_17 : decode cX7_tryGoing 17 = .ok (.getfield 18, 3) := by decide +kernel
theorem dX7_tryGoing_20 : decode cX7_tryGoing 20 = .ok (.iload_n 3, 1) := by decide +kernel
theorem dX7_tryGoing_21 : decode cX7_tryGoing 21 = .ok (.iaload, 1) := by decide +kernel
theorem dX7_tryGoing_22 : decode cX7_tryGoing 22 = .ok (.iadd, 1) := by decide +kernel
theorem dX7_tryGoing_23 : decode cX7_tryGoing 23 = .ok (.baload, 1) := by decide +kernel
theorem dX7_tryGoing_24 : decode cX7_tryGoing 24 = .ok (.iadd, 1) := by decide +kernel
theorem dX7_tryGoing_25 : decode cX7_tryGoing 25 = .ok (.istore 4, 2) := by decide +kernel
theorem dX7_tryGoing_27 : decode cX7_tryGoing 27 = .ok (.iload 4, 2) := by decide +kernel
theorem dX7_tryGoing_29 : decode cX7_tryGoing 29 = .ok (.aload_n 0, 1) := by decide +kernel
theorem dX7_tryGoing_30 : decode cX7_tryGoing 30 = .ok (.getfield 24, 3) := by decide +kernel
theorem dX7_tryGoing_33 : decode cX7_tryGoing 33 = .ok (.iload_n 1, 1) := by decide +kernel
theorem dX7_tryGoing_34 : decode cX7_tryGoing 34 = .ok (.aload_n 0, 1) := by decide +kernel
theorem dX7_tryGoing_35 : decode cX7_tryGoing 35 = .ok (.getfield 18, 3) := by decide +kernel
theorem dX7_tryGoing_38 : decode cX7_tryGoing 38 = .ok (.iload_n 3, 1) := by decide +kernel
theorem dX7_tryGoing_39 : decode cX7_tryGoing 39 = .ok (.iaload, 1) := by decide +kernel
theorem dX7_tryGoing_40 : decode cX7_tryGoing 40 = .ok (.iadd, 1) := by decide +kernel
theorem dX7_tryGoing_41 : decode cX7_tryGoing 41 = .ok (.baload, 1) := by decide +kernel
theorem dX7_tryGoing_42 : decode cX7_tryGoing 42 = .ok (.if_icmp .ge 19, 3) := by decide +kernel
theorem dX7_tryGoing_45 : decode cX7_tryGoing 45 = .ok (.aload_n 0, 1) := by decide +kernel
theorem dX7_tryGoing_46 : decode cX7_tryGoing 46 = .ok (.getfield 24, 3) := by decide +kernel
theorem dX7_tryGoing_49 : decode cX7_tryGoing 49 = .ok (.iload_n 1, 1) := by decide +kernel
theorem dX7_tryGoing_50 : decode cX7_tryGoing 50 = .ok (.aload_n 0, 1) := by decide +kernel
theorem dX7_tryGoing_51 : decode cX7_tryGoing 51 = .ok (.getfield 18, 3) := by decide +kernel
theorem dX7_tryGoing_54 : decode cX7_tryGoing 54 = .ok (.iload_n 3, 1) := by decide +kernel
theorem dX7_tryGoing_55 : decode cX7_tryGoing 55 = .ok (.iaload, 1) := by decide +kernel
theorem dX7_tryGoing_56 : decode cX7_tryGoing 56 = .ok (.iadd, 1) := by decide +kernel
theorem dX7_tryGoing_57 : decode cX7_tryGoing 57 = .ok (.iload 4, 2) := by decide +kernel
theorem dX7_tryGoing_59 : decode cX7_tryGoing 59 = .ok (.i2b, 1) := by decide +kernel
theorem dX7_tryGoing_60 : decode cX7_tryGoing 60 = .ok (.bastore, 1) := by decide +kernel
theorem dX7_tryGoing_61 : decode cX7_tryGoing 61 = .ok (.iinc 3 1, 3) := by decide +kernel
theorem dX7_tryGoing_64 : decode cX7_tryGoing 64 = .ok (.goto (-62), 3) := by decide +kernel
theorem dX7_tryGoing_67 : decode cX7_tryGoing 67 = .ok (.return_, 1) := by decide +kernel
theorem dX7_tryDoing_0 : decode cX7_tryDoing 0 = .ok (.iconst 0, 1) := by decide +kernel
theorem dX7_tryDoing_1 : decode cX7_tryDoing 1 = .ok (.istore 4, 2) := by decide +kernel
theorem dX7_tryDoing_3 : decode cX7_tryDoing 3 = .ok (.iload 4, 2) := by decide +kernel
theorem dX7_tryDoing_5 : decode cX7_tryDoing 5 = .ok (.aload_n 0, 1) := by decide +kernel
theorem dX7_tryDoing_6 : decode cX7_tryDoing 6 = .ok (.getfield 32, 3) := by decide +kernel
theorem dX7_tryDoing_9 : decode cX7_tryDoing 9 = .ok (.if_icmp .ge 65, 3) := by decide +kernel
theorem dX7_tryDoing_12 : decode cX7_tryDoing 12 = .ok (.aload_n 0, 1) := by decide +kernel
theorem dX7_tryDoing_13 : decode cX7_tryDoing 13 = .ok (.getfield 24, 3) := by decide +kernel
theorem dX7_tryDoing_16 : decode cX7_tryDoing 16 = .ok (.iload_n 2, 1) := by decide +kernel
theorem dX7_tryDoing_17 : decode cX7_tryDoing 17 = .ok (.aload_n 0, 1) := by decide +kernel
theorem dX7_tryDoing_18 : decode cX7_tryDoing 18 = .ok (.getfield 18, 3) := by decide +kernel
theorem dX7_tryDoing_21 : decode cX7_tryDoing 21 = .ok (.iload 4, 2) := by decide +kernel
theorem dX7_tryDoing_23 : decode cX7_tryDoing 23 = .ok (.iaload, 1) := by decide +kernel
theorem dX7_tryDoing_24 : decode cX7_tryDoing 24 = .ok (.iload_n 3, 1) := by decide +kernel
theorem dX7_tryDoing_25 : decode cX7_tryDoing 25 = .ok (.invokestatic 151, 3) := by decide +kernel
theorem dX7_tryDoing_28 : decode cX7_tryDoing 28 = .ok (.iadd, 1) := by decide +kernel
theorem dX7_tryDoing_29 : decode cX7_tryDoing 29 = .ok (.baload, 1) := by decide +kernel
theorem dX7_tryDoing_30 : decode cX7_tryDoing 30 = .ok (.istore 5, 2) := by decide +kernel
theorem dX7_tryDoing_32 : decode cX7_tryDoing 32 = .ok (.iload 5, 2) := by decide +kernel
theorem dX7_tryDoing_34 : decode cX7_tryDoing 34 = .ok (.aload_n 0, 1) := by decide +kernel
theorem dX7_tryDoing_35 : decode cX7_tryDoing 35 = .ok (.getfield 24, 3) := by decide +kernel
theorem dX7_tryDoing_38 : decode cX7_tryDoing 38 = .ok (.iload_n 1, 1) := by decide +kernel
theorem dX7_tryDoing_39 : decode cX7_tryDoing 39 = .ok (.aload_n 0, 1) := by decide +kernel
theorem dX7_tryDoing_40 : decode cX7_tryDoing 40 = .ok (.getfield 18, 3) := by decide +kernel
theorem dX7_tryDoing_43 : decode cX7_tryDoing 43 = .ok (.iload 4, 2) := by decide +kernel
theorem dX7_tryDoing_45 : decode cX7_tryDoing 45 = .ok (.iaload, 1) := by decide +kernel
theorem dX7_tryDoing_46 : decode cX7_tryDoing 46 = .ok (.iadd, 1) := by decide +kernel
theorem dX7_tryDoing_47 : decode cX7_tryDoing 47 = .ok (.baload, 1) := by decide +kernel
theorem dX7_tryDoing_48 : decode cX7_tryDoing 48 = .ok (.if_icmp .ge 20, 3) := by decide +kernel
theorem dX7_tryDoing_51 : decode cX7_tryDoing 51 = .ok (.aload_n 0, 1) := by decide +kernel
theorem dX7_tryDoing_52 : decode cX7_tryDoing 52 = .ok (.getfield 24, 3) := by decide +kernel
theorem dX7_tryDoing_55 : decode cX7_tryDoing 55 = .ok (.iload_n 1, 1) := by decide +kernel
theorem dX7_tryDoing_56 : decode cX7_tryDoing 56 = .ok (.aload_n 0, 1) := by decide +kernel
theorem dX7_tryDoing_57 : decode cX7_tryDoing 57 = .ok (.getfield 18, 3) := by decide +kernel
theorem dX7_tryDoing_60 : decode cX7_tryDoing 60 = .ok (.iload 4, 2) := by decide +kernel
theorem dX7_tryDoing_62 : decode cX7_tryDoing 62 = .ok (.iaload, 1) := by decide +kernel
theorem dX7_tryDoing_63 : decode cX7_tryDoing 63 = .ok (.iadd, 1) := by decide +kernel
theorem dX7_tryDoing_64 : decode cX7_tryDoing 64 = .ok (.iload 5, 2) := by decide +kernel
theorem dX7_tryDoing_66 : decode cX7_tryDoing 66 = .ok (.i2b, 1) := by decide +kernel
theorem dX7_tryDoing_67 : decode cX7_tryDoing 67 = .ok (.bastore, 1) := by decide +kernel
theorem dX7_tryDoing_68 : decode cX7_tryDoing 68 = .ok (.iinc 4 1, 3) := by decide +kernel
theorem dX7_tryDoing_71 : decode cX7_tryDoing 71 = .ok (.goto (-68), 3) := by decide +kernel
theorem dX7_tryDoing_74 : decode cX7_tryDoing 74 = .ok (.return_, 1) := by decide +kernel
theorem dX7_countedFor_0 : decode cX7_countedFor 0 = .ok (.iconst 0, 1) := by decide +kernel
theorem dX7_countedFor_1 : decode cX7_countedFor 1 = .ok (.istore 4, 2) := by decide +kernel
theorem dX7_countedFor_3 : decode cX7_countedFor 3 = .ok (.iconst 0, 1) := by decide +kernel
theorem dX7_countedFor_4 : decode cX7_countedFor 4 = .ok (.istore 5, 2) := by decide +kernel
theorem dX7_countedFor_6 : decode cX7_countedFor 6 = .ok (.iload 5, 2) := by decide +kernel
theorem dX7_countedFor_8 : decode cX7_countedFor 8 = .ok (.aload_n 0, 1) := by decide +kernel
theorem dX7_countedFor_9 : decode cX7_countedFor 9 = .ok (.getfield 28, 3) := by decide +kernel
theorem dX7_countedFor_12 : decode cX7_countedFor 12 = .ok (.if_icmp .ge 85, 3) := by decide +kernel
theorem dX7_countedFor_15 : decode cX7_countedFor 15 = .ok (.aload_n 0, 1) := by decide +kernel
theorem dX7_countedFor_16 : decode cX7_countedFor 16 = .ok (.getfield 9, 3) := by decide +kernel
theorem dX7_countedFor_19 : decode cX7_countedFor 19 = .ok (.iload 5, 2) := by decide +kernel
theorem dX7_countedFor_21 : decode cX7_countedFor 21 = .ok (.iaload, 1) := by decide +kernel
theorem dX7_countedFor_22 : decode cX7_countedFor 22 = .ok (.istore 6, 2) := by decide +kernel
theorem dX7_countedFor_24 : decode cX7_countedFor 24 = .ok (.aload_n 0, 1) := by decide +kernel
theorem dX7_countedFor_25 : decode cX7_countedFor 25 = .ok (.getfield 47, 3) := by decide +kernel
theorem dX7_countedFor_28 : decode cX7_countedFor 28 = .ok (.iload 6, 2) := by decide +kernel
theorem dX7_countedFor_30 : decode cX7_countedFor 30 = .ok (.iconst 1, 1) := by decide +kernel
theorem dX7_countedFor_31 : decode cX7_countedFor 31 = .ok (.invokevirtual 92, 3) := by decide +kernel
theorem dX7_countedFor_34 : decode cX7_countedFor 34 = .ok (.iload_n 3, 1) := by decide +kernel
theorem dX7_countedFor_35 : decode cX7_countedFor 35 = .ok (.if_icmp .ne 56, 3) := by decide +kernel
theorem dX7_countedFor_38 : decode cX7_countedFor 38 = .ok (.aload_n 0, 1) := by decide +kernel
theorem dX7_countedFor_39 : decode cX7_countedFor 39 = .ok (.getfield 47, 3) := by decide +kernel
theorem dX7_countedFor_42 : decode cX7_countedFor 42 = .ok (.iload 6, 2) := by decide +kernel
theorem dX7_countedFor_44 : decode cX7_countedFor 44 = .ok (.iconst 2, 1) := by decide +kernel
theorem dX7_countedFor_45 : decode cX7_countedFor 45 = .ok (.invokevirtual 92, 3) := by decide +kernel
theorem dX7_countedFor_48 : decode cX7_countedFor 48 = .ok (.iload_n 2, 1) := by decide +kernel
theorem dX7_countedFor_49 : decode cX7_countedFor 49 = .ok (.if_icmp .ne 42, 3) := by decide +kernel
theorem dX7_countedFor_52 : decode cX7_countedFor 52 = .ok (.aload_n 0, 1) := by decide +kernel
theorem dX7_countedFor_53 : decode cX7_countedFor 53 = .ok (.getfield 47, 3) := by decide +kernel
theorem dX7_countedFor_56 : decode cX7_countedFor 56 = .ok (.iload 6, 2) := by decide +kernel
theorem dX7_countedFor_58 : decode cX7_countedFor 58 = .ok (.iconst 3, 1) := by decide +kernel
theorem dX7_countedFor_59 : decode cX7_countedFor 59 = .ok (.invokevirtual 92, 3) := by decide +kernel
theorem dX7_countedFor_62 : decode cX7_countedFor 62 = .ok (.iload_n 1, 1) := by decide +kernel
theorem dX7_countedFor_63 : decode cX7_countedFor 63 = .ok (.if_icmp .gt 28, 3) := by decide +kernel
theorem dX7_countedFor_66 : decode cX7_countedFor 66 = .ok (.iload_n 1, 1) := by decide +kernel
theorem dX7_countedFor_67 : decode cX7_countedFor 67 = .ok (.aload_n 0, 1) := by decide +kernel
theorem dX7_countedFor_68 : decode cX7_countedFor 68 = .ok (.getfield 47, 3) := by decide +kernel
theorem dX7_countedFor_71 : decode cX7_countedFor 71 = .ok (.iload 6, 2) := by decide +kernel
theorem dX7_countedFor_73 : decode cX7_countedFor 73 = .ok (.iconst 4, 1) := by decide +kernel
theorem dX7_countedFor_74 : decode cX7_countedFor 74 = .ok (.invokevirtual 92, 3) := by decide +kernel
theorem dX7_countedFor_77 : decode cX7_countedFor 77 = .ok (.if_icmp .gt 14, 3) := by decide +kernel
theorem dX7_countedFor_80 : decode cX7_countedFor 80 = .ok (.iload 4, 2) := by decide +kernel
theorem dX7_countedFor_82 : decode cX7_countedFor 82 = .ok (.iconst 1, 1) := by decide +kernel
theorem dX7_countedFor_83 : decode cX7_countedFor 83 = .ok (.iconst 2, 1) := by decide +kernel
theorem dX7_countedFor_84 : decode cX7_countedFor 84 = .ok (.iload 5, 2) := by decide +kernel
theorem dX7_countedFor_86 : decode cX7_countedFor 86 = .ok (.imul, 1) := by decide +kernel
theorem dX7_countedFor_87 : decode cX7_countedFor 87 = .ok (.ishl, 1) := by decide +kernel
theorem dX7_countedFor_88 : decode cX7_countedFor 88 = .ok (.ior, 1) := by decide +kernel
theorem dX7_countedFor_89 : decode cX7_countedFor 89 = .ok (.istore 4, 2) := by decide +kernel
theorem dX7_countedFor_91 : decode cX7_countedFor 91 = .ok (.iinc 5 1, 3) := by decide +kernel
theorem dX7_countedFor_94 : decode cX7_countedFor 94 = .ok (.goto (-88), 3) := by decide +kernel
theorem dX7_countedFor_97 : decode cX7_countedFor 97 = .ok (.iload 4, 2) := by decide +kernel
theorem dX7_countedFor_99 : decode cX7_countedFor 99 = .ok (.ireturn, 1) := by decide +kernel
theorem dX7_afterDeed_0 : decode cX7_afterDeed 0 = .ok (.iload_n 0, 1) := by decide +kernel
theorem dX7_afterDeed_1 : decode cX7_afterDeed 1 = .ok (.iload_n 0, 1) := by decide +kernel
theorem dX7_afterDeed_2 : decode cX7_afterDeed 2 = .ok (.iload_n 0, 1) := by decide +kernel
theorem dX7_afterDeed_3 : decode cX7_afterDeed 3 = .ok (.iconst 1, 1) := by decide +kernel
theorem dX7_afterDeed_4 : decode cX7_afterDeed 4 = .ok (.ishr, 1) := by decide +kernel
theorem dX7_afterDeed_5 : decode cX7_afterDeed 5 = .ok (.ior, 1) := by decide +kernel
theorem dX7_afterDeed_6 : decode cX7_afterDeed 6 = .ok (.iload_n 1, 1) := by decide +kernel
theorem dX7_afterDeed_7 : decode cX7_afterDeed 7 = .ok (.iand, 1) := by decide +kernel
theorem dX7_afterDeed_8 : decode cX7_afterDeed 8 = .ok (.isub, 1) := by decide +kernel
theorem dX7_afterDeed_9 : decode cX7_afterDeed 9 = .ok (.ireturn, 1) := by decide +kernel
theorem dX7_writeSteps_0 : decode cX7_writeSteps 0 = .ok (.aload_n 0, 1) := by decide +kernel
theorem dX7_writeSteps_1 : decode cX7_writeSteps 1 = .ok (.getfield 51, 3) := by decide +kernel
theorem dX7_writeSteps_4 : decode cX7_writeSteps 4 = .ok (.getfield 79, 3) := by decide +kernel
theorem dX7_writeSteps_7 : decode cX7_writeSteps 7 = .ok (.iconst 3, 1) := by decide +kernel
theorem dX7_writeSteps_8 : decode cX7_writeSteps 8 = .ok (.aload_n 0, 1) := by decide +kernel
theorem dX7_writeSteps_9 : decode cX7_writeSteps 9 = .ok (.getfield 35, 3) := by decide +kernel
theorem dX7_writeSteps_12 : decode cX7_writeSteps 12 = .ok (.iadd, 1) := by decide +kernel
theorem dX7_writeSteps_13 : decode cX7_writeSteps 13 = .ok (.iaload, 1) := by decide +kernel
theorem dX7_writeSteps_14 : decode cX7_writeSteps 14 = .ok (.istore_n 2, 1) := by decide +kernel
theorem dX7_writeSteps_15 : decode cX7_writeSteps 15 = .ok (.aload_n 0, 1) := by decide +kernel
theorem dX7_writeSteps_16 : decode cX7_writeSteps 16 = .ok (.getfield 18, 3) := by decide +kernel
theorem dX7_writeSteps_19 : decode cX7_writeSteps 19 = .ok (.aload_n 0, 1) := by decide +kernel
theorem dX7_writeSteps_20 : decode cX7_writeSteps 20 = .ok (.getfield 32, 3) := by decide +kernel
theorem dX7_writeSteps_23 : decode cX7_writeSteps 23 = .ok (.iconst 1, 1) := by decide +kernel
theorem dX7_writeSteps_24 : decode cX7_writeSteps 24 = .ok (.isub, 1) := by decide +kernel
theorem dX7_writeSteps_25 : decode cX7_writeSteps 25 = .ok (.iaload, 1) := by decide +kernel
theorem dX7_writeSteps_26 : decode cX7_writeSteps 26 = .ok (.istore_n 3, 1) := by decide +kernel
theorem dX7_writeSteps_27 : decode cX7_writeSteps 27 = .ok (.iload_n 1, 1) := by decide +kernel
theorem dX7_writeSteps_28 : decode cX7_writeSteps 28 = .ok (.istore 4, 2) := by decide +kernel
theorem dX7_writeSteps_30 : decode cX7_writeSteps 30 = .ok (.aload_n 0, 1) := by decide +kernel
theorem dX7_writeSteps_31 : decode cX7_writeSteps 31 = .ok (.aload_n 0, 1) := by decide +kernel
theorem dX7_writeSteps_32 : decode cX7_writeSteps 32 = .ok (.getfield 38, 3) := by decide +kernel
theorem dX7_writeSteps_35 : decode cX7_writeSteps 35 = .ok (.putfield 41, 3) := by decide +kernel
theorem dX7_writeSteps_38 : decode cX7_writeSteps 38 = .ok (.aload_n 0, 1) := by decide +kernel
theorem dX7_writeSteps_39 : decode cX7_writeSteps 39 = .ok (.aload_n 0, 1) := by decide +kernel
theorem dX7_writeSteps_40 : decode cX7_writeSteps 40 = .ok (.getfield 47, 3) := by decide +kernel
theorem dX7_writeSteps_43 : decode cX7_writeSteps 43 = .ok (.getfield 108, 3) := by decide +kernel
theorem dX7_writeSteps_46 : decode cX7_writeSteps 46 = .ok (.putfield 44, 3) := by decide +kernel
theorem dX7_writeSteps_49 : decode cX7_writeSteps 49 = .ok (.aload_n 0, 1) := by decide +kernel
theorem dX7_writeSteps_50 : decode cX7_writeSteps 50 = .ok (.getfield 38, 3) := by decide +kernel
theorem dX7_writeSteps_53 : decode cX7_writeSteps 53 = .ok (.istore 5, 2) := by decide +kernel
theorem dX7_writeSteps_55 : decode cX7_writeSteps 55 = .ok (.iload 5, 2) := by decide +kernel
theorem dX7_writeSteps_57 : decode cX7_writeSteps 57 = .ok (.aload_n 0, 1) := by decide +kernel
theorem dX7_writeSteps_58 : decode cX7_writeSteps 58 = .ok (.getfield 47, 3) := by decide +kernel
theorem dX7_writeSteps_61 : decode cX7_writeSteps 61 = .ok (.getfield 108, 3) := by decide +kernel
theorem dX7_writeSteps_64 : decode cX7_writeSteps 64 = .ok (.if_icmp .ge 75, 3) := by decide +kernel
theorem dX7_writeSteps_67 : decode cX7_writeSteps 67 = .ok (.aload_n 0, 1) := by decide +kernel
theorem dX7_writeSteps_68 : decode cX7_writeSteps 68 = .ok (.iload 5, 2) := by decide +kernel
theorem dX7_writeSteps_70 : decode cX7_writeSteps 70 = .ok (.iload_n 2, 1) := by decide +kernel
theorem dX7_writeSteps_71 : decode cX7_writeSteps 71 = .ok (.iload_n 3, 1) := by decide +kernel
theorem dX7_writeSteps_72 : decode cX7_writeSteps 72 = .ok (.iload 4, 2) := by decide +kernel
theorem dX7_writeSteps_74 : decode cX7_writeSteps 74 = .ok (.invokevirtual 154, 3) := by decide +kernel
theorem dX7_writeSteps_77 : decode cX7_writeSteps 77 = .ok (.istore 6, 2) := by decide +kernel
theorem dX7_writeSteps_79 : decode cX7_writeSteps 79 = .ok (.aload_n 0, 1) := by decide +kernel
theorem dX7_writeSteps_80 : decode cX7_writeSteps 80 = .ok (.getfield 21, 3) := by decide +kernel
theorem dX7_writeSteps_83 : decode cX7_writeSteps 83 = .ok (.iload 5, 2) := by decide +kernel
theorem dX7_writeSteps_85 : decode cX7_writeSteps 85 = .ok (.iload 6, 2) := by decide +kernel
theorem dX7_writeSteps_87 : decode cX7_writeSteps 87 = .ok (.iastore, 1) := by decide +kernel
theorem dX7_writeSteps_88 : decode cX7_writeSteps 88 = .ok (.iload 6, 2) := by decide +kernel
theorem dX7_writeSteps_90 : decode cX7_writeSteps 90 = .ok (.sipush 200, 3) := by decide +kernel
theorem dX7_writeSteps_93 : decode cX7_writeSteps 93 = .ok (.if_icmp .lt 24, 3) := by decide +kernel
theorem dX7_writeSteps_96 : decode cX7_writeSteps 96 = .ok (.iload_n 3, 1) := by decide +kernel
theorem dX7_writeSteps_97 : decode cX7_writeSteps 97 = .ok (.aload_n 0, 1) := by decide +kernel
theorem dX7_writeSteps_98 : decode cX7_writeSteps 98 = .ok (.iload 5, 2) := by decide +kernel
theorem dX7_writeSteps_100 : decode cX7_writeSteps 100 = .ok (.iload_n 2, 1) := by decide +kernel
theorem dX7_writeSteps_101 : decode cX7_writeSteps 101 = .ok (.iload 6, 2) := by decide +kernel
theorem dX7_writeSteps_103 : decode cX7_writeSteps 103 = .ok (.sipush 200, 3) := by decide +kernel
theorem dX7_writeSteps_106 : decode cX7_writeSteps 106 = .ok (.isub, 1) := by decide +kernel
theorem dX7_writeSteps_107 : decode cX7_writeSteps 107 = .ok (.invokevirtual 144, 3) := by decide +kernel
theorem dX7_writeSteps_110 : decode cX7_writeSteps 110 = .ok (.invokestatic 151, 3) := by decide +kernel
theorem dX7_writeSteps_113 : decode cX7_writeSteps 113 = .ok (.istore_n 3, 1) := by decide +kernel
theorem dX7_writeSteps_114 : decode cX7_writeSteps 114 = .ok (.goto 19, 3) := by decide +kernel
theorem dX7_writeSteps_117 : decode cX7_writeSteps 117 = .ok (.iload 6, 2) := by decide +kernel
theorem dX7_writeSteps_119 : decode cX7_writeSteps 119 = .ok (.bipush 100, 2) := by decide +kernel
theorem dX7_writeSteps_121 : decode cX7_writeSteps 121 = .ok (.if_icmp .lt 12, 3) := by decide +kernel
theorem dX7_writeSteps_124 : decode cX7_writeSteps 124 = .ok (.iload 6, 2) := by decide +kernel
theorem dX7_writeSteps_126 : decode cX7_writeSteps 126 = .ok (.bipush 100, 2) := by decide +kernel
theorem dX7_writeSteps_128 : decode cX7_writeSteps 128 = .ok (.isub, 1) := by decide +kernel
theorem dX7_writeSteps_129 : decode cX7_writeSteps 129 = .ok (.istore_n 2, 1) := by decide +kernel
theorem dX7_writeSteps_130 : decode cX7_writeSteps 130 = .ok (.iinc 4 (-1), 3) := by decide +kernel
theorem dX7_writeSteps_133 : decode cX7_writeSteps 133 = .ok (.iinc 5 1, 3) := by decide +kernel
theorem dX7_writeSteps_136 : decode cX7_writeSteps 136 = .ok (.goto (-81), 3) := by decide +kernel
theorem dX7_writeSteps_139 : decode cX7_writeSteps 139 = .ok (.return_, 1) := by decide +kernel
theorem dX7_firstStep_0 : decode cX7_firstStep 0 = .ok (.aload_n 0, 1) := by decide +kernel
theorem dX7_firstStep_1 : decode cX7_firstStep 1 = .ok (.iload_n 1, 1) := by decide +kernel
theorem dX7_firstStep_2 : decode cX7_firstStep 2 = .ok (.invokevirtual 132, 3) := by decide +kernel
theorem dX7_firstStep_5 : decode cX7_firstStep 5 = .ok (.ifCond .ne 21, 3) := by decide +kernel
theorem dX7_firstStep_8 : decode cX7_firstStep 8 = .ok (.aload_n 0, 1) := by decide +kernel
theorem dX7_firstStep_9 : decode cX7_firstStep 9 = .ok (.getfield 24, 3) := by decide +kernel
theorem dX7_firstStep_12 : decode cX7_firstStep 12 = .ok (.iload_n 1, 1) := by decide +kernel
theorem dX7_firstStep_13 : decode cX7_firstStep 13 = .ok (.iconst 1, 1) := by decide +kernel
theorem dX7_firstStep_14 : decode cX7_firstStep 14 = .ok (.iadd, 1) := by decide +kernel
theorem dX7_firstStep_15 : decode cX7_firstStep 15 = .ok (.iload_n 2, 1) := by decide +kernel
theorem dX7_firstStep_16 : decode cX7_firstStep 16 = .ok (.iload_n 3, 1) := by decide +kernel
theorem dX7_firstStep_17 : decode cX7_firstStep 17 = .ok (.invokestatic 111, 3) := by decide +kernel
theorem dX7_firstStep_20 : decode cX7_firstStep 20 = .ok (.baload, 1) := by decide +kernel
theorem dX7_firstStep_21 : decode cX7_firstStep 21 = .ok (.iload 4, 2) := by decide +kernel
theorem dX7_firstStep_23 : decode cX7_firstStep 23 = .ok (.if_icmp .ne 5, 3) := by decide +kernel
theorem dX7_firstStep_26 : decode cX7_firstStep 26 = .ok (.iconst 0, 1) := by decide +kernel
theorem dX7_firstStep_27 : decode cX7_firstStep 27 = .ok (.ireturn, 1) := by decide +kernel
theorem dX7_firstStep_28 : decode cX7_firstStep 28 = .ok (.iconst 0, 1) := by decide +kernel
theorem dX7_firstStep_29 : decode cX7_firstStep 29 = .ok (.istore 5, 2) := by decide +kernel
theorem dX7_firstStep_31 : decode cX7_firstStep 31 = .ok (.iload 5, 2) := by decide +kernel
theorem dX7_firstStep_33 : decode cX7_firstStep 33 = .ok (.aload_n 0, 1) := by decide +kernel
theorem dX7_firstStep_34 : decode cX7_firstStep 34 = .ok (.getfield 47, 3) := by decide +kernel
theorem dX7_firstStep_37 : decode cX7_firstStep 37 = .ok (.getfield 105, 3) := by decide +kernel
theorem dX7_firstStep_40 : decode cX7_firstStep 40 = .ok (.if_icmp .ge 49, 3) := by decide +kernel
theorem dX7_firstStep_43 : decode cX7_firstStep 43 = .ok (.aload_n 0, 1) := by decide +kernel
theorem dX7_firstStep_44 : decode cX7_firstStep 44 = .ok (.getfield 47, 3) := by decide +kernel
theorem dX7_firstStep_47 : decode cX7_firstStep 47 = .ok (.iload_n 2, 1) := by decide +kernel
theorem dX7_firstStep_48 : decode cX7_firstStep 48 = .ok (.iload 5, 2) := by decide +kernel
theorem dX7_firstStep_50 : decode cX7_firstStep 50 = .ok (.invokevirtual 135, 3) := by decide +kernel
theorem dX7_firstStep_53 : decode cX7_firstStep 53 = .ok (.ifCond .eq 30, 3) := by decide +kernel
theorem dX7_firstStep_56 : decode cX7_firstStep 56 = .ok (.iconst 1, 1) := by decide +kernel
theorem dX7_firstStep_57 : decode cX7_firstStep 57 = .ok (.aload_n 0, 1) := by decide +kernel
theorem dX7_firstStep_58 : decode cX7_firstStep 58 = .ok (.getfield 24, 3) := by decide +kernel
theorem dX7_firstStep_61 : decode cX7_firstStep 61 = .ok (.iload_n 1, 1) := by decide +kernel
theorem dX7_firstStep_62 : decode cX7_firstStep 62 = .ok (.iconst 1, 1) := by decide +kernel
theorem dX7_firstStep_63 : decode cX7_firstStep 63 = .ok (.iadd, 1) := by decide +kernel
theorem dX7_firstStep_64 : decode cX7_firstStep 64 = .ok (.iload 5, 2) := by decide +kernel
theorem dX7_firstStep_66 : decode cX7_firstStep 66 = .ok (.iload_n 3, 1) := by decide +kernel
theorem dX7_firstStep_67 : decode cX7_firstStep 67 = .ok (.invokestatic 111, 3) := by decide +kernel
theorem dX7_firstStep_70 : decode cX7_firstStep 70 = .ok (.baload, 1) := by decide +kernel
theorem dX7_firstStep_71 : decode cX7_firstStep 71 = .ok (.iadd, 1) := by decide +kernel
theorem dX7_firstStep_72 : decode cX7_firstStep 72 = .ok (.iload 4, 2) := by decide +kernel
theorem dX7_firstStep_74 : decode cX7_firstStep 74 = .ok (.if_icmp .ne 9, 3) := by decide +kernel
theorem dX7_firstStep_77 : decode cX7_firstStep 77 = .ok (.bipush 100, 2) := by decide +kernel
theorem dX7_firstStep_79 : decode cX7_firstStep 79 = .ok (.iload 5, 2) := by decide +kernel
theorem dX7_firstStep_81 : decode cX7_firstStep 81 = .ok (.iadd, 1) := by decide +kernel
theorem dX7_firstStep_82 : decode cX7_firstStep 82 = .ok (.ireturn, 1) := by decide +kernel
theorem dX7_firstStep_83 : decode cX7_firstStep 83 = .ok (.iinc 5 1, 3) := by decide +kernel
theorem dX7_firstStep_86 : decode cX7_firstStep 86 = .ok (.goto (-55), 3) := by decide +kernel
theorem dX7_firstStep_89 : decode cX7_firstStep 89 = .ok (.iconst 0, 1) := by decide +kernel
theorem dX7_firstStep_90 : decode cX7_firstStep 90 = .ok (.istore 5, 2) := by decide +kernel
theorem dX7_firstStep_92 : decode cX7_firstStep 92 = .ok (.iload 5, 2) := by decide +kernel
theorem dX7_firstStep_94 : decode cX7_firstStep 94 = .ok (.aload_n 0, 1) := by decide +kernel
theorem dX7_firstStep_95 : decode cX7_firstStep 95 = .ok (.getfield 47, 3) := by decide +kernel
theorem dX7_firstStep_98 : decode cX7_firstStep 98 = .ok (.getfield 141, 3) := by decide +kernel
theorem dX7_firstStep_101 : decode cX7_firstStep 101 = .ok (.if_icmp .ge 49, 3) := by decide +kernel
theorem dX7_firstStep_104 : decode cX7_firstStep 104 = .ok (.iload_n 3, 1) := by decide +kernel
theorem dX7_firstStep_105 : decode cX7_firstStep 105 = .ok (.aload_n 0, 1) := by decide +kernel
theorem dX7_firstStep_106 : decode cX7_firstStep 106 = .ok (.iload_n 1, 1) := by decide +kernel
theorem dX7_firstStep_107 : decode cX7_firstStep 107 = .ok (.iload_n 2, 1) := by decide +kernel
theorem dX7_firstStep_108 : decode cX7_firstStep 108 = .ok (.iload 5, 2) := by decide +kernel
theorem dX7_firstStep_110 : decode cX7_firstStep 110 = .ok (.invokevirtual 144, 3) := by decide +kernel
theorem dX7_firstStep_113 : decode cX7_firstStep 113 = .ok (.invokestatic 151, 3) := by decide +kernel
theorem dX7_firstStep_116 : decode cX7_firstStep 116 = .ok (.istore 6, 2) := by decide +kernel
theorem dX7_firstStep_118 : decode cX7_firstStep 118 = .ok (.aload_n 0, 1) := by decide +kernel
theorem dX7_firstStep_119 : decode cX7_firstStep 119 = .ok (.getfield 24, 3) := by decide +kernel
theorem dX7_firstStep_122 : decode cX7_firstStep 122 = .ok (.iload_n 1, 1) := by decide +kernel
theorem dX7_firstStep_123 : decode cX7_firstStep 123 = .ok (.iconst 1, 1) := by decide +kernel
theorem dX7_firstStep_124 : decode cX7_firstStep 124 = .ok (.iadd, 1) := by decide +kernel
theorem dX7_firstStep_125 : decode cX7_firstStep 125 = .ok (.iload_n 2, 1) := by decide +kernel
theorem dX7_firstStep_126 : decode cX7_firstStep 126 = .ok (.iload 6, 2) := by decide +kernel
theorem dX7_firstStep_128 : decode cX7_firstStep 128 = .ok (.invokestatic 111, 3) := by decide +kernel
theorem dX7_firstStep_131 : decode cX7_firstStep 131 = .ok (.baload, 1) := by decide +kernel
theorem dX7_firstStep_132 : decode cX7_firstStep 132 = .ok (.iload 4, 2) := by decide +kernel
theorem dX7_firstStep_134 : decode cX7_firstStep 134 = .ok (.if_icmp .ne 10, 3) := by decide +kernel
theorem dX7_firstStep_137 : decode cX7_firstStep 137 = .ok (.sipush 200, 3) := by decide +kernel
theorem dX7_firstStep_140 : decode cX7_firstStep 140 = .ok (.iload 5, 2) := by decide +kernel
theorem dX7_firstStep_142 : decode cX7_firstStep 142 = .ok (.iadd, 1) := by decide +kernel
theorem dX7_firstStep_143 : decode cX7_firstStep 143 = .ok (.ireturn, 1) := by decide +kernel
theorem dX7_firstStep_144 : decode cX7_firstStep 144 = .ok (.iinc 5 1, 3) := by decide +kernel
theorem dX7_firstStep_147 : decode cX7_firstStep 147 = .ok (.goto (-55), 3) := by decide +kernel
theorem dX7_firstStep_150 : decode cX7_firstStep 150 = .ok (.iconst 0, 1) := by decide +kernel
theorem dX7_firstStep_151 : decode cX7_firstStep 151 = .ok (.ireturn, 1) := by decide +kernel
theorem dX8_init_0 : decode cX8_init 0 = .ok (.aload_n 0, 1) := by decide +kernel
theorem dX8_init_1 : decode cX8_init 1 = .ok (.invokespecial 3, 3) := by decide +kernel
theorem dX8_init_4 : decode cX8_init 4 = .ok (.aload_n 0, 1) := by decide +kernel
theorem dX8_init_5 : decode cX8_init 5 = .ok (.bipush 40, 2) := by decide +kernel
theorem dX8_init_7 : decode cX8_init 7 = .ok (.newarray .int, 2) := by decide +kernel
theorem dX8_init_9 : decode cX8_init 9 = .ok (.putfield 9, 3) := by decide +kernel
theorem dX8_init_12 : decode cX8_init 12 = .ok (.aload_n 0, 1) := by decide +kernel
theorem dX8_init_13 : decode cX8_init 13 = .ok (.bipush 40, 2) := by decide +kernel
theorem dX8_init_15 : decode cX8_init 15 = .ok (.newarray .int, 2) := by decide +kernel
theorem dX8_init_17 : decode cX8_init 17 = .ok (.putfield 15, 3) := by decide +kernel
theorem dX8_init_20 : decode cX8_init 20 = .ok (.aload_n 0, 1) := by decide +kernel
theorem dX8_init_21 : decode cX8_init 21 = .ok (.bipush 40, 2) := by decide +kernel
theorem dX8_init_23 : decode cX8_init 23 = .ok (.newarray .int, 2) := by decide +kernel
theorem dX8_init_25 : decode cX8_init 25 = .ok (.putfield 18, 3) := by decide +kernel
theorem dX8_init_28 : decode cX8_init 28 = .ok (.aload_n 0, 1) := by decide +kernel
theorem dX8_init_29 : decode cX8_init 29 = .ok (.iconst 0, 1) := by decide +kernel
theorem dX8_init_30 : decode cX8_init 30 = .ok (.putfield 21, 3) := by decide +kernel
theorem dX8_init_33 : decode cX8_init 33 = .ok (.aload_n 0, 1) := by decide +kernel
theorem dX8_init_34 : decode cX8_init 34 = .ok (.iconst 0, 1) := by decide +kernel
theorem dX8_init_35 : decode cX8_init 35 = .ok (.putfield 25, 3) := by decide +kernel
theorem dX8_init_38 : decode cX8_init 38 = .ok (.return_, 1) := by decide +kernel
theorem dX8_clear_0 : decode cX8_clear 0 = .ok (.aload_n 0, 1) := by decide +kernel
theorem dX8_clear_1 : decode cX8_clear 1 = .ok (.iconst 0, 1) := by decide +kernel
theorem dX8_clear_2 : decode cX8_clear 2 = .ok (.putfield 21, 3) := by decide +kernel
theorem dX8_clear_5 : decode cX8_clear 5 = .ok (.aload_n 0, 1) := by decide +kernel
theorem dX8_clear_6 : decode cX8_clear 6 = .ok (.iconst 0, 1) := by decide +kernel
theorem dX8_clear_7 : decode cX8_clear 7 = .ok (.putfield 25, 3) := by decide +kernel
theorem dX8_clear_10 : decode cX8_clear 10 = .ok (.return_, 1) := by decide +kernel
theorem dX8_copyFrom_0 : decode cX8_copyFrom 0 = .ok (.aload_n 0, 1) := by decide +kernel
theorem dX8_copyFrom_1 : decode cX8_copyFrom 1 = .ok (.aload_n 1, 1) := by decide +kernel
theorem dX8_copyFrom_2 : decode cX8_copyFrom 2 = .ok (.getfield 21, 3) := by decide +kernel
theorem dX8_copyFrom_5 : decode cX8_copyFrom 5 = .ok (.putfield 21, 3) := by decide +kernel
theorem dX8_copyFrom_8 : decode cX8_copyFrom 8 = .ok (.aload_n 0, 1) := by decide +kernel
theorem dX8_copyFrom_9 : decode cX8_copyFrom 9 = .ok (.aload_n 1, 1) := by decide +kernel
theorem dX8_copyFrom_10 : decode cX8_copyFrom 10 = .ok (.getfield 25, 3) := by decide +kernel
theorem dX8_copyFrom_13 : decode cX8_copyFrom 13 = .ok (.putfield 25, 3) := by decide +kernel
theorem dX8_copyFrom_16 : decode cX8_copyFrom 16 = .ok (.aload_n 1, 1) := by decide +kernel
theorem dX8_copyFrom_17 : decode cX8_copyFrom 17 = .ok (.getfield 9, 3) := by decide +kernel
theorem dX8_copyFrom_20 : decode cX8_copyFrom 20 = .ok (.iconst 0, 1) := by decide +kernel
theorem dX8_copyFrom_21 : decode cX8_copyFrom 21 = .ok (.aload_n 0, 1) := by decide +kernel
theorem dX8_copyFrom_22 : decode cX8_copyFrom 22 = .ok (.getfield 9, 3) := by decide +kernel
theorem dX8_copyFrom_25 : decode cX8_copyFrom 25 = .ok (.iconst 0, 1) := by decide +kernel
theorem dX8_copyFrom_26 : decode cX8_copyFrom 26 = .ok (.aload_n 0, 1) := by decide +kernel
theorem dX8_copyFrom_27 : decode cX8_copyFrom 27 = .ok (.getfield 9, 3) := by decide +kernel
theorem dX8_copyFrom_30 : decode cX8_copyFrom 30 = .ok (.arraylength, 1) := by decide +kernel
theorem dX8_copyFrom_31 : decode cX8_copyFrom 31 = .ok (.invokestatic 28, 3) := by decide +kernel
theorem dX8_copyFrom_34 : decode cX8_copyFrom 34 = .ok (.aload_n 1, 1) := by decide +kernel
theorem dX8_copyFrom_35 : decode cX8_copyFrom 35 = .ok (.getfield 15, 3) := by decide +kernel
theorem dX8_copyFrom_38 : decode cX8_copyFrom 38 = .ok (.iconst 0, 1) := by decide +kernel
theorem dX8_copyFrom_39 : decode cX8_copyFrom 39 = .ok (.aload_n 0, 1) := by decide +kernel
theorem dX8_copyFrom_40 : decode cX8_copyFrom 40 = .ok (.getfield 15, 3) := by decide +kernel
theorem dX8_copyFrom_43 : decode cX8_copyFrom 43 = .ok (.iconst 0, 1) := by decide +kernel
theorem dX8_copyFrom_44 : decode cX8_copyFrom 44 = .ok (.aload_n 0, 1) := by decide +kernel
theorem dX8_copyFrom_45 : decode cX8_copyFrom 45 = .ok (.getfield 15, 3) := by decide +kernel
theorem dX8_copyFrom_48 : decode cX8_copyFrom 48 = .ok (.arraylength, 1) := by decide +kernel
theorem dX8_copyFrom_49 : decode cX8_copyFrom 49 = .ok (.invokestatic 28, 3) := by decide +kernel
theorem dX8_copyFrom_52 : decode cX8_copyFrom 52 = .ok (.aload_n 1, 1) := by decide +kernel
theorem dX8_copyFrom_53 : decode cX8_copyFrom 53 = .ok (.getfield 18, 3) := by decide +kernel
theorem dX8_copyFrom_56 : decode cX8_copyFrom 56 = .ok (.iconst 0, 1) := by decide +kernel
theorem dX8_copyFrom_57 : decode cX8_copyFrom 57 = .ok (.aload_n 0, 1) := by decide +kernel
theorem dX8_copyFrom_58 : decode cX8_copyFrom 58 = .ok (.getfield 18, 3) := by decide +kernel
theorem dX8_copyFrom_61 : decode cX8_copyFrom 61 = .ok (.iconst 0, 1) := by decide +kernel
theorem dX8_copyFrom_62 : decode cX8_copyFrom 62 = .ok (.aload_n 0, 1) := by decide +kernel
theorem dX8_copyFrom_63 : decode cX8_copyFrom 63 = .ok (.getfield 18, 3) := by decide +kernel
theorem dX8_copyFrom_66 : decode cX8_copyFrom 66 = .ok (.arraylength, 1) := by decide +kernel
theorem dX8_copyFrom_67 : decode cX8_copyFrom 67 = .ok (.invokestatic 28, 3) := by decide +kernel
theorem dX8_copyFrom_70 : decode cX8_copyFrom 70 = .ok (.return_, 1) := by decide +kernel
theorem dX8_add_0 : decode cX8_add 0 = .ok (.aload_n 0, 1) := by decide +kernel
theorem dX8_add_1 : decode cX8_add 1 = .ok (.getfield 21, 3) := by decide +kernel
theorem dX8_add_4 : decode cX8_add 4 = .ok (.aload_n 0, 1) := by decide +kernel
theorem dX8_add_5 : decode cX8_add 5 = .ok (.getfield 9, 3) := by decide +kernel
theorem dX8_add_8 : decode cX8_add 8 = .ok (.arraylength, 1) := by decide +kernel
theorem dX8_add_9 : decode cX8_add 9 = .ok (.if_icmp .ge 43, 3) := by decide +kernel
theorem dX8_add_12 : decode cX8_add 12 = .ok (.aload_n 0, 1) := by decide +kernel
theorem dX8_add_13 : decode cX8_add 13 = .ok (.getfield 9, 3) := by decide +kernel
theorem dX8_add_16 : decode cX8_add 16 = .ok (.aload_n 0, 1) := by decide +kernel
theorem dX8_add_17 : decode cX8_add 17 = .ok (.getfield 21, 3) := by decide +kernel
theorem dX8_add_20 : decode cX8_add 20 = .ok (.iload_n 1, 1) := by decide +kernel
theorem dX8_add_21 : decode cX8_add 21 = .ok (.iastore, 1) := by decide +kernel
theorem dX8_add_22 : decode cX8_add 22 = .ok (.aload_n 0, 1) := by decide +kernel
theorem dX8_add_23 : decode cX8_add 23 = .ok (.getfield 15, 3) := by decide +kernel
theorem dX8_add_26 : decode cX8_add 26 = .ok (.aload_n 0, 1) := by decide +kernel
theorem dX8_add_27 : decode cX8_add 27 = .ok (.getfield 21, 3) := by decide +kernel
theorem dX8_add_30 : decode cX8_add 30 = .ok (.iload_n 2, 1) := by decide +kernel
theorem dX8_add_31 : decode cX8_add 31 = .ok (.iastore, 1) := by decide +kernel
theorem dX8_add_32 : decode cX8_add 32 = .ok (.aload_n 0, 1) := by decide +kernel
theorem dX8_add_33 : decode cX8_add 33 = .ok (.getfield 18, 3) := by decide +kernel
theorem dX8_add_36 : decode cX8_add 36 = .ok (.aload_n 0, 1) := by decide +kernel
theorem dX8_add_37 : decode cX8_add 37 = .ok (.getfield 21, 3) := by decide +kernel
theorem dX8_add_40 : decode cX8_add 40 = .ok (.iload_n 3, 1) := by decide +kernel
theorem dX8_add_41 : decode cX8_add 41 = .ok (.iastore, 1) := by decide +kernel
theorem dX8_add_42 : decode cX8_add 42 = .ok (.aload_n 0, 1) := by decide +kernel
theorem dX8_add_43 : decode cX8_add 43 = .ok (.dup, 1) := by decide +kernel
theorem dX8_add_44 : decode cX8_add 44 = .ok (.getfield 21, 3) := by decide +kernel
theorem dX8_add_47 : decode cX8_add 47 = .ok (.iconst 1, 1) := by decide +kernel
theorem dX8_add_48 : decode cX8_add 48 = .ok (.iadd, 1) := by decide +kernel
theorem dX8_add_49 : decode cX8_add 49 = .ok (.putfield 21, 3) := by decide +kernel
theorem dX8_add_52 : decode cX8_add 52 = .ok (.return_, 1) := by decide +kernel
theorem dX8_isTrueOf_0 : decode cX8_isTrueOf 0 = .ok (.iconst 0, 1) := by decide +kernel
theorem dX8_isTrueOf_1 : decode cX8_isTrueOf 1 = .ok (.istore 4, 2) := by decide +kernel
theorem dX8_isTrueOf_3 : decode cX8_isTrueOf 3 = .ok (.iconst 0, 1) := by decide +kernel
theorem dX8_isTrueOf_4 : decode cX8_isTrueOf 4 = .ok (.istore 5, 2) := by decide +kernel
theorem dX8_isTrueOf_6 : decode cX8_isTrueOf 6 = .ok (.iload 5, 2) := by decide +kernel
theorem dX8_isTrueOf_8 : decode cX8_isTrueOf 8 = .ok (.aload_n 0, 1) := by decide +kernel
theorem dX8_isTrueOf_9 : decode cX8_isTrueOf 9 = .ok (.getfield 21, 3) := by decide +kernel
theorem dX8_isTrueOf_12 : decode cX8_isTrueOf 12 = .ok (.if_icmp .ge 113, 3) := by decide +kernel
theorem dX8_isTrueOf_15 : decode cX8_isTrueOf 15 = .ok (.iload 4, 2) := by decide +kernel
theorem dX8_isTrueOf_17 : decode cX8_isTrueOf 17 = .ok (.iconst 1, 1) := by decide +kernel
theorem dX8_isTrueOf_18 : decode cX8_isTrueOf 18 = .ok (.iand, 1) := by decide +kernel
theorem dX8_isTrueOf_19 : decode cX8_isTrueOf 19 = .ok (.istore 6, 2) := by decide +kernel
theorem dX8_isTrueOf_21 : decode cX8_isTrueOf 21 = .ok (.iload 4, 2) := by decide +kernel
theorem dX8_isTrueOf_23 : decode cX8_isTrueOf 23 = .ok (.iconst 1, 1) := by decide +kernel
theorem dX8_isTrueOf_24 : decode cX8_isTrueOf 24 = .ok (.ishr, 1) := by decide +kernel
theorem dX8_isTrueOf_25 : decode cX8_isTrueOf 25 = .ok (.istore 7, 2) := by decide +kernel
theorem dX8_isTrueOf_27 : decode cX8_isTrueOf 27 = .ok (.aload_n 0, 1) := by decide +kernel
theorem dX8_isTrueOf_28 : decode cX8_isTrueOf 28 = .ok (.getfield 9, 3) := by decide +kernel
theorem dX8_isTrueOf_31 : decode cX8_isTrueOf 31 = .ok (.iload 5, 2) := by decide +kernel
theorem dX8_isTrueOf_33 : decode cX8_isTrueOf 33 = .ok (.iaload, 1) := by decide +kernel
theorem dX8_isTrueOf_34 : decode cX8_isTrueOf 34 = .ok (.bipush 116, 2) := by decide +kernel
theorem dX8_isTrueOf_36 : decode cX8_isTrueOf 36 = .ok (.if_icmp .ne 12, 3) := by decide +kernel
theorem dX8_isTrueOf_39 : decode cX8_isTrueOf 39 = .ok (.iload 4, 2) := by decide +kernel
theorem dX8_isTrueOf_41 : decode cX8_isTrueOf 41 = .ok (.iconst 1, 1) := by decide +kernel
theorem dX8_isTrueOf_42 : decode cX8_isTrueOf 42 = .ok (.ixor, 1) := by decide +kernel
theorem dX8_isTrueOf_43 : decode cX8_isTrueOf 43 = .ok (.istore 4, 2) := by decide +kernel
theorem dX8_isTrueOf_45 : decode cX8_isTrueOf 45 = .ok (.goto 74, 3) := by decide +kernel
theorem dX8_isTrueOf_48 : decode cX8_isTrueOf 48 = .ok (.aload_n 0, 1) := by decide +kernel
theorem dX8_isTrueOf_49 : decode cX8_isTrueOf 49 = .ok (.getfield 9, 3) := by decide +kernel
theorem dX8_isTrueOf_52 : decode cX8_isTrueOf 52 = .ok (.iload 5, 2) := by decide +kernel
theorem dX8_isTrueOf_54 : decode cX8_isTrueOf 54 = .ok (.iaload, 1) := by decide +kernel
theorem dX8_isTrueOf_55 : decode cX8_isTrueOf 55 = .ok (.bipush 115, 2) := by decide +kernel
theorem dX8_isTrueOf_57 : decode cX8_isTrueOf 57 = .ok (.if_icmp .ne 16, 3) := by decide +kernel
theorem dX8_isTrueOf_60 : decode cX8_isTrueOf 60 = .ok (.iload 7, 2) := by decide +kernel
theorem dX8_isTrueOf_62 : decode cX8_isTrueOf 62 = .ok (.bipush (-2), 2) := by decide +kernel
theorem dX8_isTrueOf_64 : decode cX8_isTrueOf 64 = .ok (.iload 6, 2) := by decide +kernel
theorem dX8_isTrueOf_66 : decode cX8_isTrueOf 66 = .ok (.ior, 1) := by decide +kernel
theorem dX8_isTrueOf_67 : decode cX8_isTrueOf 67 = .ok (.iand, 1) := by decide +kernel
theorem dX8_isTrueOf_68 : decode cX8_isTrueOf 68 = .ok (.istore 4, 2) := by decide +kernel
theorem dX8_isTrueOf_70 : decode cX8_isTrueOf 70 = .ok (.goto 49, 3) := by decide +kernel
theorem dX8_isTrueOf_73 : decode cX8_isTrueOf 73 = .ok (.aload_n 0, 1) := by decide +kernel
theorem dX8_isTrueOf_74 : decode cX8_isTrueOf 74 = .ok (.getfield 9, 3) := by decide +kernel
theorem dX8_isTrueOf_77 : decode cX8_isTrueOf 77 = .ok (.iload 5, 2) := by decide +kernel
theorem dX8_isTrueOf_79 : decode cX8_isTrueOf 79 = .ok (.iaload, 1) := by decide +kernel
theorem dX8_isTrueOf_80 : decode cX8_isTrueOf 80 = .ok (.bipush 114, 2) := by decide +kernel
theorem dX8_isTrueOf_82 : decode cX8_isTrueOf 82 = .ok (.if_icmp .ne 13, 3) := by decide +kernel
theorem dX8_isTrueOf_85 : decode cX8_isTrueOf 85 = .ok (.iload 7, 2) := by decide +kernel
theorem dX8_isTrueOf_87 : decode cX8_isTrueOf 87 = .ok (.iload 6, 2) := by decide +kernel
theorem dX8_isTrueOf_89 : decode cX8_isTrueOf 89 = .ok (.ior, 1) := by decide +kernel
theorem dX8_isTrueOf_90 : decode cX8_isTrueOf 90 = .ok (.istore 4, 2) := by decide +kernel
theorem dX8_isTrueOf_92 : decode cX8_isTrueOf 92 = .ok (.goto 27, 3) := by decide +kernel
theorem dX8_isTrueOf_95 : decode cX8_isTrueOf 95 = .ok (.iload 4, 2) := by decide +kernel
theorem dX8_isTrueOf_97 : decode cX8_isTrueOf 97 = .ok (.iconst 1, 1) := by decide +kernel
theorem dX8_isTrueOf_98 : decode cX8_isTrueOf 98 = .ok (.ishl, 1) := by decide +kernel
theorem dX8_isTrueOf_99 : decode cX8_isTrueOf 99 = .ok (.aload_n 0, 1) := by decide +kernel
theorem dX8_isTrueOf_100 : decode cX8_isTrueOf 100 = .ok (.iload 5, 2) := by decide +kernel
theorem dX8_isTrueOf_102 : decode cX8_isTrueOf 102 = .ok (.aload_n 1, 1) := by decide +kernel
theorem dX8_isTrueOf_103 : decode cX8_isTrueOf 103 = .ok (.iload_n 2, 1) := by decide +kernel
theorem dX8_isTrueOf_104 : decode cX8_isTrueOf 104 = .ok (.iload_n 3, 1) := by decide +kernel
theorem dX8_isTrueOf_105 : decode cX8_isTrueOf 105 = .ok (.invokevirtual 34, 3) := by decide +kernel
theorem dX8_isTrueOf_108 : decode cX8_isTrueOf 108 = .ok (.ifCond .eq 7, 3) := by decide +kernel
theorem dX8_isTrueOf_111 : decode cX8_isTrueOf 111 = .ok (.iconst 1, 1) := by decide +kernel
theorem dX8_isTrueOf_112 : decode cX8_isTrueOf 112 = .ok (.goto 4, 3) := by decide +kernel
theorem dX8_isTrueOf_115 : decode cX8_isTrueOf 115 = .ok (.iconst 0, 1) := by decide +kernel
theorem dX8_isTrueOf_116 : decode cX8_isTrueOf 116 = .ok (.ior, 1) := by decide +kernel
theorem dX8_isTrueOf_117 : decode cX8_isTrueOf 117 = .ok (.istore 4, 2) := by decide +kernel
theorem dX8_isTrueOf_119 : decode cX8_isTrueOf 119 = .ok (.iinc 5 1, 3) := by decide +kernel
theorem dX8_isTrueOf_122 : decode cX8_isTrueOf 122 = .ok (.goto (-116), 3) := by decide +kernel
theorem dX8_isTrueOf_125 : decode cX8_isTrueOf 125 = .ok (.iload 4, 2) := by decide +kernel
theorem dX8_isTrueOf_127 : decode cX8_isTrueOf 127 = .ok (.iconst 1, 1) := by decide +kernel
theorem dX8_isTrueOf_128 : decode cX8_isTrueOf 128 = .ok (.iand, 1) := by decide +kernel
theorem dX8_isTrueOf_129 : decode cX8_isTrueOf 129 = .ok (.iconst 1, 1) := by decide +kernel
theorem dX8_isTrueOf_130 : decode cX8_isTrueOf 130 = .ok (.if_icmp .ne 7, 3) := by decide +kernel
theorem dX8_isTrueOf_133 : decode cX8_isTrueOf 133 = .ok (.iconst 1, 1) := by decide +kernel
theorem dX8_isTrueOf_134 : decode cX8_isTrueOf 134 = .ok (.goto 4, 3) := by decide +kernel
theorem dX8_isTrueOf_137 : decode cX8_isTrueOf 137 = .ok (.iconst 0, 1) := by decide +kernel
theorem dX8_isTrueOf_138 : decode cX8_isTrueOf 138 = .ok (.ireturn, 1) := by decide +kernel
theorem dX8_isOneTrue_0 : decode cX8_isOneTrue 0 = .ok (.aload_n 0, 1) := by decide +kernel
theorem dX8_isOneTrue_1 : decode cX8_isOneTrue 1 = .ok (.getfield 9, 3) := by decide +kernel
theorem dX8_isOneTrue_4 : decode cX8_isOneTrue 4 = .ok (.iload_n 1, 1) := by decide +kernel
theorem dX8_isOneTrue_5 : decode cX8_isOneTrue 5 = .ok (.iaload, 1) := by decide +kernel
theorem dX8_isOneTrue_6 : decode cX8_isOneTrue 6 = .ok (.tableswitch 166 117 125 #[50, 61, 73, 85, 97, 109, 130, 142, 154], 50) := by decide +kernel
theorem dX8_isOneTrue_56 : decode cX8_isOneTrue 56 = .ok (.iload 4, 2) := by decide +kernel
theorem dX8_isOneTrue_58 : decode cX8_isOneTrue 58 = .ok (.ifCond .eq 7, 3) := by decide +kernel
theorem dX8_isOneTrue_61 : decode cX8_isOneTrue 61 = .ok (.iconst 1, 1) := by decide +kernel
theorem dX8_isOneTrue_62 : decode cX8_isOneTrue 62 = .ok (.goto 4, 3) := by decide +kernel
theorem dX8_isOneTrue_65 : decode cX8_isOneTrue 65 = .ok (.iconst 0, 1) := by decide +kernel
theorem dX8_isOneTrue_66 : decode cX8_isOneTrue 66 = .ok (.ireturn, 1) := by decide +kernel
theorem dX8_isOneTrue_67 : decode cX8_isOneTrue 67 = .ok (.iload 4, 2) := by decide +kernel
theorem dX8_isOneTrue_69 : decode cX8_isOneTrue 69 = .ok (.iconst 1, 1) := by decide +kernel
theorem dX8_isOneTrue_70 : decode cX8_isOneTrue 70 = .ok (.if_icmp .ne 7, 3) := by decide +kernel
theorem dX8_isOneTrue_73 : decode cX8_isOneTrue 73 = .ok (.iconst 1, 1) := by decide +kernel
theorem dX8_isOneTrue_74 : decode cX8_isOneTrue 74 = .ok (.goto 4, 3) := by decide +kernel
theorem dX8_isOneTrue_77 : decode cX8_isOneTrue 77 = .ok (.iconst 0, 1) := by decide +kernel
theorem dX8_isOneTrue_78 : decode cX8_isOneTrue 78 = .ok (.ireturn, 1) := by decide +kernel
theorem dX8_isOneTrue_79 : decode cX8_isOneTrue 79 = .ok (.iload 4, 2) := by decide +kernel
theorem dX8_isOneTrue_81 : decode cX8_isOneTrue 81 = .ok (.iconst 2, 1) := by decide +kernel
theorem dX8_isOneTrue_82 : decode cX8_isOneTrue 82 = .ok (.if_icmp .ne 7, 3) := by decide +kernel
theorem dX8_isOneTrue_85 : decode cX8_isOneTrue 85 = .ok (.iconst 1, 1) := by decide +kernel
theorem dX8_isOneTrue_86 : decode cX8_isOneTrue 86 = .ok (.goto 4, 3) := by decide +kernel
theorem dX8_isOneTrue_89 : decode cX8_isOneTrue 89 = .ok (.iconst 0, 1) := by decide +kernel
theorem dX8_isOneTrue_90 : decode cX8_isOneTrue 90 = .ok (.ireturn, 1) := by decide +kernel
theorem dX8_isOneTrue_91 : decode cX8_isOneTrue 91 = .ok (.iload 4, 2) := by decide +kernel
theorem dX8_isOneTrue_93 : decode cX8_isOneTrue 93 = .ok (.iconst 3, 1) := by decide +kernel
theorem dX8_isOneTrue_94 : decode cX8_isOneTrue 94 = .ok (.if_icmp .ne 7, 3) := by decide +kernel
theorem dX8_isOneTrue_97 : decode cX8_isOneTrue 97 = .ok (.iconst 1, 1) := by decide +kernel
theorem dX8_isOneTrue_98 : decode cX8_isOneTrue 98 = .ok (.goto 4, 3) := by decide +kernel
theorem dX8_isOneTrue_101 : decode cX8_isOneTrue 101 = .ok (.iconst 0, 1) := by decide +kernel
theorem dX8_isOneTrue_102 : decode cX8_isOneTrue 102 = .ok (.ireturn, 1) := by decide +kernel
theorem dX8_isOneTrue_103 : decode cX8_isOneTrue 103 = .ok (.iload 4, 2) := by decide +kernel
theorem dX8_isOneTrue_105 : decode cX8_isOneTrue 105 = .ok (.iconst 4, 1) := by decide +kernel
theorem dX8_isOneTrue_106 : decode cX8_isOneTrue 106 = .ok (.if_icmp .ne 7, 3) := by decide +kernel
theorem dX8_isOneTrue_109 : decode cX8_isOneTrue 109 = .ok (.iconst 1, 1) := by decide +kernel
theorem dX8_isOneTrue_110 : decode cX8_isOneTrue 110 = .ok (.goto 4, 3) := by decide +kernel
theorem dX8_isOneTrue_113 : decode cX8_isOneTrue 113 = .ok (.iconst 0, 1) := by decide +kernel
theorem dX8_isOneTrue_114 : decode cX8_isOneTrue 114 = .ok (.ireturn, 1) := by decide +kernel
theorem dX8_isOneTrue_115 : decode cX8_isOneTrue 115 = .ok (.aload_n 2, 1) := by decide +kernel
theorem dX8_isOneTrue_116 : decode cX8_isOneTrue 116 = .ok (.iload_n 3, 1) := by decide +kernel
theorem dX8_isOneTrue_117 : decode cX8_isOneTrue 117 = .ok (.iconst 0, 1) := by decide +kernel
theorem dX8_isOneTrue_118 : decode cX8_isOneTrue 118 = .ok (.invokevirtual 38, 3) := by decide +kernel
theorem dX8_isOneTrue_121 : decode cX8_isOneTrue 121 = .ok (.aload_n 0, 1) := by decide +kernel
theorem dX8_isOneTrue_122 : decode cX8_isOneTrue 122 = .ok (.getfield 18, 3) := by decide +kernel
theorem dX8_isOneTrue_125 : decode cX8_isOneTrue 125 = .ok (.iload_n 1, 1) := by decide +kernel
theorem dX8_isOneTrue_126 : decode cX8_isOneTrue 126 = .ok (.iaload, 1) := by decide +kernel
theorem dX8_isOneTrue_127 : decode cX8_isOneTrue 127 = .ok (.if_icmp .ne 7, 3) := by decide +kernel
theorem dX8_isOneTrue_130 : decode cX8_isOneTrue 130 = .ok (.iconst 1, 1) := by decide +kernel
theorem dX8_isOneTrue_131 : decode cX8_isOneTrue 131 = .ok (.goto 4, 3) := by decide +kernel
theorem dX8_isOneTrue_134 : decode cX8_isOneTrue 134 = .ok (.iconst 0, 1) := by decide +kernel
theorem dX8_isOneTrue_135 : decode cX8_isOneTrue 135 = .ok (.ireturn, 1) := by decide +kernel
theorem dX8_isOneTrue_136 : decode cX8_isOneTrue 136 = .ok (.aload_n 0, 1) := by decide +kernel
theorem dX8_isOneTrue_137 : decode cX8_isOneTrue 137 = .ok (.aload_n 2, 1) := by decide +kernel
theorem dX8_isOneTrue_138 : decode cX8_isOneTrue 138 = .ok (.iload_n 3, 1) := by decide +kernel
theorem dX8_isOneTrue_139 : decode cX8_isOneTrue 139 = .ok (.iconst 3, 1) := by decide +kernel
theorem dX8_isOneTrue_140 : decode cX8_isOneTrue 140 = .ok (.invokevirtual 38, 3) := by decide +kernel
theorem dX8_isOneTrue_143 : decode cX8_isOneTrue 143 = .ok (.iload_n 1, 1) := by decide +kernel
theorem dX8_isOneTrue_144 : decode cX8_isOneTrue 144 = .ok (.invokevirtual 44, 3) := by decide +kernel
theorem dX8_isOneTrue_147 : decode cX8_isOneTrue 147 = .ok (.ireturn, 1) := by decide +kernel
theorem dX8_isOneTrue_148 : decode cX8_isOneTrue 148 = .ok (.aload_n 0, 1) := by decide +kernel
theorem dX8_isOneTrue_149 : decode cX8_isOneTrue 149 = .ok (.aload_n 2, 1) := by decide +kernel
theorem dX8_isOneTrue_150 : decode cX8_isOneTrue 150 = .ok (.iload_n 3, 1) := by decide +kernel
theorem dX8_isOneTrue_151 : decode cX8_isOneTrue 151 = .ok (.iconst 4, 1) := by decide +kernel
theorem dX8_isOneTrue_152 : decode cX8_isOneTrue 152 = .ok (.invokevirtual 38, 3) := by decide +kernel
theorem dX8_isOneTrue_155 : decode cX8_isOneTrue 155 = .ok (.iload_n 1, 1) := by decide +kernel
theorem dX8_isOneTrue_156 : decode cX8_isOneTrue 156 = .ok (.invokevirtual 44, 3) := by decide +kernel
theorem dX8_isOneTrue_159 : decode cX8_isOneTrue 159 = .ok (.ireturn, 1) := by decide +kernel
theorem dX8_isOneTrue_160 : decode cX8_isOneTrue 160 = .ok (.aload_n 0, 1) := by decide +kernel
theorem dX8_isOneTrue_161 : decode cX8_isOneTrue 161 = .ok (.aload_n 2, 1) := by decide +kernel
theorem dX8_isOneTrue_162 : decode cX8_isOneTrue 162 = .ok (.iload_n 3, 1) := by decide +kernel
theorem dX8_isOneTrue_163 : decode cX8_isOneTrue 163 = .ok (.iconst 5, 1) := by decide +kernel
theorem dX8_isOneTrue_164 : decode cX8_isOneTrue 164 = .ok (.invokevirtual 38, 3) := by decide +kernel
theorem dX8_isOneTrue_167 : decode cX8_isOneTrue 167 = .ok (.iload_n 1, 1) := by decide +kernel
theorem dX8_isOneTrue_168 : decode cX8_isOneTrue 168 = .ok (.invokevirtual 44, 3) := by decide +kernel
theorem dX8_isOneTrue_171 : decode cX8_isOneTrue 171 = .ok (.ireturn, 1) := by decide +kernel
theorem dX8_isOneTrue_172 : decode cX8_isOneTrue 172 = .ok (.aload_n 0, 1) := by decide +kernel
theorem dX8_isOneTrue_173 : decode cX8_isOneTrue 173 = .ok (.iload_n 3, 1) := by decide +kernel
theorem dX8_isOneTrue_174 : decode cX8_isOneTrue 174 = .ok (.iload_n 1, 1) := by decide +kernel
theorem dX8_isOneTrue_175 : decode cX8_isOneTrue 175 = .ok (.invokevirtual 44, 3) := by decide +kernel
theorem dX8_isOneTrue_178 : decode cX8_isOneTrue 178 = .ok (.ireturn, 1) := by decide +kernel
theorem dX8_isSo_0 : decode cX8_isSo 0 = .ok (.aload_n 0, 1) := by decide +kernel
theorem dX8_isSo_1 : decode cX8_isSo 1 = .ok (.getfield 15, 3) := by decide +kernel
theorem dX8_isSo_4 : decode cX8_isSo 4 = .ok (.iload_n 2, 1) := by decide +kernel
theorem dX8_isSo_5 : decode cX8_isSo 5 = .ok (.iaload, 1) := by decide +kernel
theorem dX8_isSo_6 : decode cX8_isSo 6 = .ok (.bipush 60, 2) := by decide +kernel
theorem dX8_isSo_8 : decode cX8_isSo 8 = .ok (.if_icmp .ne 19, 3) := by decide +kernel
theorem dX8_isSo_11 : decode cX8_isSo 11 = .ok (.iload_n 1, 1) := by decide +kernel
theorem dX8_isSo_12 : decode cX8_isSo 12 = .ok (.aload_n 0, 1) := by decide +kernel
theorem dX8_isSo_13 : decode cX8_isSo 13 = .ok (.getfield 18, 3) := by decide +kernel
theorem dX8_isSo_16 : decode cX8_isSo 16 = .ok (.iload_n 2, 1) := by decide +kernel
theorem dX8_isSo_17 : decode cX8_isSo 17 = .ok (.iaload, 1) := by decide +kernel
theorem dX8_isSo_18 : decode cX8_isSo 18 = .ok (.if_icmp .ge 7, 3) := by decide +kernel
theorem dX8_isSo_21 : decode cX8_isSo 21 = .ok (.iconst 1, 1) := by decide +kernel
theorem dX8_isSo_22 : decode cX8_isSo 22 = .ok (.goto 4, 3) := by decide +kernel
theorem dX8_isSo_25 : decode cX8_isSo 25 = .ok (.iconst 0, 1) := by decide +kernel
theorem dX8_isSo_26 : decode cX8_isSo 26 = .ok (.ireturn, 1) := by decide +kernel
theorem dX8_isSo_27 : decode cX8_isSo 27 = .ok (.aload_n 0, 1) := by decide +kernel
theorem dX8_isSo_28 : decode cX8_isSo 28 = .ok (.getfield 15, 3) := by decide +kernel
theorem dX8_isSo_31 : decode cX8_isSo 31 = .ok (.iload_n 2, 1) := by decide +kernel
theorem dX8_isSo_32 : decode cX8_isSo 32 = .ok (.iaload, 1) := by decide +kernel
theorem dX8_isSo_33 : decode cX8_isSo 33 = .ok (.bipush 62, 2) := by decide +kernel
theorem dX8_isSo_35 : decode cX8_isSo 35 = .ok (.if_icmp .ne 21, 3) := by decide +kernel
theorem dX8_isSo_38 : decode cX8_isSo 38 = .ok (.iload_n 1, 1) := by decide +kernel
theorem dX8_isSo_39 : decode cX8_isSo 39 = .ok (.aload_n 0, 1) := by decide +kernel
theorem dX8_isSo_40 : decode cX8_isSo 40 = .ok (.getfield 18, 3) := by decide +kernel
theorem dX8_isSo_43 : decode cX8_isSo 43 = .ok (.iload_n 2, 1) := by decide +kernel
theorem dX8_isSo_44 : decode cX8_isSo 44 = .ok (.iaload, 1) := by decide +kernel
theorem dX8_isSo_45 : decode cX8_isSo 45 = .ok (.if_icmp .le 7, 3) := by decide +kernel
theorem dX8_isSo_48 : decode cX8_isSo 48 = .ok (.iconst 1, 1) := by decide +kernel
theorem dX8_isSo_49 : decode cX8_isSo 49 = .ok (.goto 22, 3) := by decide +kernel
theorem dX8_isSo_52 : decode cX8_isSo 52 = .ok (.iconst 0, 1) := by decide +kernel
theorem dX8_isSo_53 : decode cX8_isSo 53 = .ok (.goto 18, 3) := by decide +kernel
theorem dX8_isSo_56 : decode cX8_isSo 56 = .ok (.iload_n 1, 1) := by decide +kernel
theorem dX8_isSo_57 : decode cX8_isSo 57 = .ok (.aload_n 0, 1) := by decide +kernel
theorem dX8_isSo_58 : decode cX8_isSo 58 = .ok (.getfield 18, 3) := by decide +kernel
theorem dX8_isSo_61 : decode cX8_isSo 61 = .ok (.iload_n 2, 1) := by decide +kernel
theorem dX8_isSo_62 : decode cX8_isSo 62 = .ok (.iaload, 1) := by decide +kernel
theorem dX8_isSo_63 : decode cX8_isSo 63 = .ok (.if_icmp .ne 7, 3) := by decide +kernel
theorem dX8_isSo_66 : decode cX8_isSo 66 = .ok (.iconst 1, 1) := by decide +kernel
theorem dX8_isSo_67 : decode cX8_isSo 67 = .ok (.goto 4, 3) := by decide +kernel
theorem dX8_isSo_70 : decode cX8_isSo 70 = .ok (.iconst 0, 1) := by decide +kernel
theorem dX8_isSo_71 : decode cX8_isSo 71 = .ok (.ireturn, 1) := by decide +kernel
theorem dX9_init_0 : decode cX9_init 0 = .ok (.aload_n 0, 1) := by decide +kernel
theorem dX9_init_1 : decode cX9_init 1 = .ok (.invokespecial 3, 3) := by decide +kernel
theorem dX9_init_4 : decode cX9_init 4 = .ok (.aload_n 0, 1) := by decide +kernel
theorem dX9_init_5 : decode cX9_init 5 = .ok (.aload_n 1, 1) := by decide +kernel
theorem dX9_init_6 : decode cX9_init 6 = .ok (.putfield 9, 3) := by decide +kernel
theorem dX9_init_9 : decode cX9_init 9 = .ok (.aload_n 0, 1) := by decide +kernel
theorem dX9_init_10 : decode cX9_init 10 = .ok (.aload_n 2, 1) := by decide +kernel
theorem dX9_init_11 : decode cX9_init 11 = .ok (.putfield 15, 3) := by decide +kernel
theorem dX9_init_14 : decode cX9_init 14 = .ok (.aload_n 0, 1) := by decide +kernel
theorem dX9_init_15 : decode cX9_init 15 = .ok (.aload_n 3, 1) := by decide +kernel
theorem dX9_init_16 : decode cX9_init 16 = .ok (.putfield 19, 3) := by decide +kernel
theorem dX9_init_19 : decode cX9_init 19 = .ok (.return_, 1) := by decide +kernel
theorem dX9_begin_0 : decode cX9_begin 0 = .ok (.aload_n 0, 1) := by decide +kernel
theorem dX9_begin_1 : decode cX9_begin 1 = .ok (.getfield 19, 3) := by decide +kernel
theorem dX9_begin_4 : decode cX9_begin 4 = .ok (.invokevirtual 23, 3) := by decide +kernel
theorem dX9_begin_7 : decode cX9_begin 7 = .ok (.aload_n 0, 1) := by decide +kernel
theorem dX9_begin_8 : decode cX9_begin 8 = .ok (.getfield 9, 3) := by decide +kernel
theorem dX9_begin_11 : decode cX9_begin 11 = .ok (.sipush 200, 3) := by decide +kernel
theorem dX9_begin_14 : decode cX9_begin 14 = .ok (.invokevirtual 28, 3) := by decide +kernel
theorem dX9_begin_17 : decode cX9_begin 17 = .ok (.return_, 1) := by decide +kernel
theorem dX9_isAtEnd_0 : decode cX9_isAtEnd 0 = .ok (.aload_n 0, 1) := by decide +kernel
theorem dX9_isAtEnd_1 : decode cX9_isAtEnd 1 = .ok (.getfield 9, 3) := by decide +kernel
theorem dX9_isAtEnd_4 : decode cX9_isAtEnd 4 = .ok (.getfield 34, 3) := by decide +kernel
theorem dX9_isAtEnd_7 : decode cX9_isAtEnd 7 = .ok (.ifCond .eq 14, 3) := by decide +kernel
theorem dX9_isAtEnd_10 : decode cX9_isAtEnd 10 = .ok (.aload_n 0, 1) := by decide +kernel
theorem dX9_isAtEnd_11 : decode cX9_isAtEnd 11 = .ok (.getfield 9, 3) := by decide +kernel
theorem dX9_isAtEnd_14 : decode cX9_isAtEnd 14 = .ok (.iconst 1, 1) := by decide +kernel
theorem dX9_isAtEnd_15 : decode cX9_isAtEnd 15 = .ok (.invokevirtual 38, 3) := by decide +kernel
theorem dX9_isAtEnd_18 : decode cX9_isAtEnd 18 = .ok (.ifCond .eq 7, 3) := by decide +kernel
theorem dX9_isAtEnd_21 : decode cX9_isAtEnd 21 = .ok (.iconst 1, 1) := by decide +kernel
theorem dX9_isAtEnd_22 : decode cX9_isAtEnd 22 = .ok (.goto 4, 3) := by decide +kernel
theorem dX9_isAtEnd_25 : decode cX9_isAtEnd 25 = .ok (.iconst 0, 1) := by decide +kernel
theorem dX9_isAtEnd_26 : decode cX9_isAtEnd 26 = .ok (.ireturn, 1) := by decide +kernel
theorem dX9_readCond_0 : decode cX9_readCond 0 = .ok (.aload_n 0, 1) := by decide +kernel
theorem dX9_readCond_1 : decode cX9_readCond 1 = .ok (.iload_n 1, 1) := by decide +kernel
theorem dX9_readCond_2 : decode cX9_readCond 2 = .ok (.invokevirtual 42, 3) := by decide +kernel
theorem dX9_readCond_5 : decode cX9_readCond 5 = .ok (.ifCond .ne 5, 3) := by decide +kernel
theorem dX9_readCond_8 : decode cX9_readCond 8 = .ok (.iconst 0, 1) := by decide +kernel
theorem dX9_readCond_9 : decode cX9_readCond 9 = .ok (.ireturn, 1) := by decide +kernel
theorem dX9_readCond_10 : decode cX9_readCond 10 = .ok (.iconst 0, 1) := by decide +kernel
theorem dX9_readCond_11 : decode cX9_readCond 11 = .ok (.istore_n 2, 1) := by decide +kernel
theorem dX9_readCond_12 : decode cX9_readCond 12 = .ok (.iload_n 2, 1) := by decide +kernel
theorem dX9_readCond_13 : decode cX9_readCond 13 = .ok (.bipush 20, 2) := by decide +kernel
theorem dX9_readCond_15 : decode cX9_readCond 15 = .ok (.if_icmp .ge 49, 3) := by decide +kernel
theorem dX9_readCond_18 : decode cX9_readCond 18 = .ok (.aload_n 0, 1) := by decide +kernel
theorem dX9_readCond_19 : decode cX9_readCond 19 = .ok (.getfield 9, 3) := by decide +kernel
theorem dX9_readCond_22 : decode cX9_readCond 22 = .ok (.getfield 34, 3) := by decide +kernel
theorem dX9_readCond_25 : decode cX9_readCond 25 = .ok (.bipush 114, 2) := by decide +kernel
theorem dX9_readCond_27 : decode cX9_readCond 27 = .ok (.if_icmp .ne 37, 3) := by decide +kernel
theorem dX9_readCond_30 : decode cX9_readCond 30 = .ok (.aload_n 0, 1) := by decide +kernel
theorem dX9_readCond_31 : decode cX9_readCond 31 = .ok (.getfield 9, 3) := by decide +kernel
theorem dX9_readCond_34 : decode cX9_readCond 34 = .ok (.invokevirtual 45, 3) := by decide +kernel
theorem dX9_readCond_37 : decode cX9_readCond 37 = .ok (.aload_n 0, 1) := by decide +kernel
theorem dX9_readCond_38 : decode cX9_readCond 38 = .ok (.iload_n 1, 1) := by decide +kernel
theorem dX9_readCond_39 : decode cX9_readCond 39 = .ok (.invokevirtual 42, 3) := by decide +kernel
theorem dX9_readCond_42 : decode cX9_readCond 42 = .ok (.ifCond .ne 5, 3) := by decide +kernel
theorem dX9_readCond_45 : decode cX9_readCond 45 = .ok (.iconst 0, 1) := by decide +kernel
theorem dX9_readCond_46 : decode cX9_readCond 46 = .ok (.ireturn, 1) := by decide +kernel
theorem dX9_readCond_47 : decode cX9_readCond 47 = .ok (.aload_n 0, 1) := by decide +kernel
theorem dX9_readCond_48 : decode cX9_readCond 48 = .ok (.getfield 19, 3) := by decide +kernel
theorem dX9_readCond_51 : decode cX9_readCond 51 = .ok (.bipush 114, 2) := by decide +kernel
theorem dX9_readCond_53 : decode cX9_readCond 53 = .ok (.iconst 0, 1) := by decide +kernel
theorem dX9_readCond_54 : decode cX9_readCond 54 = .ok (.iconst 0, 1) := by decide +kernel
theorem dX9_readCond_55 : decode cX9_readCond 55 = .ok (.invokevirtual 48, 3) := by decide +kernel
theorem dX9_readCond_58 : decode cX9_readCond 58 = .ok (.iinc 2 1, 3) := by decide +kernel
theorem dX9_readCond_61 : decode cX9_readCond 61 = .ok (.goto (-49), 3) := by decide +kernel
theorem dX9_readCond_64 : decode cX9_readCond 64 = .ok (.iconst 1, 1) := by decide +kernel
theorem dX9_readCond_65 : decode cX9_readCond 65 = .ok (.ireturn, 1) := by decide +kernel
theorem dX9_readBoth_0 : decode cX9_readBoth 0 = .ok (.aload_n 0, 1) := by decide +kernel
theorem dX9_readBoth_1 : decode cX9_readBoth 1 = .ok (.iload_n 1, 1) := by decide +kernel
theorem dX9_readBoth_2 : decode cX9_readBoth 2 = .ok (.invokevirtual 52, 3) := by decide +kernel
theorem dX9_readBoth_5 : decode cX9_readBoth 5 = .ok (.ifCond .ne 5, 3) := by decide +kernel
theorem dX9_readBoth_8 : decode cX9_readBoth 8 = .ok (.iconst 0, 1) := by decide +kernel
theorem dX9_readBoth_9 : decode cX9_readBoth 9 = .ok (.ireturn, 1) := by decide +kernel
theorem dX9_readBoth_10 : decode cX9_readBoth 10 = .ok (.iconst 0, 1) := by decide +kernel
theorem dX9_readBoth_11 : decode cX9_readBoth 11 = .ok (.istore_n 2, 1) := by decide +kernel
theorem dX9_readBoth_12 : decode cX9_readBoth 12 = .ok (.iload_n 2, 1) := by decide +kernel
theorem dX9_readBoth_13 : decode cX9_readBoth 13 = .ok (.bipush 20, 2) := by decide +kernel
theorem dX9_readBoth_15 : decode cX9_readBoth 15 = .ok (.if_icmp .ge 49, 3) := by decide +kernel
theorem dX9_readBoth_18 : decode cX9_readBoth 18 = .ok (.aload_n 0, 1) := by decide +kernel
theorem dX9_readBoth_19 : decode cX9_readBoth 19 = .ok (.getfield 9, 3) := by decide +kernel
theorem dX9_readBoth_22 : decode cX9_readBoth 22 = .ok (.getfield 34, 3) := by decide +kernel
theorem dX9_readBoth_25 : decode cX9_readBoth 25 = .ok (.bipush 115, 2) := by decide +kernel
theorem dX9_readBoth_27 : decode cX9_readBoth 27 = .ok (.if_icmp .ne 37, 3) := by decide +kernel
theorem dX9_readBoth_30 : decode cX9_readBoth 30 = .ok (.aload_n 0, 1) := by decide +kernel
theorem dX9_readBoth_31 : decode cX9_readBoth 31 = .ok (.getfield 9, 3) := by decide +kernel
theorem dX9_readBoth_34 : decode cX9_readBoth 34 = .ok (.invokevirtual 45, 3) := by decide +kernel
theorem dX9_readBoth_37 : decode cX9_readBoth 37 = .ok (.aload_n 0, 1) := by decide +kernel
theorem dX9_readBoth_38 : decode cX9_readBoth 38 = .ok (.iload_n 1, 1) := by decide +kernel
theorem dX9_readBoth_39 : decode cX9_readBoth 39 = .ok (.invokevirtual 52, 3) := by decide +kernel
theorem dX9_readBoth_42 : decode cX9_readBoth 42 = .ok (.ifCond .ne 5, 3) := by decide +kernel
theorem dX9_readBoth_45 : decode cX9_readBoth 45 = .ok (.iconst 0, 1) := by decide +kernel
theorem dX9_readBoth_46 : decode cX9_readBoth 46 = .ok (.ireturn, 1) := by decide +kernel
theorem dX9_readBoth_47 : decode cX9_readBoth 47 = .ok (.aload_n 0, 1) := by decide +kernel
theorem dX9_readBoth_48 : decode cX9_readBoth 48 = .ok (.getfield 19, 3) := by decide +kernel
theorem dX9_readBoth_51 : decode cX9_readBoth 51 = .ok (.bipush 115, 2) := by decide +kernel
theorem dX9_readBoth_53 : decode cX9_readBoth 53 = .ok (.iconst 0, 1) := by decide +kernel
theorem dX9_readBoth_54 : decode cX9_readBoth 54 = .ok (.iconst 0, 1) := by decide +kernel
theorem dX9_readBoth_55 : decode cX9_readBoth 55 = .ok (.invokevirtual 48, 3) := by decide +kernel
theorem dX9_readBoth_58 : decode cX9_readBoth 58 = .ok (.iinc 2 1, 3) := by decide +kernel
theorem dX9_readBoth_61 : decode cX9_readBoth 61 = .ok (.goto (-49), 3) := by decide +kernel
theorem dX9_readBoth_64 : decode cX9_readBoth 64 = .ok (.iconst 1, 1) := by decide +kernel
theorem dX9_readBoth_65 : decode cX9_readBoth 65 = .ok (.ireturn, 1) := by decide +kernel
theorem dX9_readOne_0 : decode cX9_readOne 0 = .ok (.aload_n 0, 1) := by decide +kernel
theorem dX9_readOne_1 : decode cX9_readOne 1 = .ok (.getfield 9, 3) := by decide +kernel
theorem dX9_readOne_4 : decode cX9_readOne 4 = .ok (.getfield 34, 3) := by decide +kernel
theorem dX9_readOne_7 : decode cX9_readOne 7 = .ok (.istore_n 2, 1) := by decide +kernel
theorem dX9_readOne_8 : decode cX9_readOne 8 = .ok (.iload_n 2, 1) := by decide +kernel
theorem dX9_readOne_9 : decode cX9_readOne 9 = .ok (.bipush 40, 2) := by decide +kernel
theorem dX9_readOne_11 : decode cX9_readOne 11 = .ok (.if_icmp .eq 24, 3) := by decide +kernel
theorem dX9_readOne_14 : decode cX9_readOne 14 = .ok (.iload_n 2, 1) := by decide +kernel
theorem dX9_readOne_15 : decode cX9_readOne 15 = .ok (.bipush 116, 2) := by decide +kernel
theorem dX9_readOne_17 : decode cX9_readOne 17 = .ok (.if_icmp .lt 9, 3) := by decide +kernel
theorem dX9_readOne_20 : decode cX9_readOne 20 = .ok (.iload_n 2, 1) := by decide +kernel
theorem dX9_readOne_21 : decode cX9_readOne 21 = .ok (.bipush 126, 2) := by decide +kernel
theorem dX9_readOne_23 : decode cX9_readOne 23 = .ok (.if_icmp .le 12, 3) := by decide +kernel
theorem dX9_readOne_26 : decode cX9_readOne 26 = .ok (.aload_n 0, 1) := by decide +kernel
theorem dX9_readOne_27 : decode cX9_readOne 27 = .ok (.getfield 9, 3) := by decide +kernel
theorem dX9_readOne_30 : decode cX9_readOne 30 = .ok (.iconst 1, 1) := by decide +kernel
theorem dX9_readOne_31 : decode cX9_readOne 31 = .ok (.invokevirtual 38, 3) := by decide +kernel
theorem dX9_readOne_34 : decode cX9_readOne 34 = .ok (.ireturn, 1) := by decide +kernel
theorem dX9_readOne_35 : decode cX9_readOne 35 = .ok (.aload_n 0, 1) := by decide +kernel
theorem dX9_readOne_36 : decode cX9_readOne 36 = .ok (.getfield 19, 3) := by decide +kernel
theorem dX9_readOne_39 : decode cX9_readOne 39 = .ok (.getfield 55, 3) := by decide +kernel
theorem dX9_readOne_42 : decode cX9_readOne 42 = .ok (.bipush 20, 2) := by decide +kernel
theorem dX9_readOne_44 : decode cX9_readOne 44 = .ok (.if_icmp .ge 9, 3) := by decide +kernel
theorem dX9_readOne_47 : decode cX9_readOne 47 = .ok (.iload_n 1, 1) := by decide +kernel
theorem dX9_readOne_48 : decode cX9_readOne 48 = .ok (.bipush 8, 2) := by decide +kernel
theorem dX9_readOne_50 : decode cX9_readOne 50 = .ok (.if_icmp .le 12, 3) := by decide +kernel
theorem dX9_readOne_53 : decode cX9_readOne 53 = .ok (.aload_n 0, 1) := by decide +kernel
theorem dX9_readOne_54 : decode cX9_readOne 54 = .ok (.getfield 9, 3) := by decide +kernel
theorem dX9_readOne_57 : decode cX9_readOne 57 = .ok (.iconst 4, 1) := by decide +kernel
theorem dX9_readOne_58 : decode cX9_readOne 58 = .ok (.invokevirtual 38, 3) := by decide +kernel
theorem dX9_readOne_61 : decode cX9_readOne 61 = .ok (.ireturn, 1) := by decide +kernel
theorem dX9_readOne_62 : decode cX9_readOne 62 = .ok (.aload_n 0, 1) := by decide +kernel
theorem dX9_readOne_63 : decode cX9_readOne 63 = .ok (.getfield 19, 3) := by decide +kernel
theorem dX9_readOne_66 : decode cX9_readOne 66 = .ok (.dup, 1) := by decide +kernel
theorem dX9_readOne_67 : decode cX9_readOne 67 = .ok (.getfield 55, 3) := by decide +kernel
theorem dX9_readOne_70 : decode cX9_readOne 70 = .ok (.iconst 1, 1) := by decide +kernel
theorem dX9_readOne_71 : decode cX9_readOne 71 = .ok (.iadd, 1) := by decide +kernel
theorem dX9_readOne_72 : decode cX9_readOne 72 = .ok (.putfield 55, 3) := by decide +kernel
theorem dX9_readOne_75 : decode cX9_readOne 75 = .ok (.iload_n 2, 1) := by decide +kernel
theorem dX9_readOne_76 : decode cX9_readOne 76 = .ok (.bipush 40, 2) := by decide +kernel
theorem dX9_readOne_78 : decode cX9_readOne 78 = .ok (.if_icmp .ne 9, 3) := by decide +kernel
theorem dX9_readOne_81 : decode cX9_readOne 81 = .ok (.aload_n 0, 1) := by decide +kernel
theorem dX9_readOne_82 : decode cX9_readOne 82 = .ok (.iload_n 1, 1) := by decide +kernel
theorem dX9_readOne_83 : decode cX9_readOne 83 = .ok (.invokevirtual 58, 3) := by decide +kernel
theorem dX9_readOne_86 : decode cX9_readOne 86 = .ok (.ireturn, 1) := by decide +kernel
theorem dX9_readOne_87 : decode cX9_readOne 87 = .ok (.iload_n 2, 1) := by decide +kernel
theorem dX9_readOne_88 : decode cX9_readOne 88 = .ok (.bipush 116, 2) := by decide +kernel
theorem dX9_readOne_90 : decode cX9_readOne 90 = .ok (.if_icmp .ne 9, 3) := by decide +kernel
theorem dX9_readOne_93 : decode cX9_readOne 93 = .ok (.aload_n 0, 1) := by decide +kernel
theorem dX9_readOne_94 : decode cX9_readOne 94 = .ok (.iload_n 1, 1) := by decide +kernel
theorem dX9_readOne_95 : decode cX9_readOne 95 = .ok (.invokevirtual 61, 3) := by decide +kernel
theorem dX9_readOne_98 : decode cX9_readOne 98 = .ok (.ireturn, 1) := by decide +kernel
theorem dX9_readOne_99 : decode cX9_readOne 99 = .ok (.iload_n 2, 1) := by decide +kernel
theorem dX9_readOne_100 : decode cX9_readOne 100 = .ok (.bipush 122, 2) := by decide +kernel
theorem dX9_readOne_102 : decode cX9_readOne 102 = .ok (.if_icmp .ne 8, 3) := by decide +kernel
theorem dX9_readOne_105 : decode cX9_readOne 105 = .ok (.aload_n 0, 1) := by decide +kernel
theorem dX9_readOne_106 : decode cX9_readOne 106 = .ok (.invokevirtual 64, 3) := by decide +kernel
theorem dX9_readOne_109 : decode cX9_readOne 109 = .ok (.ireturn, 1) := by decide +kernel
theorem dX9_readOne_110 : decode cX9_readOne 110 = .ok (.iload_n 2, 1) := by decide +kernel
theorem dX9_readOne_111 : decode cX9_readOne 111 = .ok (.bipush 122, 2) := by decide +kernel
theorem dX9_readOne_113 : decode cX9_readOne 113 = .ok (.if_icmp .le 11, 3) := by decide +kernel
theorem dX9_readOne_116 : decode cX9_readOne 116 = .ok (.aload_n 0, 1) := by decide +kernel
theorem dX9_readOne_117 : decode cX9_readOne 117 = .ok (.iload_n 2, 1) := by decide +kernel
theorem dX9_readOne_118 : decode cX9_readOne 118 = .ok (.invokevirtual 68, 3) := by decide +kernel
theorem dX9_readOne_121 : decode cX9_readOne 121 = .ok (.goto 8, 3) := by decide +kernel
theorem dX9_readOne_124 : decode cX9_readOne 124 = .ok (.aload_n 0, 1) := by decide +kernel
theorem dX9_readOne_125 : decode cX9_readOne 125 = .ok (.iload_n 2, 1) := by decide +kernel
theorem dX9_readOne_126 : decode cX9_readOne 126 = .ok (.invokevirtual 71, 3) := by decide +kernel
theorem dX9_readOne_129 : decode cX9_readOne 129 = .ok (.ireturn, 1) := by decide +kernel
theorem dX9_readBracket_0 : decode cX9_readBracket 0 = .ok (.aload_n 0, 1) := by decide +kernel
theorem dX9_readBracket_1 : decode cX9_readBracket 1 = .ok (.getfield 9, 3) := by decide +kernel
theorem dX9_readBracket_4 : decode cX9_readBracket 4 = .ok (.invokevirtual 45, 3) := by decide +kernel
theorem dX9_readBracket_7 : decode cX9_readBracket 7 = .ok (.aload_n 0, 1) := by decide +kernel
theorem dX9_readBracket_8 : decode cX9_readBracket 8 = .ok (.iload_n 1, 1) := by decide +kernel
theorem dX9_readBracket_9 : decode cX9_readBracket 9 = .ok (.iconst 1, 1) := by decide +kernel
theorem dX9_readBracket_10 : decode cX9_readBracket 10 = .ok (.iadd, 1) := by decide +kernel
theorem dX9_readBracket_11 : decode cX9_readBracket 11 = .ok (.invokevirtual 74, 3) := by decide +kernel
theorem dX9_readBracket_14 : decode cX9_readBracket 14 = .ok (.ifCond .ne 5, 3) := by decide +kernel
theorem dX9_readBracket_17 : decode cX9_readBracket 17 = .ok (.iconst 0, 1) := by decide +kernel
theorem dX9_readBracket_18 : decode cX9_readBracket 18 = .ok (.ireturn, 1) := by decide +kernel
theorem dX9_readBracket_19 : decode cX9_readBracket 19 = .ok (.aload_n 0, 1) := by decide +kernel
theorem dX9_readBracket_20 : decode cX9_readBracket 20 = .ok (.getfield 9, 3) := by decide +kernel
theorem dX9_readBracket_23 : decode cX9_readBracket 23 = .ok (.getfield 34, 3) := by decide +kernel
theorem dX9_readBracket_26 : decode cX9_readBracket 26 = .ok (.bipush 41, 2) := by decide +kernel
theorem dX9_readBracket_28 : decode cX9_readBracket 28 = .ok (.if_icmp .eq 12, 3) := by decide +kernel
theorem dX9_readBracket_31 : decode cX9_readBracket 31 = .ok (.aload_n 0, 1) := by decide +kernel
theorem dX9_readBracket_32 : decode cX9_readBracket 32 = .ok (.getfield 9, 3) := by decide +kernel
theorem dX9_readBracket_35 : decode cX9_readBracket 35 = .ok (.iconst 1, 1) := by decide +kernel
theorem dX9_readBracket_36 : decode cX9_readBracket 36 = .ok (.invokevirtual 38, 3) := by decide +kernel
theorem dX9_readBracket_39 : decode cX9_readBracket 39 = .ok (.ireturn, 1) := by decide +kernel
theorem dX9_readBracket_40 : decode cX9_readBracket 40 = .ok (.aload_n 0, 1) := by decide +kernel
theorem dX9_readBracket_41 : decode cX9_readBracket 41 = .ok (.getfield 9, 3) := by decide +kernel
theorem dX9_readBracket_44 : decode cX9_readBracket 44 = .ok (.invokevirtual 45, 3) := by decide +kernel
theorem dX9_readBracket_47 : decode cX9_readBracket 47 = .ok (.iconst 1, 1) := by decide +kernel
theorem dX9_readBracket_48 : decode cX9_readBracket 48 = .ok (.ireturn, 1) := by decide +kernel
theorem dX9_readNot_0 : decode cX9_readNot 0 = .ok (.aload_n 0, 1) := by decide +kernel
theorem dX9_readNot_1 : decode cX9_readNot 1 = .ok (.getfield 9, 3) := by decide +kernel
theorem dX9_readNot_4 : decode cX9_readNot 4 = .ok (.invokevirtual 45, 3) := by decide +kernel
theorem dX9_readNot_7 : decode cX9_readNot 7 = .ok (.aload_n 0, 1) := by decide +kernel
theorem dX9_readNot_8 : decode cX9_readNot 8 = .ok (.iload_n 1, 1) := by decide +kernel
theorem dX9_readNot_9 : decode cX9_readNot 9 = .ok (.iconst 1, 1) := by decide +kernel
theorem dX9_readNot_10 : decode cX9_readNot 10 = .ok (.iadd, 1) := by decide +kernel
theorem dX9_readNot_11 : decode cX9_readNot 11 = .ok (.invokevirtual 52, 3) := by decide +kernel
theorem dX9_readNot_14 : decode cX9_readNot 14 = .ok (.ifCond .ne 5, 3) := by decide +kernel
theorem dX9_readNot_17 : decode cX9_readNot 17 = .ok (.iconst 0, 1) := by decide +kernel
theorem dX9_readNot_18 : decode cX9_readNot 18 = .ok (.ireturn, 1) := by decide +kernel
theorem dX9_readNot_19 : decode cX9_readNot 19 = .ok (.aload_n 0, 1) := by decide +kernel
theorem dX9_readNot_20 : decode cX9_readNot 20 = .ok (.getfield 19, 3) := by decide +kernel
theorem dX9_readNot_23 : decode cX9_readNot 23 = .ok (.bipush 116, 2) := by decide +kernel
theorem dX9_readNot_25 : decode cX9_readNot 25 = .ok (.iconst 0, 1) := by decide +kernel
theorem dX9_readNot_26 : decode cX9_readNot 26 = .ok (.iconst 0, 1) := by decide +kernel
theorem dX9_readNot_27 : decode cX9_readNot 27 = .ok (.invokevirtual 48, 3) := by decide +kernel
theorem dX9_readNot_30 : decode cX9_readNot 30 = .ok (.iconst 1, 1) := by decide +kernel
theorem dX9_readNot_31 : decode cX9_readNot 31 = .ok (.ireturn, 1) := by decide +kernel
theorem dX9_readStatus_0 : decode cX9_readStatus 0 = .ok (.aload_n 0, 1) := by decide +kernel
theorem dX9_readStatus_1 : decode cX9_readStatus 1 = .ok (.getfield 19, 3) := by decide +kernel
theorem dX9_readStatus_4 : decode cX9_readStatus 4 = .ok (.iload_n 1, 1) := by decide +kernel
theorem dX9_readStatus_5 : decode cX9_readStatus 5 = .ok (.iconst 0, 1) := by decide +kernel
theorem dX9_readStatus_6 : decode cX9_readStatus 6 = .ok (.iconst 0, 1) := by decide +kernel
theorem dX9_readStatus_7 : decode cX9_readStatus 7 = .ok (.invokevirtual 48, 3) := by decide +kernel
theorem dX9_readStatus_10 : decode cX9_readStatus 10 = .ok (.aload_n 0, 1) := by decide +kernel
theorem dX9_readStatus_11 : decode cX9_readStatus 11 = .ok (.getfield 9, 3) := by decide +kernel
theorem dX9_readStatus_14 : decode cX9_readStatus 14 = .ok (.invokevirtual 45, 3) := by decide +kernel
theorem dX9_readStatus_17 : decode cX9_readStatus 17 = .ok (.iconst 1, 1) := by decide +kernel
theorem dX9_readStatus_18 : decode cX9_readStatus 18 = .ok (.ireturn, 1) := by decide +kernel
theorem dX9_readOf_0 : decode cX9_readOf 0 = .ok (.aload_n 0, 1) := by decide +kernel
theorem dX9_readOf_1 : decode cX9_readOf 1 = .ok (.getfield 9, 3) := by decide +kernel
theorem dX9_readOf_4 : decode cX9_readOf 4 = .ok (.invokevirtual 45, 3) := by decide +kernel
theorem dX9_readOf_7 : decode cX9_readOf 7 = .ok (.aload_n 0, 1) := by decide +kernel
theorem dX9_readOf_8 : decode cX9_readOf 8 = .ok (.getfield 9, 3) := by decide +kernel
theorem dX9_readOf_11 : decode cX9_readOf 11 = .ok (.aload_n 0, 1) := by decide +kernel
theorem dX9_readOf_12 : decode cX9_readOf 12 = .ok (.getfield 15, 3) := by decide +kernel
theorem dX9_readOf_15 : decode cX9_readOf 15 = .ok (.iconst 1, 1) := by decide +kernel
theorem dX9_readOf_16 : decode cX9_readOf 16 = .ok (.invokevirtual 77, 3) := by decide +kernel
theorem dX9_readOf_19 : decode cX9_readOf 19 = .ok (.ifCond .ne 5, 3) := by decide +kernel
theorem dX9_readOf_22 : decode cX9_readOf 22 = .ok (.iconst 0, 1) := by decide +kernel
theorem dX9_readOf_23 : decode cX9_readOf 23 = .ok (.ireturn, 1) := by decide +kernel
theorem dX9_readOf_24 : decode cX9_readOf 24 = .ok (.aload_n 0, 1) := by decide +kernel
theorem dX9_readOf_25 : decode cX9_readOf 25 = .ok (.getfield 19, 3) := by decide +kernel
theorem dX9_readOf_28 : decode cX9_readOf 28 = .ok (.bipush 122, 2) := by decide +kernel
theorem dX9_readOf_30 : decode cX9_readOf 30 = .ok (.iconst 0, 1) := by decide +kernel
theorem dX9_readOf_31 : decode cX9_readOf 31 = .ok (.aload_n 0, 1) := by decide +kernel
theorem dX9_readOf_32 : decode cX9_readOf 32 = .ok (.getfield 9, 3) := by decide +kernel
theorem dX9_readOf_35 : decode cX9_readOf 35 = .ok (.getfield 81, 3) := by decide +kernel
theorem dX9_readOf_38 : decode cX9_readOf 38 = .ok (.invokevirtual 48, 3) := by decide +kernel
theorem dX9_readOf_41 : decode cX9_readOf 41 = .ok (.aload_n 0, 1) := by decide +kernel
theorem dX9_readOf_42 : decode cX9_readOf 42 = .ok (.getfield 9, 3) := by decide +kernel
theorem dX9_readOf_45 : decode cX9_readOf 45 = .ok (.invokevirtual 45, 3) := by decide +kernel
theorem dX9_readOf_48 : decode cX9_readOf 48 = .ok (.iconst 1, 1) := by decide +kernel
theorem dX9_readOf_49 : decode cX9_readOf 49 = .ok (.ireturn, 1) := by decide +kernel
theorem dX9_readCompare_0 : decode cX9_readCompare 0 = .ok (.aload_n 0, 1) := by decide +kernel
theorem dX9_readCompare_1 : decode cX9_readCompare 1 = .ok (.getfield 9, 3) := by decide +kernel
theorem dX9_readCompare_4 : decode cX9_readCompare 4 = .ok (.invokevirtual 45, 3) := by decide +kernel
theorem dX9_readCompare_7 : decode cX9_readCompare 7 = .ok (.aload_n 0, 1) := by decide +kernel
theorem dX9_readCompare_8 : decode cX9_readCompare 8 = .ok (.getfield 9, 3) := by decide +kernel
theorem dX9_readCompare_11 : decode cX9_readCompare 11 = .ok (.getfield 34, 3) := by decide +kernel
theorem dX9_readCompare_14 : decode cX9_readCompare 14 = .ok (.istore_n 2, 1) := by decide +kernel
theorem dX9_readCompare_15 : decode cX9_readCompare 15 = .ok (.iload_n 2, 1) := by decide +kernel
theorem dX9_readCompare_16 : decode cX9_readCompare 16 = .ok (.invokestatic 84, 3) := by decide +kernel
theorem dX9_readCompare_19 : decode cX9_readCompare 19 = .ok (.ifCond .ne 12, 3) := by decide +kernel
theorem dX9_readCompare_22 : decode cX9_readCompare 22 = .ok (.aload_n 0, 1) := by decide +kernel
theorem dX9_readCompare_23 : decode cX9_readCompare 23 = .ok (.getfield 9, 3) := by decide +kernel
theorem dX9_readCompare_26 : decode cX9_readCompare 26 = .ok (.iconst 1, 1) := by decide +kernel
theorem dX9_readCompare_27 : decode cX9_readCompare 27 = .ok (.invokevirtual 38, 3) := by decide +kernel
theorem dX9_readCompare_30 : decode cX9_readCompare 30 = .ok (.ireturn, 1) := by decide +kernel
theorem dX9_readCompare_31 : decode cX9_readCompare 31 = .ok (.aload_n 0, 1) := by decide +kernel
theorem dX9_readCompare_32 : decode cX9_readCompare 32 = .ok (.getfield 9, 3) := by decide +kernel
theorem dX9_readCompare_35 : decode cX9_readCompare 35 = .ok (.invokevirtual 45, 3) := by decide +kernel
theorem dX9_readCompare_38 : decode cX9_readCompare 38 = .ok (.aload_n 0, 1) := by decide +kernel
theorem dX9_readCompare_39 : decode cX9_readCompare 39 = .ok (.getfield 9, 3) := by decide +kernel
theorem dX9_readCompare_42 : decode cX9_readCompare 42 = .ok (.getfield 34, 3) := by decide +kernel
theorem dX9_readCompare_45 : decode cX9_readCompare 45 = .ok (.iconst 3, 1) := by decide +kernel
theorem dX9_readCompare_46 : decode cX9_readCompare 46 = .ok (.if_icmp .eq 12, 3) := by decide +kernel
theorem dX9_readCompare_49 : decode cX9_readCompare 49 = .ok (.aload_n 0, 1) := by decide +kernel
theorem dX9_readCompare_50 : decode cX9_readCompare 50 = .ok (.getfield 9, 3) := by decide +kernel
theorem dX9_readCompare_53 : decode cX9_readCompare 53 = .ok (.iconst 1, 1) := by decide +kernel
theorem dX9_readCompare_54 : decode cX9_readCompare 54 = .ok (.invokevirtual 38, 3) := by decide +kernel
theorem dX9_readCompare_57 : decode cX9_readCompare 57 = .ok (.ireturn, 1) := by decide +kernel
theorem dX9_readCompare_58 : decode cX9_readCompare 58 = .ok (.aload_n 0, 1) := by decide +kernel
theorem dX9_readCompare_59 : decode cX9_readCompare 59 = .ok (.getfield 19, 3) := by decide +kernel
theorem dX9_readCompare_62 : decode cX9_readCompare 62 = .ok (.iload_n 1, 1) := by decide +kernel
theorem dX9_readCompare_63 : decode cX9_readCompare 63 = .ok (.iload_n 2, 1) := by decide +kernel
theorem dX9_readCompare_64 : decode cX9_readCompare 64 = .ok (.aload_n 0, 1) := by decide +kernel
theorem dX9_readCompare_65 : decode cX9_readCompare 65 = .ok (.getfield 9, 3) := by decide +kernel
theorem dX9_readCompare_68 : decode cX9_readCompare 68 = .ok (.getfield 87, 3) := by decide +kernel
theorem dX9_readCompare_71 : decode cX9_readCompare 71 = .ok (.invokevirtual 48, 3) := by decide +kernel
theorem dX9_readCompare_74 : decode cX9_readCompare 74 = .ok (.aload_n 0, 1) := by decide +kernel
theorem dX9_readCompare_75 : decode cX9_readCompare 75 = .ok (.getfield 9, 3) := by decide +kernel
theorem dX9_readCompare_78 : decode cX9_readCompare 78 = .ok (.invokevirtual 45, 3) := by decide +kernel
theorem dX9_readCompare_81 : decode cX9_readCompare 81 = .ok (.iconst 1, 1) := by decide +kernel
theorem dX9_readCompare_82 : decode cX9_readCompare 82 = .ok (.ireturn, 1) := by decide +kernel
theorem dX10_init_0 : decode cX10_init 0 = .ok (.aload_n 0, 1) := by decide +kernel
theorem dX10_init_1 : decode cX10_init 1 = .ok (.invokespecial 3, 3) := by decide +kernel
theorem dX10_init_4 : decode cX10_init 4 = .ok (.aload_n 0, 1) := by decide +kernel
theorem dX10_init_5 : decode cX10_init 5 = .ok (.sipush 940, 3) := by decide +kernel
theorem dX10_init_8 : decode cX10_init 8 = .ok (.newarray .byte, 2) := by decide +kernel
theorem dX10_init_10 : decode cX10_init 10 = .ok (.putfield 9, 3) := by decide +kernel
theorem dX10_init_13 : decode cX10_init 13 = .ok (.aload_n 0, 1) := by decide +kernel
theorem dX10_init_14 : decode cX10_init 14 = .ok (.bipush 27, 2) := by decide +kernel
theorem dX10_init_16 : decode cX10_init 16 = .ok (.newarray .long, 2) := by decide +kernel
theorem dX10_init_18 : decode cX10_init 18 = .ok (.putfield 15, 3) := by decide +kernel
theorem dX10_init_21 : decode cX10_init 21 = .ok (.aload_n 0, 1) := by decide +kernel
theorem dX10_init_22 : decode cX10_init 22 = .ok (.iconst 0, 1) := by decide +kernel
theorem dX10_init_23 : decode cX10_init 23 = .ok (.putfield 19, 3) := by decide +kernel
theorem dX10_init_26 : decode cX10_init 26 = .ok (.aload_n 0, 1) := by decide +kernel
theorem dX10_init_27 : decode cX10_init 27 = .ok (.iconst 0, 1) := by decide +kernel
theorem dX10_init_28 : decode cX10_init 28 = .ok (.putfield 23, 3) := by decide +kernel
theorem dX10_init_31 : decode cX10_init 31 = .ok (.aload_n 0, 1) := by decide +kernel
theorem dX10_init_32 : decode cX10_init 32 = .ok (.iconst 0, 1) := by decide +kernel
theorem dX10_init_33 : decode cX10_init 33 = .ok (.putfield 26, 3) := by decide +kernel
theorem dX10_init_36 : decode cX10_init 36 = .ok (.aload_n 0, 1) := by decide +kernel
theorem dX10_init_37 : decode cX10_init 37 = .ok (.iconst 0, 1) := by decide +kernel
theorem dX10_init_38 : decode cX10_init 38 = .ok (.putfield 29, 3) := by decide +kernel
theorem dX10_init_41 : decode cX10_init 41 = .ok (.aload_n 0, 1) := by decide +kernel
theorem dX10_init_42 : decode cX10_init 42 = .ok (.iconst 0, 1) := by decide +kernel
theorem dX10_init_43 : decode cX10_init 43 = .ok (.putfield 32, 3) := by decide +kernel
theorem dX10_init_46 : decode cX10_init 46 = .ok (.aload_n 0, 1) := by decide +kernel
theorem dX10_init_47 : decode cX10_init 47 = .ok (.lconst 0, 1) := by decide +kernel
theorem dX10_init_48 : decode cX10_init 48 = .ok (.putfield 35, 3) := by decide +kernel
theorem dX10_init_51 : decode cX10_init 51 = .ok (.aload_n 0, 1) := by decide +kernel
theorem dX10_init_52 : decode cX10_init 52 = .ok (.iconst 0, 1) := by decide +kernel
theorem dX10_init_53 : decode cX10_init 53 = .ok (.putfield 39, 3) := by decide +kernel
theorem dX10_init_56 : decode cX10_init 56 = .ok (.aload_n 0, 1) := by decide +kernel
theorem dX10_init_57 : decode cX10_init 57 = .ok (.iconst 0, 1) := by decide +kernel
theorem dX10_init_58 : decode cX10_init 58 = .ok (.putfield 42, 3) := by decide +kernel
theorem dX10_init_61 : decode cX10_init 61 = .ok (.aload_n 0, 1) := by decide +kernel
theorem dX10_init_62 : decode cX10_init 62 = .ok (.iconst 0, 1) := by decide +kernel
theorem dX10_init_63 : decode cX10_init 63 = .ok (.putfield 45, 3) := by decide +kernel
theorem dX10_init_66 : decode cX10_init 66 = .ok (.aload_n 0, 1) := by decide +kernel
theorem dX10_init_67 : decode cX10_init 67 = .ok (.iconst 0, 1) := by decide +kernel
theorem dX10_init_68 : decode cX10_init 68 = .ok (.putfield 48, 3) := by decide +kernel
theorem dX10_init_71 : decode cX10_init 71 = .ok (.iconst 0, 1) := by decide +kernel
theorem dX10_init_72 : decode cX10_init 72 = .ok (.istore_n 1, 1) := by decide +kernel
theorem dX10_init_73 : decode cX10_init 73 = .ok (.lconst 0, 1) := by decide +kernel
theorem dX10_init_74 : decode cX10_init 74 = .ok (.lstore_n 2, 1) := by decide +kernel
theorem dX10_init_75 : decode cX10_init 75 = .ok (.iconst 0, 1) := by decide +kernel
theorem dX10_init_76 : decode cX10_init 76 = .ok (.istore 4, 2) := by decide +kernel
theorem dX10_init_78 : decode cX10_init 78 = .ok (.iload 4, 2) := by decide +kernel
theorem dX10_init_80 : decode cX10_init 80 = .ok (.ldc 51, 2) := by decide +kernel
theorem dX10_init_82 : decode cX10_init 82 = .ok (.invokevirtual 53, 3) := by decide +kernel
theorem dX10_init_85 : decode cX10_init 85 = .ok (.if_icmp .ge 53, 3) := by decide +kernel
theorem dX10_init_88 : decode cX10_init 88 = .ok (.iload_n 1, 1) := by decide +kernel
theorem dX10_init_89 : decode cX10_init 89 = .ok (.bipush 27, 2) := by decide +kernel
theorem dX10_init_91 : decode cX10_init 91 = .ok (.if_icmp .ge 47, 3) := by decide +kernel
theorem dX10_init_94 : decode cX10_init 94 = .ok (.ldc 51, 2) := by decide +kernel
theorem dX10_init_96 : decode cX10_init 96 = .ok (.iload 4, 2) := by decide +kernel
theorem dX10_init_98 : decode cX10_init 98 = .ok (.invokevirtual 58, 3) := by decide +kernel
theorem dX10_init_101 : decode cX10_init 101 = .ok (.istore 5, 2) := by decide +kernel
theorem dX10_init_103 : decode cX10_init 103 = .ok (.iload 5, 2) := by decide +kernel
theorem dX10_init_105 : decode cX10_init 105 = .ok (.bipush 32, 2) := by decide +kernel
theorem dX10_init_107 : decode cX10_init 107 = .ok (.if_icmp .ne 18, 3) := by decide +kernel
theorem dX10_init_110 : decode cX10_init 110 = .ok (.aload_n 0, 1) := by decide +kernel
theorem dX10_init_111 : decode cX10_init 111 = .ok (.getfield 15, 3) := by decide +kernel
theorem dX10_init_114 : decode cX10_init 114 = .ok (.iload_n 1, 1) := by decide +kernel
theorem dX10_init_115 : decode cX10_init 115 = .ok (.lload_n 2, 1) := by decide +kernel
theorem dX10_init_116 : decode cX10_init 116 = .ok (.lastore, 1) := by decide +kernel
theorem dX10_init_117 : decode cX10_init 117 = .ok (.iinc 1 1, 3) := by decide +kernel
theorem dX10_init_120 : decode cX10_init 120 = .ok (.lconst 0, 1) := by decide +kernel
theorem dX10_init_121 : decode cX10_init 121 = .ok (.lstore_n 2, 1) := by decide +kernel
theorem dX10_init_122 : decode cX10_init 122 = .ok (.goto 10, 3) := by decide +kernel
theorem dX10_init_125 : decode cX10_init 125 = .ok (.lload_n 2, 1) := by decide +kernel
theorem dX10_init_126 : decode cX10_init 126 = .ok (.iload 5, 2) := by decide +kernel
theorem dX10_init_128 : decode cX10_init 128 = .ok (.invokestatic 62, 3) := by decide +kernel
theorem dX10_init_131 : decode cX10_init 131 = .ok (.lstore_n 2, 1) := by decide +kernel
theorem dX10_init_132 : decode cX10_init 132 = .ok (.iinc 4 1, 3) := by decide +kernel
theorem dX10_init_135 : decode cX10_init 135 = .ok (.goto (-57), 3) := by decide +kernel
theorem dX10_init_138 : decode cX10_init 138 = .ok (.return_, 1) := by decide +kernel
theorem dX10_withLetter_0 : decode cX10_withLetter 0 = .ok (.lload_n 0, 1) := by decide +kernel
theorem dX10_withLetter_1 : decode cX10_withLetter 1 = .ok (.ldc2_w 66, 3) := by decide +kernel
theorem dX10_withLetter_4 : decode cX10_withLetter 4 = .ok (.lmul, 1) := by decide +kernel
theorem dX10_withLetter_5 : decode cX10_withLetter 5 = .ok (.iload_n 2, 1) := by decide +kernel
theorem dX10_withLetter_6 : decode cX10_withLetter 6 = .ok (.bipush 97, 2) := by decide +kernel
theorem dX10_withLetter_8 : decode cX10_withLetter 8 = .ok (.isub, 1) := by decide +kernel
theorem dX10_withLetter_9 : decode cX10_withLetter 9 = .ok (.iconst 1, 1) := by decide +kernel
theorem dX10_withLetter_10 : decode cX10_withLetter 10 = .ok (.iadd, 1) := by decide +kernel
theorem dX10_withLetter_11 : decode cX10_withLetter 11 = .ok (.i2l, 1) := by decide +kernel
theorem dX10_withLetter_12 : decode cX10_withLetter 12 = .ok (.ladd, 1) := by decide +kernel
theorem dX10_withLetter_13 : decode cX10_withLetter 13 = .ok (.lreturn, 1) := by decide +kernel
theorem dX10_isLetter_0 : decode cX10_isLetter 0 = .ok (.iload_n 0, 1) := by decide +kernel
theorem dX10_isLetter_1 : decode cX10_isLetter 1 = .ok (.bipush 97, 2) := by decide +kernel
theorem dX10_isLetter_3 : decode cX10_isLetter 3 = .ok (.if_icmp .lt 13, 3) := by decide +kernel
theorem dX10_isLetter_6 : decode cX10_isLetter 6 = .ok (.iload_n 0, 1) := by decide +kernel
theorem dX10_isLetter_7 : decode cX10_isLetter 7 = .ok (.bipush 122, 2) := by decide +kernel
theorem dX10_isLetter_9 : decode cX10_isLetter 9 = .ok (.if_icmp .gt 7, 3) := by decide +kernel
theorem dX10_isLetter_12 : decode cX10_isLetter 12 = .ok (.iconst 1, 1) := by decide +kernel
theorem dX10_isLetter_13 : decode cX10_isLetter 13 = .ok (.goto 4, 3) := by decide +kernel
theorem dX10_isLetter_16 : decode cX10_isLetter 16 = .ok (.iconst 0, 1) := by decide +kernel
theorem dX10_isLetter_17 : decode cX10_isLetter 17 = .ok (.ireturn, 1) := by decide +kernel
theorem dX10_isDigit_0 : decode cX10_isDigit 0 = .ok (.iload_n 0, 1) := by decide +kernel
theorem dX10_isDigit_1 : decode cX10_isDigit 1 = .ok (.bipush 48, 2) := by decide +kernel
theorem dX10_isDigit_3 : decode cX10_isDigit 3 = .ok (.if_icmp .lt 13, 3) := by decide +kernel
theorem dX10_isDigit_6 : decode cX10_isDigit 6 = .ok (.iload_n 0, 1) := by decide +kernel
theorem dX10_isDigit_7 : decode cX10_isDigit 7 = .ok (.bipush 57, 2) := by decide +kernel
theorem dX10_isDigit_9 : decode cX10_isDigit 9 = .ok (.if_icmp .gt 7, 3) := by decide +kernel
theorem dX10_isDigit_12 : decode cX10_isDigit 12 = .ok (.iconst 1, 1) := by decide +kernel
theorem dX10_isDigit_13 : decode cX10_isDigit 13 = .ok (.goto 4, 3) := by decide +kernel
theorem dX10_isDigit_16 : decode cX10_isDigit 16 = .ok (.iconst 0, 1) := by decide +kernel
theorem dX10_isDigit_17 : decode cX10_isDigit 17 = .ok (.ireturn, 1) := by decide +kernel
theorem dX10_isSign_0 : decode cX10_isSign 0 = .ok (.iload_n 0, 1) := by decide +kernel
theorem dX10_isSign_1 : decode cX10_isSign 1 = .ok (.bipush 59, 2) := by decide +kernel
theorem dX10_isSign_3 : decode cX10_isSign 3 = .ok (.if_icmp .eq 22, 3) := by decide +kernel
theorem dX10_isSign_6 : decode cX10_isSign 6 = .ok (.iload_n 0, 1) := by decide +kernel
theorem dX10_isSign_7 : decode cX10_isSign 7 = .ok (.bipush 40, 2) := by decide +kernel
theorem dX10_isSign_9 : decode cX10_isSign 9 = .ok (.if_icmp .eq 16, 3) := by decide +kernel
theorem dX10_isSign_12 : decode cX10_isSign 12 = .ok (.iload_n 0, 1) := by decide +kernel
theorem dX10_isSign_13 : decode cX10_isSign 13 = .ok (.bipush 41, 2) := by decide +kernel
theorem dX10_isSign_15 : decode cX10_isSign 15 = .ok (.if_icmp .eq 10, 3) := by decide +kernel
theorem dX10_isSign_18 : decode cX10_isSign 18 = .ok (.iload_n 0, 1) := by decide +kernel
theorem dX10_isSign_19 : decode cX10_isSign 19 = .ok (.invokestatic 68, 3) := by decide +kernel
theorem dX10_isSign_22 : decode cX10_isSign 22 = .ok (.ifCond .eq 7, 3) := by decide +kernel
theorem dX10_isSign_25 : decode cX10_isSign 25 = .ok (.iconst 1, 1) := by decide +kernel
theorem dX10_isSign_26 : decode cX10_isSign 26 = .ok (.goto 4, 3) := by decide +kernel
theorem dX10_isSign_29 : decode cX10_isSign 29 = .ok (.iconst 0, 1) := by decide +kernel
theorem dX10_isSign_30 : decode cX10_isSign 30 = .ok (.ireturn, 1) := by decide +kernel
theorem dX10_isCompare_0 : decode cX10_isCompare 0 = .ok (.iload_n 0, 1) := by decide +kernel
theorem dX10_isCompare_1 : decode cX10_isCompare 1 = .ok (.bipush 60, 2) := by decide +kernel
theorem dX10_isCompare_3 : decode cX10_isCompare 3 = .ok (.if_icmp .eq 15, 3) := by decide +kernel
theorem dX10_isCompare_6 : decode cX10_isCompare 6 = .ok (.iload_n 0, 1) := by decide +kernel
theorem dX10_isCompare_7 : decode cX10_isCompare 7 = .ok (.bipush 61, 2) := by decide +kernel
theorem dX10_isCompare_9 : decode cX10_isCompare 9 = .ok (.if_icmp .eq 9, 3) := by decide +kernel
theorem dX10_isCompare_12 : decode cX10_isCompare 12 = .ok (.iload_n 0, 1) := by decide +kernel
theorem dX10_isCompare_13 : decode cX10_isCompare 13 = .ok (.bipush 62, 2) := by decide +kernel
theorem dX10_isCompare_15 : decode cX10_isCompare 15 = .ok (.if_icmp .ne 7, 3) := by decide +kernel
theorem dX10_isCompare_18 : decode cX10_isCompare 18 = .ok (.iconst 1, 1) := by decide +kernel
theorem dX10_isCompare_19 : decode cX10_isCompare 19 = .ok (.goto 4, 3) := by decide +kernel
theorem dX10_isCompare_22 : decode cX10_isCompare 22 = .ok (.iconst 0, 1) := by decide +kernel
theorem dX10_isCompare_23 : decode cX10_isCompare 23 = .ok (.ireturn, 1) := by decide +kernel
theorem dX10_append_0 : decode cX10_append 0 = .ok (.bipush 24, 2) := by decide +kernel
theorem dX10_append_2 : decode cX10_append 2 = .ok (.istore_n 2, 1) := by decide +kernel
theorem dX10_append_3 : decode cX10_append 3 = .ok (.iload_n 2, 1) := by decide +kernel
theorem dX10_append_4 : decode cX10_append 4 = .ok (.ifCond .lt 42, 3) := by decide +kernel
theorem dX10_append_7 : decode cX10_append 7 = .ok (.aload_n 0, 1) := by decide +kernel
theorem dX10_append_8 : decode cX10_append 8 = .ok (.getfield 19, 3) := by decide +kernel
theorem dX10_append_11 : decode cX10_append 11 = .ok (.sipush 940, 3) := by decide +kernel
theorem dX10_append_14 : decode cX10_append 14 = .ok (.if_icmp .ge 32, 3) := by decide +kernel
theorem dX10_append_17 : decode cX10_append 17 = .ok (.aload_n 0, 1) := by decide +kernel
theorem dX10_append_18 : decode cX10_append 18 = .ok (.getfield 9, 3) := by decide +kernel
theorem dX10_append_21 : decode cX10_append 21 = .ok (.aload_n 0, 1) := by decide +kernel
theorem dX10_append_22 : decode cX10_append 22 = .ok (.getfield 19, 3) := by decide +kernel
theorem dX10_append_25 : decode cX10_append 25 = .ok (.iload_n 1, 1) := by decide +kernel
theorem dX10_append_26 : decode cX10_append 26 = .ok (.iload_n 2, 1) := by decide +kernel
theorem dX10_append_27 : decode cX10_append 27 = .ok (.iushr, 1) := by decide +kernel
theorem dX10_append_28 : decode cX10_append 28 = .ok (.i2b, 1) := by decide +kernel
theorem dX10_append_29 : decode cX10_append 29 = .ok (.bastore, 1) := by decide +kernel
theorem dX10_append_30 : decode cX10_append 30 = .ok (.aload_n 0, 1) := by decide +kernel
theorem dX10_append_31 : decode cX10_append 31 = .ok (.dup, 1) := by decide +kernel
theorem dX10_append_32 : decode cX10_append 32 = .ok (.getfield 19, 3) := by decide +kernel
theorem dX10_append_35 : decode cX10_append 35 = .ok (.iconst 1, 1) := by decide +kernel
theorem dX10_append_36 : decode cX10_append 36 = .ok (.iadd, 1) := by decide +kernel
theorem dX10_append_37 : decode cX10_append 37 = .ok (.putfield 19, 3) := by decide +kernel
theorem dX10_append_40 : decode cX10_append 40 = .ok (.iinc 2 (-8), 3) := by decide +kernel
theorem dX10_append_43 : decode cX10_append 43 = .ok (.goto (-40), 3) := by decide +kernel
theorem dX10_append_46 : decode cX10_append 46 = .ok (.return_, 1) := by decide +kernel
theorem dX10_startReading_0 : decode cX10_startReading 0 = .ok (.aload_n 0, 1) := by decide +kernel
theorem dX10_startReading_1 : decode cX10_startReading 1 = .ok (.iload_n 1, 1) := by decide +kernel
theorem dX10_startReading_2 : decode cX10_startReading 2 = .ok (.putfield 23, 3) := by decide +kernel
theorem dX10_startReading_5 : decode cX10_startReading 5 = .ok (.aload_n 0, 1) := by decide +kernel
theorem dX10_startReading_6 : decode cX10_startReading 6 = .ok (.iconst 0, 1) := by decide +kernel
theorem dX10_startReading_7 : decode cX10_startReading 7 = .ok (.putfield 26, 3) := by decide +kernel
theorem dX10_startReading_10 : decode cX10_startReading 10 = .ok (.aload_n 0, 1) := by decide +kernel
theorem dX10_startReading_11 : decode cX10_startReading 11 = .ok (.iconst 0, 1) := by decide +kernel
theorem dX10_startReading_12 : decode cX10_startReading 12 = .ok (.putfield 29, 3) := by decide +kernel
theorem dX10_startReading_15 : decode cX10_startReading 15 = .ok (.aload_n 0, 1) := by decide +kernel
theorem dX10_startReading_16 : decode cX10_startReading 16 = .ok (.iconst 0, 1) := by decide +kernel
theorem dX10_startReading_17 : decode cX10_startReading 17 = .ok (.putfield 45, 3) := by decide +kernel
theorem dX10_startReading_20 : decode cX10_startReading 20 = .ok (.aload_n 0, 1) := by decide +kernel
theorem dX10_startReading_21 : decode cX10_startReading 21 = .ok (.iconst 0, 1) := by decide +kernel
theorem dX10_startReading_22 : decode cX10_startReading 22 = .ok (.putfield 48, 3) := by decide +kernel
theorem dX10_startReading_25 : decode cX10_startReading 25 = .ok (.aload_n 0, 1) := by decide +kernel
theorem dX10_startReading_26 : decode cX10_startReading 26 = .ok (.invokevirtual 72, 3) := by decide +kernel
theorem dX10_startReading_29 : decode cX10_startReading 29 = .ok (.return_, 1) := by decide +kernel
theorem dX10_readNext_0 : decode cX10_readNext 0 = .ok (.aload_n 0, 1) := by decide +kernel
theorem dX10_readNext_1 : decode cX10_readNext 1 = .ok (.getfield 26, 3) := by decide +kernel
theorem dX10_readNext_4 : decode cX10_readNext 4 = .ok (.aload_n 0, 1) := by decide +kernel
theorem dX10_readNext_5 : decode cX10_readNext 5 = .ok (.getfield 19, 3) := by decide +kernel
theorem dX10_readNext_8 : decode cX10_readNext 8 = .ok (.if_icmp .ge 44, 3) := by decide +kernel
theorem dX10_readNext_11 : decode cX10_readNext 11 = .ok (.aload_n 0, 1) := by decide +kernel
theorem dX10_readNext_12 : decode cX10_readNext 12 = .ok (.getfield 9, 3) := by decide +kernel
theorem dX10_readNext_15 : decode cX10_readNext 15 = .ok (.aload_n 0, 1) := by decide +kernel
theorem dX10_readNext_16 : decode cX10_readNext 16 = .ok (.getfield 26, 3) := by decide +kernel
theorem dX10_readNext_19 : decode cX10_readNext 19 = .ok (.baload, 1) := by decide +kernel
theorem dX10_readNext_20 : decode cX10_readNext 20 = .ok (.bipush 32, 2) := by decide +kernel
theorem dX10_readNext_22 : decode cX10_readNext 22 = .ok (.if_icmp .eq 17, 3) := by decide +kernel
theorem dX10_readNext_25 : decode cX10_readNext 25 = .ok (.aload_n 0, 1) := by decide +kernel
theorem dX10_readNext_26 : decode cX10_readNext 26 = .ok (.getfield 9, 3) := by decide +kernel
theorem dX10_readNext_29 : decode cX10_readNext 29 = .ok (.aload_n 0, 1) := by decide +kernel
theorem dX10_readNext_30 : decode cX10_readNext 30 = .ok (.getfield 26, 3) := by decide +kernel
theorem dX10_readNext_33 : decode cX10_readNext 33 = .ok (.baload, 1) := by decide +kernel
theorem dX10_readNext_34 : decode cX10_readNext 34 = .ok (.bipush 10, 2) := by decide +kernel
theorem dX10_readNext_36 : decode cX10_readNext 36 = .ok (.if_icmp .ne 16, 3) := by decide +kernel
theorem dX10_readNext_39 : decode cX10_readNext 39 = .ok (.aload_n 0, 1) := by decide +kernel
theorem dX10_readNext_40 : decode cX10_readNext 40 = .ok (.dup, 1) := by decide +kernel
theorem dX10_readNext_41 : decode cX10_readNext 41 = .ok (.getfield 26, 3) := by decide +kernel
theorem dX10_readNext_44 : decode cX10_readNext 44 = .ok (.iconst 1, 1) := by decide +kernel
theorem dX10_readNext_45 : decode cX10_readNext 45 = .ok (.iadd, 1) := by decide +kernel
theorem dX10_readNext_46 : decode cX10_readNext 46 = .ok (.putfield 26, 3) := by decide +kernel
theorem dX10_readNext_49 : decode cX10_readNext 49 = .ok (.goto (-49), 3) := by decide +kernel
theorem dX10_readNext_52 : decode cX10_readNext 52 = .ok (.aload_n 0, 1) := by decide +kernel
theorem dX10_readNext_53 : decode cX10_readNext 53 = .ok (.getfield 26, 3) := by decide +kernel
theorem dX10_readNext_56 : decode cX10_readNext 56 = .ok (.aload_n 0, 1) := by decide +kernel
theorem dX10_readNext_57 : decode cX10_readNext 57 = .ok (.getfield 23, 3) := by decide +kernel
theorem dX10_readNext_60 : decode cX10_readNext 60 = .ok (.if_icmp .lt 28, 3) := by decide +kernel
theorem dX10_readNext_63 : decode cX10_readNext 63 = .ok (.aload_n 0, 1) := by decide +kernel
theorem dX10_readNext_64 : decode cX10_readNext 64 = .ok (.getfield 19, 3) := by decide +kernel
theorem dX10_readNext_67 : decode cX10_readNext 67 = .ok (.aload_n 0, 1) := by decide +kernel
theorem dX10_readNext_68 : decode cX10_readNext 68 = .ok (.getfield 23, 3) := by decide +kernel
theorem dX10_readNext_71 : decode cX10_readNext 71 = .ok (.if_icmp .le 17, 3) := by decide +kernel
theorem dX10_readNext_74 : decode cX10_readNext 74 = .ok (.aload_n 0, 1) := by decide +kernel
theorem dX10_readNext_75 : decode cX10_readNext 75 = .ok (.aload_n 0, 1) := by decide +kernel
theorem dX10_readNext_76 : decode cX10_readNext 76 = .ok (.getfield 23, 3) := by decide +kernel
theorem dX10_readNext_79 : decode cX10_readNext 79 = .ok (.putfield 29, 3) := by decide +kernel
theorem dX10_readNext_82 : decode cX10_readNext 82 = .ok (.aload_n 0, 1) := by decide +kernel
theorem dX10_readNext_83 : decode cX10_readNext 83 = .ok (.iconst 1, 1) := by decide +kernel
theorem dX10_readNext_84 : decode cX10_readNext 84 = .ok (.putfield 32, 3) := by decide +kernel
theorem dX10_readNext_87 : decode cX10_readNext 87 = .ok (.return_, 1) := by decide +kernel
theorem dX10_readNext_88 : decode cX10_readNext 88 = .ok (.aload_n 0, 1) := by decide +kernel
theorem dX10_readNext_89 : decode cX10_readNext 89 = .ok (.aload_n 0, 1) := by decide +kernel
theorem dX10_readNext_90 : decode cX10_readNext 90 = .ok (.getfield 26, 3) := by decide +kernel
theorem dX10_readNext_93 : decode cX10_readNext 93 = .ok (.putfield 29, 3) := by decide +kernel
theorem dX10_readNext_96 : decode cX10_readNext 96 = .ok (.aload_n 0, 1) := by decide +kernel
theorem dX10_readNext_97 : decode cX10_readNext 97 = .ok (.getfield 26, 3) := by decide +kernel
theorem dX10_readNext_100 : decode cX10_readNext 100 = .ok (.aload_n 0, 1) := by decide +kernel
theorem dX10_readNext_101 : decode cX10_readNext 101 = .ok (.getfield 19, 3) := by decide +kernel
theorem dX10_readNext_104 : decode cX10_readNext 104 = .ok (.if_icmp .lt 11, 3) := by decide +kernel
theorem dX10_readNext_107 : decode cX10_readNext 107 = .ok (.aload_n 0, 1) := by decide +kernel
theorem dX10_readNext_108 : decode cX10_readNext 108 = .ok (.iconst 0, 1) := by decide +kernel
theorem dX10_readNext_109 : decode cX10_readNext 109 = .ok (.putfield 32, 3) := by decide +kernel
theorem dX10_readNext_112 : decode cX10_readNext 112 = .ok (.goto 82, 3) := by decide +kernel
theorem dX10_readNext_115 : decode cX10_readNext 115 = .ok (.aload_n 0, 1) := by decide +kernel
theorem dX10_readNext_116 : decode cX10_readNext 116 = .ok (.getfield 9, 3) := by decide +kernel
theorem dX10_readNext_119 : decode cX10_readNext 119 = .ok (.aload_n 0, 1) := by decide +kernel
theorem dX10_readNext_120 : decode cX10_readNext 120 = .ok (.getfield 26, 3) := by decide +kernel
theorem dX10_readNext_123 : decode cX10_readNext 123 = .ok (.baload, 1) := by decide +kernel
theorem dX10_readNext_124 : decode cX10_readNext 124 = .ok (.invokestatic 75, 3) := by decide +kernel
theorem dX10_readNext_127 : decode cX10_readNext 127 = .ok (.ifCond .ne 18, 3) := by decide +kernel
theorem dX10_readNext_130 : decode cX10_readNext 130 = .ok (.aload_n 0, 1) := by decide +kernel
theorem dX10_readNext_131 : decode cX10_readNext 131 = .ok (.getfield 9, 3) := by decide +kernel
theorem dX10_readNext_134 : decode cX10_readNext 134 = .ok (.aload_n 0, 1) := by decide +kernel
theorem dX10_readNext_135 : decode cX10_readNext 135 = .ok (.getfield 26, 3) := by decide +kernel
theorem dX10_readNext_138 : decode cX10_readNext 138 = .ok (.baload, 1) := by decide +kernel
theorem dX10_readNext_139 : decode cX10_readNext 139 = .ok (.invokestatic 78, 3) := by decide +kernel
theorem dX10_readNext_142 : decode cX10_readNext 142 = .ok (.ifCond .eq 10, 3) := by decide +kernel
theorem dX10_readNext_145 : decode cX10_readNext 145 = .ok (.aload_n 0, 1) := by decide +kernel
theorem dX10_readNext_146 : decode cX10_readNext 146 = .ok (.invokevirtual 81, 3) := by decide +kernel
theorem dX10_readNext_149 : decode cX10_readNext 149 = .ok (.goto 45, 3) := by decide +kernel
theorem dX10_readNext_152 : decode cX10_readNext 152 = .ok (.aload_n 0, 1) := by decide +kernel
theorem dX10_readNext_153 : decode cX10_readNext 153 = .ok (.aload_n 0, 1) := by decide +kernel
theorem dX10_readNext_154 : decode cX10_readNext 154 = .ok (.getfield 9, 3) := by decide +kernel
theorem dX10_readNext_157 : decode cX10_readNext 157 = .ok (.aload_n 0, 1) := by decide +kernel
theorem dX10_readNext_158 : decode cX10_readNext 158 = .ok (.getfield 26, 3) := by decide +kernel
theorem dX10_readNext_161 : decode cX10_readNext 161 = .ok (.baload, 1) := by decide +kernel
theorem dX10_readNext_162 : decode cX10_readNext 162 = .ok (.invokestatic 84, 3) := by decide +kernel
theorem dX10_readNext_165 : decode cX10_readNext 165 = .ok (.ifCond .eq 15, 3) := by decide +kernel
theorem dX10_readNext_168 : decode cX10_readNext 168 = .ok (.aload_n 0, 1) := by decide +kernel
theorem dX10_readNext_169 : decode cX10_readNext 169 = .ok (.getfield 9, 3) := by decide +kernel
theorem dX10_readNext_172 : decode cX10_readNext 172 = .ok (.aload_n 0, 1) := by decide +kernel
theorem dX10_readNext_173 : decode cX10_readNext 173 = .ok (.getfield 26, 3) := by decide +kernel
theorem dX10_readNext_176 : decode cX10_readNext 176 = .ok (.baload, 1) := by decide +kernel
theorem dX10_readNext_177 : decode cX10_readNext 177 = .ok (.goto 4, 3) := by decide +kernel
theorem dX10_readNext_180 : decode cX10_readNext 180 = .ok (.iconst 1, 1) := by decide +kernel
theorem dX10_readNext_181 : decode cX10_readNext 181 = .ok (.putfield 32, 3) := by decide +kernel
theorem dX10_readNext_184 : decode cX10_readNext 184 = .ok (.aload_n 0, 1) := by decide +kernel
theorem dX10_readNext_185 : decode cX10_readNext 185 = .ok (.dup, 1) := by decide +kernel
theorem dX10_readNext_186 : decode cX10_readNext 186 = .ok (.getfield 26, 3) := by decide +kernel
theorem dX10_readNext_189 : decode cX10_readNext 189 = .ok (.iconst 1, 1) := by decide +kernel
theorem dX10_readNext_190 : decode cX10_readNext 190 = .ok (.iadd, 1) := by decide +kernel
theorem dX10_readNext_191 : decode cX10_readNext 191 = .ok (.putfield 26, 3) := by decide +kernel
theorem dX10_readNext_194 : decode cX10_readNext 194 = .ok (.return_, 1) := by decide +kernel
theorem dX10_readRun_0 : decode cX10_readRun 0 = .ok (.iconst 0, 1) := by decide +kernel
theorem dX10_readRun_1 : decode cX10_readRun 1 = .ok (.istore_n 1, 1) := by decide +kernel
theorem dX10_readRun_2 : decode cX10_readRun 2 = .ok (.iconst 0, 1) := by decide +kernel
theorem dX10_readRun_3 : decode cX10_readRun 3 = .ok (.istore_n 2, 1) := by decide +kernel
theorem dX10_readRun_4 : decode cX10_readRun 4 = .ok (.aload_n 0, 1) := by decide +kernel
theorem dX10_readRun_5 : decode cX10_readRun 5 = .ok (.lconst 0, 1) := by decide +kernel
theorem dX10_readRun_6 : decode cX10_readRun 6 = .ok (.putfield 35, 3) := by decide +kernel
theorem dX10_readRun_9 : decode cX10_readRun 9 = .ok (.aload_n 0, 1) := by decide +kernel
theorem dX10_readRun_10 : decode cX10_readRun 10 = .ok (.iconst 0, 1) := by decide +kernel
theorem dX10_readRun_11 : decode cX10_readRun 11 = .ok (.putfield 39, 3) := by decide +kernel
theorem dX10_readRun_14 : decode cX10_readRun 14 = .ok (.aload_n 0, 1) := by decide +kernel
theorem dX10_readRun_15 : decode cX10_readRun 15 = .ok (.getfield 26, 3) := by decide +kernel
theorem dX10_readRun_18 : decode cX10_readRun 18 = .ok (.aload_n 0, 1) := by decide +kernel
theorem dX10_readRun_19 : decode cX10_readRun 19 = .ok (.getfield 19, 3) := by decide +kernel
theorem dX10_readRun_22 : decode cX10_readRun 22 = .ok (.if_icmp .ge 114, 3) := by decide +kernel
theorem dX10_readRun_25 : decode cX10_readRun 25 = .ok (.aload_n 0, 1) := by decide +kernel
theorem dX10_readRun_26 : decode cX10_readRun 26 = .ok (.getfield 9, 3) := by decide +kernel
theorem dX10_readRun_29 : decode cX10_readRun 29 = .ok (.aload_n 0, 1) := by decide +kernel
theorem dX10_readRun_30 : decode cX10_readRun 30 = .ok (.getfield 26, 3) := by decide +kernel
theorem dX10_readRun_33 : decode cX10_readRun 33 = .ok (.baload, 1) := by decide +kernel
theorem dX10_readRun_34 : decode cX10_readRun 34 = .ok (.invokestatic 75, 3) := by decide +kernel
theorem dX10_readRun_37 : decode cX10_readRun 37 = .ok (.ifCond .ne 18, 3) := by decide +kernel
theorem dX10_readRun_40 : decode cX10_readRun 40 = .ok (.aload_n 0, 1) := by decide +kernel
theorem dX10_readRun_41 : decode cX10_readRun 41 = .ok (.getfield 9, 3) := by decide +kernel
theorem dX10_readRun_44 : decode cX10_readRun 44 = .ok (.aload_n 0, 1) := by decide +kernel
theorem dX10_readRun_45 : decode cX10_readRun 45 = .ok (.getfield 26, 3) := by decide +kernel
theorem dX10_readRun_48 : decode cX10_readRun 48 = .ok (.baload, 1) := by decide +kernel
theorem dX10_readRun_49 : decode cX10_readRun 49 = .ok (.invokestatic 78, 3) := by decide +kernel
theorem dX10_readRun_52 : decode cX10_readRun 52 = .ok (.ifCond .eq 84, 3) := by decide +kernel
theorem dX10_readRun_55 : decode cX10_readRun 55 = .ok (.aload_n 0, 1) := by decide +kernel
theorem dX10_readRun_56 : decode cX10_readRun 56 = .ok (.getfield 9, 3) := by decide +kernel
theorem dX10_readRun_59 : decode cX10_readRun 59 = .ok (.aload_n 0, 1) := by decide +kernel
theorem dX10_readRun_60 : decode cX10_readRun 60 = .ok (.getfield 26, 3) := by decide +kernel
theorem dX10_readRun_63 : decode cX10_readRun 63 = .ok (.baload, 1) := by decide +kernel
theorem dX10_readRun_64 : decode cX10_readRun 64 = .ok (.invokestatic 75, 3) := by decide +kernel
theorem dX10_readRun_67 : decode cX10_readRun 67 = .ok (.ifCond .eq 29, 3) := by decide +kernel
theorem dX10_readRun_70 : decode cX10_readRun 70 = .ok (.iinc 1 1, 3) := by decide +kernel
theorem dX10_readRun_73 : decode cX10_readRun 73 = .ok (.aload_n 0, 1) := by decide +kernel
theorem dX10_readRun_74 : decode cX10_readRun 74 = .ok (.aload_n 0, 1) := by decide +kernel
theorem dX10_readRun_75 : decode cX10_readRun 75 = .ok (.getfield 35, 3) := by decide +kernel
theorem dX10_readRun_78 : decode cX10_readRun 78 = .ok (.aload_n 0, 1) := by decide +kernel
theorem dX10_readRun_79 : decode cX10_readRun 79 = .ok (.getfield 9, 3) := by decide +kernel
theorem dX10_readRun_82 : decode cX10_readRun 82 = .ok (.aload_n 0, 1) := by decide +kernel
theorem dX10_readRun_83 : decode cX10_readRun 83 = .ok (.getfield 26, 3) := by decide +kernel
theorem dX10_readRun_86 : decode cX10_readRun 86 = .ok (.baload, 1) := by decide +kernel
theorem dX10_readRun_87 : decode cX10_readRun 87 = .ok (.invokestatic 62, 3) := by decide +kernel
theorem dX10_readRun_90 : decode cX10_readRun 90 = .ok (.putfield 35, 3) := by decide +kernel
theorem dX10_readRun_93 : decode cX10_readRun 93 = .ok (.goto 30, 3) := by decide +kernel
theorem dX10_readRun_96 : decode cX10_readRun 96 = .ok (.iinc 2 1, 3) := by decide +kernel
theorem dX10_readRun_99 : decode cX10_readRun 99 = .ok (.aload_n 0, 1) := by decide +kernel
theorem dX10_readRun_100 : decode cX10_readRun 100 = .ok (.aload_n 0, 1) := by decide +kernel
theorem dX10_readRun_101 : decode cX10_readRun 101 = .ok (.getfield 39, 3) := by decide +kernel
theorem dX10_readRun_104 : decode cX10_readRun 104 = .ok (.bipush 10, 2) := by decide +kernel
theorem dX10_readRun_106 : decode cX10_readRun 106 = .ok (.imul, 1) := by decide +kernel
theorem dX10_readRun_107 : decode cX10_readRun 107 = .ok (.aload_n 0, 1) := by decide +kernel
theorem dX10_readRun_108 : decode cX10_readRun 108 = .ok (.getfield 9, 3) := by decide +kernel
theorem dX10_readRun_111 : decode cX10_readRun 111 = .ok (.aload_n 0, 1) := by decide +kernel
theorem dX10_readRun_112 : decode cX10_readRun 112 = .ok (.getfield 26, 3) := by decide +kernel
theorem dX10_readRun_115 : decode cX10_readRun 115 = .ok (.baload, 1) := by decide +kernel
theorem dX10_readRun_116 : decode cX10_readRun 116 = .ok (.bipush 48, 2) := by decide +kernel
theorem dX10_readRun_118 : decode cX10_readRun 118 = .ok (.isub, 1) := by decide +kernel
theorem dX10_readRun_119 : decode cX10_readRun 119 = .ok (.iadd, 1) := by decide +kernel
theorem dX10_readRun_120 : decode cX10_readRun 120 = .ok (.putfield 39, 3) := by decide +kernel
theorem dX10_readRun_123 : decode cX10_readRun 123 = .ok (.aload_n 0, 1) := by decide +kernel
theorem dX10_readRun_124 : decode cX10_readRun 124 = .ok (.dup, 1) := by decide +kernel
theorem dX10_readRun_125 : decode cX10_readRun 125 = .ok (.getfield 26, 3) := by decide +kernel
theorem dX10_readRun_128 : decode cX10_readRun 128 = .ok (.iconst 1, 1) := by decide +kernel
theorem dX10_readRun_129 : decode cX10_readRun 129 = .ok (.iadd, 1) := by decide +kernel
theorem dX10_readRun_130 : decode cX10_readRun 130 = .ok (.putfield 26, 3) := by decide +kernel
theorem dX10_readRun_133 : decode cX10_readRun 133 = .ok (.goto (-119), 3) := by decide +kernel
theorem dX10_readRun_136 : decode cX10_readRun 136 = .ok (.iload_n 2, 1) := by decide +kernel
theorem dX10_readRun_137 : decode cX10_readRun 137 = .ok (.ifCond .ne 20, 3) := by decide +kernel
theorem dX10_readRun_140 : decode cX10_readRun 140 = .ok (.iload_n 1, 1) := by decide +kernel
theorem dX10_readRun_141 : decode cX10_readRun 141 = .ok (.bipush 7, 2) := by decide +kernel
theorem dX10_readRun_143 : decode cX10_readRun 143 = .ok (.if_icmp .gt 14, 3) := by decide +kernel
theorem dX10_readRun_146 : decode cX10_readRun 146 = .ok (.aload_n 0, 1) := by decide +kernel
theorem dX10_readRun_147 : decode cX10_readRun 147 = .ok (.aload_n 0, 1) := by decide +kernel
theorem dX10_readRun_148 : decode cX10_readRun 148 = .ok (.invokevirtual 87, 3) := by decide +kernel
theorem dX10_readRun_151 : decode cX10_readRun 151 = .ok (.putfield 32, 3) := by decide +kernel
theorem dX10_readRun_154 : decode cX10_readRun 154 = .ok (.goto 21, 3) := by decide +kernel
theorem dX10_readRun_157 : decode cX10_readRun 157 = .ok (.aload_n 0, 1) := by decide +kernel
theorem dX10_readRun_158 : decode cX10_readRun 158 = .ok (.iload_n 1, 1) := by decide +kernel
theorem dX10_readRun_159 : decode cX10_readRun 159 = .ok (.ifCond .ne 12, 3) := by decide +kernel
theorem dX10_readRun_162 : decode cX10_readRun 162 = .ok (.iload_n 2, 1) := by decide +kernel
theorem dX10_readRun_163 : decode cX10_readRun 163 = .ok (.iconst 3, 1) := by decide +kernel
theorem dX10_readRun_164 : decode cX10_readRun 164 = .ok (.if_icmp .gt 7, 3) := by decide +kernel
theorem dX10_readRun_167 : decode cX10_readRun 167 = .ok (.iconst 3, 1) := by decide +kernel
theorem dX10_readRun_168 : decode cX10_readRun 168 = .ok (.goto 4, 3) := by decide +kernel
theorem dX10_readRun_171 : decode cX10_readRun 171 = .ok (.iconst 1, 1) := by decide +kernel
theorem dX10_readRun_172 : decode cX10_readRun 172 = .ok (.putfield 32, 3) := by decide +kernel
theorem dX10_readRun_175 : decode cX10_readRun 175 = .ok (.return_, 1) := by decide +kernel
theorem dX10_kindOfWord_0 : decode cX10_kindOfWord 0 = .ok (.iconst 0, 1) := by decide +kernel
theorem dX10_kindOfWord_1 : decode cX10_kindOfWord 1 = .ok (.istore_n 1, 1) := by decide +kernel
theorem dX10_kindOfWord_2 : decode cX10_kindOfWord 2 = .ok (.iload_n 1, 1) := by decide +kernel
theorem dX10_kindOfWord_3 : decode cX10_kindOfWord 3 = .ok (.bipush 27, 2) := by decide +kernel
theorem dX10_kindOfWord_5 : decode cX10_kindOfWord 5 = .ok (.if_icmp .ge 28, 3) := by decide +kernel
theorem dX10_kindOfWord_8 : decode cX10_kindOfWord 8 = .ok (.aload_n 0, 1) := by decide +kernel
theorem dX10_kindOfWord_9 : decode cX10_kindOfWord 9 = .ok (.getfield 15, 3) := by decide +kernel
theorem dX10_kindOfWord_12 : decode cX10_kindOfWord 12 = .ok (.iload_n 1, 1) := by decide +kernel
theorem dX10_kindOfWord_13 : decode cX10_kindOfWord 13 = .ok (.laload, 1) := by decide +kernel
theorem dX10_kindOfWord_14 : decode cX10_kindOfWord 14 = .ok (.aload_n 0, 1) := by decide +kernel
theorem dX10_kindOfWord_15 : decode cX10_kindOfWord 15 = .ok (.getfield 35, 3) := by decide +kernel
theorem dX10_kindOfWord_18 : decode cX10_kindOfWord 18 = .ok (.lcmp, 1) := by decide +kernel
theorem dX10_kindOfWord_19 : decode cX10_kindOfWord 19 = .ok (.ifCond .ne 8, 3) := by decide +kernel
theorem dX10_kindOfWord_22 : decode cX10_kindOfWord 22 = .ok (.bipush 100, 2) := by decide +kernel
theorem dX10_kindOfWord_24 : decode cX10_kindOfWord 24 = .ok (.iload_n 1, 1) := by decide +kernel
theorem dX10_kindOfWord_25 : decode cX10_kindOfWord 25 = .ok (.iadd, 1) := by decide +kernel
theorem dX10_kindOfWord_26 : decode cX10_kindOfWord 26 = .ok (.ireturn, 1) := by decide +kernel
theorem dX10_kindOfWord_27 : decode cX10_kindOfWord 27 = .ok (.iinc 1 1, 3) := by decide +kernel
theorem dX10_kindOfWord_30 : decode cX10_kindOfWord 30 = .ok (.goto (-28), 3) := by decide +kernel
theorem dX10_kindOfWord_33 : decode cX10_kindOfWord 33 = .ok (.iconst 2, 1) := by decide +kernel
theorem dX10_kindOfWord_34 : decode cX10_kindOfWord 34 = .ok (.ireturn, 1) := by decide +kernel
theorem dX10_fail_0 : decode cX10_fail 0 = .ok (.aload_n 0, 1) := by decide +kernel
theorem dX10_fail_1 : decode cX10_fail 1 = .ok (.iload_n 1, 1) := by decide +kernel
theorem dX10_fail_2 : decode cX10_fail 2 = .ok (.putfield 45, 3) := by decide +kernel
theorem dX10_fail_5 : decode cX10_fail 5 = .ok (.aload_n 0, 1) := by decide +kernel
theorem dX10_fail_6 : decode cX10_fail 6 = .ok (.aload_n 0, 1) := by decide +kernel
theorem dX10_fail_7 : decode cX10_fail 7 = .ok (.getfield 29, 3) := by decide +kernel
theorem dX10_fail_10 : decode cX10_fail 10 = .ok (.putfield 48, 3) := by decide +kernel
theorem dX10_fail_13 : decode cX10_fail 13 = .ok (.iconst 0, 1) := by decide +kernel
theorem dX10_fail_14 : decode cX10_fail 14 = .ok (.ireturn, 1) := by decide +kernel
theorem dX10_takeSign_0 : decode cX10_takeSign 0 = .ok (.aload_n 0, 1) := by decide +kernel
theorem dX10_takeSign_1 : decode cX10_takeSign 1 = .ok (.invokevirtual 72, 3) := by decide +kernel
theorem dX10_takeSign_4 : decode cX10_takeSign 4 = .ok (.aload_n 0, 1) := by decide +kernel
theorem dX10_takeSign_5 : decode cX10_takeSign 5 = .ok (.getfield 32, 3) := by decide +kernel
theorem dX10_takeSign_8 : decode cX10_takeSign 8 = .ok (.iload_n 1, 1) := by decide +kernel
theorem dX10_takeSign_9 : decode cX10_takeSign 9 = .ok (.if_icmp .eq 11, 3) := by decide +kernel
theorem dX10_takeSign_12 : decode cX10_takeSign 12 = .ok (.aload_n 0, 1) := by decide +kernel
theorem dX10_takeSign_13 : decode cX10_takeSign 13 = .ok (.iconst 1, 1) := by decide +kernel
theorem dX10_takeSign_14 : decode cX10_takeSign 14 = .ok (.invokevirtual 90, 3) := by decide +kernel
theorem dX10_takeSign_17 : decode cX10_takeSign 17 = .ok (.ifCond .eq 7, 3) := by decide +kernel
theorem dX10_takeSign_20 : decode cX10_takeSign 20 = .ok (.iconst 1, 1) := by decide +kernel
theorem dX10_takeSign_21 : decode cX10_takeSign 21 = .ok (.goto 4, 3) := by decide +kernel
theorem dX10_takeSign_24 : decode cX10_takeSign 24 = .ok (.iconst 0, 1) := by decide +kernel
theorem dX10_takeSign_25 : decode cX10_takeSign 25 = .ok (.ireturn, 1) := by decide +kernel
theorem dX10_takeNumber_0 : decode cX10_takeNumber 0 = .ok (.aload_n 0, 1) := by decide +kernel
theorem dX10_takeNumber_1 : decode cX10_takeNumber 1 = .ok (.invokevirtual 72, 3) := by decide +kernel
theorem dX10_takeNumber_4 : decode cX10_takeNumber 4 = .ok (.aload_n 0, 1) := by decide +kernel
theorem dX10_takeNumber_5 : decode cX10_takeNumber 5 = .ok (.getfield 32, 3) := by decide +kernel
theorem dX10_takeNumber_8 : decode cX10_takeNumber 8 = .ok (.iconst 3, 1) := by decide +kernel
theorem dX10_takeNumber_9 : decode cX10_takeNumber 9 = .ok (.if_icmp .eq 9, 3) := by decide +kernel
theorem dX10_takeNumber_12 : decode cX10_takeNumber 12 = .ok (.aload_n 0, 1) := by decide +kernel
theorem dX10_takeNumber_13 : decode cX10_takeNumber 13 = .ok (.iconst 1, 1) := by decide +kernel
theorem dX10_takeNumber_14 : decode cX10_takeNumber 14 = .ok (.invokevirtual 90, 3) := by decide +kernel
theorem dX10_takeNumber_17 : decode cX10_takeNumber 17 = .ok (.ireturn, 1) := by decide +kernel
theorem dX10_takeNumber_18 : decode cX10_takeNumber 18 = .ok (.aload_n 0, 1) := by decide +kernel
theorem dX10_takeNumber_19 : decode cX10_takeNumber 19 = .ok (.getfield 39, 3) := by decide +kernel
theorem dX10_takeNumber_22 : decode cX10_takeNumber 22 = .ok (.iload_n 1, 1) := by decide +kernel
theorem dX10_takeNumber_23 : decode cX10_takeNumber 23 = .ok (.if_icmp .lt 11, 3) := by decide +kernel
theorem dX10_takeNumber_26 : decode cX10_takeNumber 26 = .ok (.aload_n 0, 1) := by decide +kernel
theorem dX10_takeNumber_27 : decode cX10_takeNumber 27 = .ok (.getfield 39, 3) := by decide +kernel
theorem dX10_takeNumber_30 : decode cX10_takeNumber 30 = .ok (.iload_n 2, 1) := by decide +kernel
theorem dX10_takeNumber_31 : decode cX10_takeNumber 31 = .ok (.if_icmp .le 11, 3) := by decide +kernel
theorem dX10_takeNumber_34 : decode cX10_takeNumber 34 = .ok (.aload_n 0, 1) := by decide +kernel
theorem dX10_takeNumber_35 : decode cX10_takeNumber 35 = .ok (.iconst 2, 1) := by decide +kernel
theorem dX10_takeNumber_36 : decode cX10_takeNumber 36 = .ok (.invokevirtual 90, 3) := by decide +kernel
theorem dX10_takeNumber_39 : decode cX10_takeNumber 39 = .ok (.ifCond .eq 7, 3) := by decide +kernel
theorem dX10_takeNumber_42 : decode cX10_takeNumber 42 = .ok (.iconst 1, 1) := by decide +kernel
theorem dX10_takeNumber_43 : decode cX10_takeNumber 43 = .ok (.goto 4, 3) := by decide +kernel
theorem dX10_takeNumber_46 : decode cX10_takeNumber 46 = .ok (.iconst 0, 1) := by decide +kernel
theorem dX10_takeNumber_47 : decode cX10_takeNumber 47 = .ok (.ireturn, 1) := by decide +kernel
theorem dX10_takeNew_0 : decode cX10_takeNew 0 = .ok (.aload_n 0, 1) := by decide +kernel
theorem dX10_takeNew_1 : decode cX10_takeNew 1 = .ok (.invokevirtual 72, 3) := by decide +kernel
theorem dX10_takeNew_4 : decode cX10_takeNew 4 = .ok (.aload_n 0, 1) := by decide +kernel
theorem dX10_takeNew_5 : decode cX10_takeNew 5 = .ok (.getfield 32, 3) := by decide +kernel
theorem dX10_takeNew_8 : decode cX10_takeNew 8 = .ok (.iconst 2, 1) := by decide +kernel
theorem dX10_takeNew_9 : decode cX10_takeNew 9 = .ok (.if_icmp .eq 9, 3) := by decide +kernel
theorem dX10_takeNew_12 : decode cX10_takeNew 12 = .ok (.aload_n 0, 1) := by decide +kernel
theorem dX10_takeNew_13 : decode cX10_takeNew 13 = .ok (.iconst 1, 1) := by decide +kernel
theorem dX10_takeNew_14 : decode cX10_takeNew 14 = .ok (.invokevirtual 90, 3) := by decide +kernel
theorem dX10_takeNew_17 : decode cX10_takeNew 17 = .ok (.ireturn, 1) := by decide +kernel
theorem dX10_takeNew_18 : decode cX10_takeNew 18 = .ok (.aload_n 1, 1) := by decide +kernel
theorem dX10_takeNew_19 : decode cX10_takeNew 19 = .ok (.aload_n 0, 1) := by decide +kernel
theorem dX10_takeNew_20 : decode cX10_takeNew 20 = .ok (.getfield 35, 3) := by decide +kernel
theorem dX10_takeNew_23 : decode cX10_takeNew 23 = .ok (.invokevirtual 93, 3) := by decide +kernel
theorem dX10_takeNew_26 : decode cX10_takeNew 26 = .ok (.iconst (-1), 1) := by decide +kernel
theorem dX10_takeNew_27 : decode cX10_takeNew 27 = .ok (.if_icmp .eq 11, 3) := by decide +kernel
theorem dX10_takeNew_30 : decode cX10_takeNew 30 = .ok (.aload_n 0, 1) := by decide +kernel
theorem dX10_takeNew_31 : decode cX10_takeNew 31 = .ok (.iconst 3, 1) := by decide +kernel
theorem dX10_takeNew_32 : decode cX10_takeNew 32 = .ok (.invokevirtual 90, 3) := by decide +kernel
theorem dX10_takeNew_35 : decode cX10_takeNew 35 = .ok (.ifCond .eq 7, 3) := by decide +kernel
theorem dX10_takeNew_38 : decode cX10_takeNew 38 = .ok (.iconst 1, 1) := by decide +kernel
theorem dX10_takeNew_39 : decode cX10_takeNew 39 = .ok (.goto 4, 3) := by decide +kernel
theorem dX10_takeNew_42 : decode cX10_takeNew 42 = .ok (.iconst 0, 1) := by decide +kernel
theorem dX10_takeNew_43 : decode cX10_takeNew 43 = .ok (.ireturn, 1) := by decide +kernel
theorem dX10_takeKnown_0 : decode cX10_takeKnown 0 = .ok (.aload_n 0, 1) := by decide +kernel
theorem dX10_takeKnown_1 : decode cX10_takeKnown 1 = .ok (.invokevirtual 72, 3) := by decide +kernel
theorem dX10_takeKnown_4 : decode cX10_takeKnown 4 = .ok (.aload_n 0, 1) := by decide +kernel
theorem dX10_takeKnown_5 : decode cX10_takeKnown 5 = .ok (.aload_n 1, 1) := by decide +kernel
theorem dX10_takeKnown_6 : decode cX10_takeKnown 6 = .ok (.iload_n 2, 1) := by decide +kernel
theorem dX10_takeKnown_7 : decode cX10_takeKnown 7 = .ok (.invokevirtual 99, 3) := by decide +kernel
theorem dX10_takeKnown_10 : decode cX10_takeKnown 10 = .ok (.ireturn, 1) := by decide +kernel
theorem dX10_isKnown_0 : decode cX10_isKnown 0 = .ok (.aload_n 0, 1) := by decide +kernel
theorem dX10_isKnown_1 : decode cX10_isKnown 1 = .ok (.getfield 32, 3) := by decide +kernel
theorem dX10_isKnown_4 : decode cX10_isKnown 4 = .ok (.iconst 2, 1) := by decide +kernel
theorem dX10_isKnown_5 : decode cX10_isKnown 5 = .ok (.if_icmp .eq 9, 3) := by decide +kernel
theorem dX10_isKnown_8 : decode cX10_isKnown 8 = .ok (.aload_n 0, 1) := by decide +kernel
theorem dX10_isKnown_9 : decode cX10_isKnown 9 = .ok (.iconst 1, 1) := by decide +kernel
theorem dX10_isKnown_10 : decode cX10_isKnown 10 = .ok (.invokevirtual 90, 3) := by decide +kernel
theorem dX10_isKnown_13 : decode cX10_isKnown 13 = .ok (.ireturn, 1) := by decide +kernel
theorem dX10_isKnown_14 : decode cX10_isKnown 14 = .ok (.aload_n 1, 1) := by decide +kernel
theorem dX10_isKnown_15 : decode cX10_isKnown 15 = .ok (.aload_n 0, 1) := by decide +kernel
theorem dX10_isKnown_16 : decode cX10_isKnown 16 = .ok (.getfield 35, 3) := by decide +kernel
theorem dX10_isKnown_19 : decode cX10_isKnown 19 = .ok (.invokevirtual 93, 3) := by decide +kernel
theorem dX10_isKnown_22 : decode cX10_isKnown 22 = .ok (.istore_n 3, 1) := by decide +kernel
theorem dX10_isKnown_23 : decode cX10_isKnown 23 = .ok (.iload_n 3, 1) := by decide +kernel
theorem dX10_isKnown_24 : decode cX10_isKnown 24 = .ok (.iconst (-1), 1) := by decide +kernel
theorem dX10_isKnown_25 : decode cX10_isKnown 25 = .ok (.if_icmp .eq 13, 3) := by decide +kernel
theorem dX10_isKnown_28 : decode cX10_isKnown 28 = .ok (.aload_n 1, 1) := by decide +kernel
theorem dX10_isKnown_29 : decode cX10_isKnown 29 = .ok (.getfield 103, 3) := by decide +kernel
theorem dX10_isKnown_32 : decode cX10_isKnown 32 = .ok (.iload_n 3, 1) := by decide +kernel
theorem dX10_isKnown_33 : decode cX10_isKnown 33 = .ok (.iaload, 1) := by decide +kernel
theorem dX10_isKnown_34 : decode cX10_isKnown 34 = .ok (.iload_n 2, 1) := by decide +kernel
theorem dX10_isKnown_35 : decode cX10_isKnown 35 = .ok (.if_icmp .eq 9, 3) := by decide +kernel
theorem dX10_isKnown_38 : decode cX10_isKnown 38 = .ok (.aload_n 0, 1) := by decide +kernel
theorem dX10_isKnown_39 : decode cX10_isKnown 39 = .ok (.iconst 3, 1) := by decide +kernel
theorem dX10_isKnown_40 : decode cX10_isKnown 40 = .ok (.invokevirtual 90, 3) := by decide +kernel
theorem dX10_isKnown_43 : decode cX10_isKnown 43 = .ok (.ireturn, 1) := by decide +kernel
theorem dX10_isKnown_44 : decode cX10_isKnown 44 = .ok (.aload_n 0, 1) := by decide +kernel
theorem dX10_isKnown_45 : decode cX10_isKnown 45 = .ok (.aload_n 1, 1) := by decide +kernel
theorem dX10_isKnown_46 : decode cX10_isKnown 46 = .ok (.getfield 107, 3) := by decide +kernel
theorem dX10_isKnown_49 : decode cX10_isKnown 49 = .ok (.iload_n 3, 1) := by decide +kernel
theorem dX10_isKnown_50 : decode cX10_isKnown 50 = .ok (.iaload, 1) := by decide +kernel
theorem dX10_isKnown_51 : decode cX10_isKnown 51 = .ok (.putfield 42, 3) := by decide +kernel
theorem dX10_isKnown_54 : decode cX10_isKnown 54 = .ok (.iconst 1, 1) := by decide +kernel
theorem dX10_isKnown_55 : decode cX10_isKnown 55 = .ok (.ireturn, 1) := by decide +kernel
theorem dX11_init_0 : decode cX11_init 0 = .ok (.aload_n 0, 1) := by decide +kernel
theorem dX11_init_1 : decode cX11_init 1 = .ok (.invokespecial 1, 3) := by decide +kernel
theorem dX11_init_4 : decode cX11_init 4 = .ok (.aload_n 0, 1) := by decide +kernel
theorem dX11_init_5 : decode cX11_init 5 = .ok (.new 7, 3) := by decide +kernel
theorem dX11_init_8 : decode cX11_init 8 = .ok (.dup, 1) := by decide +kernel
theorem dX11_init_9 : decode cX11_init 9 = .ok (.invokespecial 9, 3) := by decide +kernel
theorem dX11_init_12 : decode cX11_init 12 = .ok (.putfield 10, 3) := by decide +kernel
theorem dX11_init_15 : decode cX11_init 15 = .ok (.aload_n 0, 1) := by decide +kernel
theorem dX11_init_16 : decode cX11_init 16 = .ok (.new 16, 3) := by decide +kernel
theorem dX11_init_19 : decode cX11_init 19 = .ok (.dup, 1) := by decide +kernel
theorem dX11_init_20 : decode cX11_init 20 = .ok (.invokespecial 18, 3) := by decide +kernel
theorem dX11_init_23 : decode cX11_init 23 = .ok (.putfield 19, 3) := by decide +kernel
theorem dX11_init_26 : decode cX11_init 26 = .ok (.aload_n 0, 1) := by decide +kernel
theorem dX11_init_27 : decode cX11_init 27 = .ok (.new 16, 3) := by decide +kernel
theorem dX11_init_30 : decode cX11_init 30 = .ok (.dup, 1) := by decide +kernel
theorem dX11_init_31 : decode cX11_init 31 = .ok (.invokespecial 18, 3) := by decide +kernel
theorem dX11_init_34 : decode cX11_init 34 = .ok (.putfield 23, 3) := by decide +kernel
theorem dX11_init_37 : decode cX11_init 37 = .ok (.aload_n 0, 1) := by decide +kernel
theorem dX11_init_38 : decode cX11_init 38 = .ok (.new 26, 3) := by decide +kernel
theorem dX11_init_41 : decode cX11_init 41 = .ok (.dup, 1) := by decide +kernel
theorem dX11_init_42 : decode cX11_init 42 = .ok (.aload_n 0, 1) := by decide +kernel
theorem dX11_init_43 : decode cX11_init 43 = .ok (.getfield 10, 3) := by decide +kernel
theorem dX11_init_46 : decode cX11_init 46 = .ok (.aload_n 0, 1) := by decide +kernel
theorem dX11_init_47 : decode cX11_init 47 = .ok (.getfield 23, 3) := by decide +kernel
theorem dX11_init_50 : decode cX11_init 50 = .ok (.invokespecial 28, 3) := by decide +kernel
theorem dX11_init_53 : decode cX11_init 53 = .ok (.putfield 31, 3) := by decide +kernel
theorem dX11_init_56 : decode cX11_init 56 = .ok (.aload_n 0, 1) := by decide +kernel
theorem dX11_init_57 : decode cX11_init 57 = .ok (.new 35, 3) := by decide +kernel
theorem dX11_init_60 : decode cX11_init 60 = .ok (.dup, 1) := by decide +kernel
theorem dX11_init_61 : decode cX11_init 61 = .ok (.aload_n 0, 1) := by decide +kernel
theorem dX11_init_62 : decode cX11_init 62 = .ok (.getfield 19, 3) := by decide +kernel
theorem dX11_init_65 : decode cX11_init 65 = .ok (.invokespecial 37, 3) := by decide +kernel
theorem dX11_init_68 : decode cX11_init 68 = .ok (.putfield 40, 3) := by decide +kernel
theorem dX11_init_71 : decode cX11_init 71 = .ok (.aload_n 0, 1) := by decide +kernel
theorem dX11_init_72 : decode cX11_init 72 = .ok (.new 44, 3) := by decide +kernel
theorem dX11_init_75 : decode cX11_init 75 = .ok (.dup, 1) := by decide +kernel
theorem dX11_init_76 : decode cX11_init 76 = .ok (.aload_n 0, 1) := by decide +kernel
theorem dX11_init_77 : decode cX11_init 77 = .ok (.getfield 19, 3) := by decide +kernel
theorem dX11_init_80 : decode cX11_init 80 = .ok (.aload_n 0, 1) := by decide +kernel
theorem dX11_init_81 : decode cX11_init 81 = .ok (.getfield 40, 3) := by decide +kernel
theorem dX11_init_84 : decode cX11_init 84 = .ok (.invokespecial 46, 3) := by decide +kernel
theorem dX11_init_87 : decode cX11_init 87 = .ok (.putfield 49, 3) := by decide +kernel
theorem dX11_init_90 : decode cX11_init 90 = .ok (.aload_n 0, 1) := by decide +kernel
theorem dX11_init_91 : decode cX11_init 91 = .ok (.new 53, 3) := by decide +kernel
theorem dX11_init_94 : decode cX11_init 94 = .ok (.dup, 1) := by decide +kernel
theorem dX11_init_95 : decode cX11_init 95 = .ok (.aload_n 0, 1) := by decide +kernel
theorem dX11_init_96 : decode cX11_init 96 = .ok (.getfield 19, 3) := by decide +kernel
theorem dX11_init_99 : decode cX11_init 99 = .ok (.aload_n 0, 1) := by decide +kernel
theorem dX11_init_100 : decode cX11_init 100 = .ok (.getfield 40, 3) := by decide +kernel
theorem dX11_init_103 : decode cX11_init 103 = .ok (.aload_n 0, 1) := by decide +kernel
theorem dX11_init_104 : decode cX11_init 104 = .ok (.getfield 49, 3) := by decide +kernel
theorem dX11_init_107 : decode cX11_init 107 = .ok (.invokespecial 55, 3) := by decide +kernel
theorem dX11_init_110 : decode cX11_init 110 = .ok (.putfield 58, 3) := by decide +kernel
theorem dX11_init_113 : decode cX11_init 113 = .ok (.aload_n 0, 1) := by decide +kernel
theorem dX11_init_114 : decode cX11_init 114 = .ok (.new 62, 3) := by decide +kernel
theorem dX11_init_117 : decode cX11_init 117 = .ok (.dup, 1) := by decide +kernel
theorem dX11_init_118 : decode cX11_init 118 = .ok (.aload_n 0, 1) := by decide +kernel
theorem dX11_init_119 : decode cX11_init 119 = .ok (.getfield 19, 3) := by decide +kernel
theorem dX11_init_122 : decode cX11_init 122 = .ok (.aload_n 0, 1) := by decide +kernel
theorem dX11_init_123 : decode cX11_init 123 = .ok (.getfield 40, 3) := by decide +kernel
theorem dX11_init_126 : decode cX11_init 126 = .ok (.invokespecial 64, 3) := by decide +kernel
theorem dX11_init_129 : decode cX11_init 129 = .ok (.putfield 65, 3) := by decide +kernel
theorem dX11_init_132 : decode cX11_init 132 = .ok (.aload_n 0, 1) := by decide +kernel
theorem dX11_init_133 : decode cX11_init 133 = .ok (.new 69, 3) := by decide +kernel
theorem dX11_init_136 : decode cX11_init 136 = .ok (.dup, 1) := by decide +kernel
theorem dX11_init_137 : decode cX11_init 137 = .ok (.aload_n 0, 1) := by decide +kernel
theorem dX11_init_138 : decode cX11_init 138 = .ok (.getfield 10, 3) := by decide +kernel
theorem dX11_init_141 : decode cX11_init 141 = .ok (.aload_n 0, 1) := by decide +kernel
theorem dX11_init_142 : decode cX11_init 142 = .ok (.getfield 19, 3) := by decide +kernel
theorem dX11_init_145 : decode cX11_init 145 = .ok (.aload_n 0, 1) := by decide +kernel
theorem dX11_init_146 : decode cX11_init 146 = .ok (.getfield 40, 3) := by decide +kernel
theorem dX11_init_149 : decode cX11_init 149 = .ok (.invokespecial 71, 3) := by decide +kernel
theorem dX11_init_152 : decode cX11_init 152 = .ok (.putfield 74, 3) := by decide +kernel
theorem dX11_init_155 : decode cX11_init 155 = .ok (.aload_n 0, 1) := by decide +kernel
theorem dX11_init_156 : decode cX11_init 156 = .ok (.new 78, 3) := by decide +kernel
theorem dX11_init_159 : decode cX11_init 159 = .ok (.dup, 1) := by decide +kernel
theorem dX11_init_160 : decode cX11_init 160 = .ok (.invokespecial 80, 3) := by decide +kernel
theorem dX11_init_163 : decode cX11_init 163 = .ok (.putfield 81, 3) := by decide +kernel
theorem dX11_init_166 : decode cX11_init 166 = .ok (.aload_n 0, 1) := by decide +kernel
theorem dX11_init_167 : decode cX11_init 167 = .ok (.new 78, 3) := by decide +kernel
theorem dX11_init_170 : decode cX11_init 170 = .ok (.dup, 1) := by decide +kernel
theorem dX11_init_171 : decode cX11_init 171 = .ok (.invokespecial 80, 3) := by decide +kernel
theorem dX11_init_174 : decode cX11_init 174 = .ok (.putfield 85, 3) := by decide +kernel
theorem dX11_init_177 : decode cX11_init 177 = .ok (.aload_n 0, 1) := by decide +kernel
theorem dX11_init_178 : decode cX11_init 178 = .ok (.new 88, 3) := by decide +kernel
theorem dX11_init_181 : decode cX11_init 181 = .ok (.dup, 1) := by decide +kernel
theorem dX11_init_182 : decode cX11_init 182 = .ok (.aload_n 0, 1) := by decide +kernel
theorem dX11_init_183 : decode cX11_init 183 = .ok (.getfield 10, 3) := by decide +kernel
theorem dX11_init_186 : decode cX11_init 186 = .ok (.aload_n 0, 1) := by decide +kernel
theorem dX11_init_187 : decode cX11_init 187 = .ok (.getfield 19, 3) := by decide +kernel
theorem dX11_init_190 : decode cX11_init 190 = .ok (.aload_n 0, 1) := by decide +kernel
theorem dX11_init_191 : decode cX11_init 191 = .ok (.getfield 85, 3) := by decide +kernel
theorem dX11_init_194 : decode cX11_init 194 = .ok (.invokespecial 90, 3) := by decide +kernel
theorem dX11_init_197 : decode cX11_init 197 = .ok (.putfield 93, 3) := by decide +kernel
theorem dX11_init_200 : decode cX11_init 200 = .ok (.aload_n 0, 1) := by decide +kernel
theorem dX11_init_201 : decode cX11_init 201 = .ok (.iconst 2, 1) := by decide +kernel
theorem dX11_init_202 : decode cX11_init 202 = .ok (.anewarray 97, 3) := by decide +kernel
theorem dX11_init_205 : decode cX11_init 205 = .ok (.putfield 99, 3) := by decide +kernel
theorem dX11_init_208 : decode cX11_init 208 = .ok (.aload_n 0, 1) := by decide +kernel
theorem dX11_init_209 : decode cX11_init 209 = .ok (.iconst 0, 1) := by decide +kernel
theorem dX11_init_210 : decode cX11_init 210 = .ok (.putfield 103, 3) := by decide +kernel
theorem dX11_init_213 : decode cX11_init 213 = .ok (.aload_n 0, 1) := by decide +kernel
theorem dX11_init_214 : decode cX11_init 214 = .ok (.iconst 0, 1) := by decide +kernel
theorem dX11_init_215 : decode cX11_init 215 = .ok (.putfield 107, 3) := by decide +kernel
theorem dX11_init_218 : decode cX11_init 218 = .ok (.iconst 0, 1) := by decide +kernel
theorem dX11_init_219 : decode cX11_init 219 = .ok (.istore_n 1, 1) := by decide +kernel
theorem dX11_init_220 : decode cX11_init 220 = .ok (.iload_n 1, 1) := by decide +kernel
theorem dX11_init_221 : decode cX11_init 221 = .ok (.iconst 2, 1) := by decide +kernel
theorem dX11_init_222 : decode cX11_init 222 = .ok (.if_icmp .ge 22, 3) := by decide +kernel
theorem dX11_init_225 : decode cX11_init 225 = .ok (.aload_n 0, 1) := by decide +kernel
theorem dX11_init_226 : decode cX11_init 226 = .ok (.getfield 99, 3) := by decide +kernel
theorem dX11_init_229 : decode cX11_init 229 = .ok (.iload_n 1, 1) := by decide +kernel
theorem dX11_init_230 : decode cX11_init 230 = .ok (.new 97, 3) := by decide +kernel
theorem dX11_init_233 : decode cX11_init 233 = .ok (.dup, 1) := by decide +kernel
theorem dX11_init_234 : decode cX11_init 234 = .ok (.invokespecial 111, 3) := by decide +kernel
theorem dX11_init_237 : decode cX11_init 237 = .ok (.aastore, 1) := by decide +kernel
theorem dX11_init_238 : decode cX11_init 238 = .ok (.iinc 1 1, 3) := by decide +kernel
theorem dX11_init_241 : decode cX11_init 241 = .ok (.goto (-21), 3) := by decide +kernel
theorem dX11_init_244 : decode cX11_init 244 = .ok (.return_, 1) := by decide +kernel
theorem dX11_feed_0 : decode cX11_feed 0 = .ok (.aload_n 0, 1) := by decide +kernel
theorem dX11_feed_1 : decode cX11_feed 1 = .ok (.getfield 10, 3) := by decide +kernel
theorem dX11_feed_4 : decode cX11_feed 4 = .ok (.getfield 112, 3) := by decide +kernel
theorem dX11_feed_7 : decode cX11_feed 7 = .ok (.bipush 20, 2) := by decide +kernel
theorem dX11_feed_9 : decode cX11_feed 9 = .ok (.iadd, 1) := by decide +kernel
theorem dX11_feed_10 : decode cX11_feed 10 = .ok (.sipush 940, 3) := by decide +kernel
theorem dX11_feed_13 : decode cX11_feed 13 = .ok (.if_icmp .le 5, 3) := by decide +kernel
theorem dX11_feed_16 : decode cX11_feed 16 = .ok (.iconst (-1), 1) := by decide +kernel
theorem dX11_feed_17 : decode cX11_feed 17 = .ok (.ireturn, 1) := by decide +kernel
theorem dX11_feed_18 : decode cX11_feed 18 = .ok (.aload_n 0, 1) := by decide +kernel
theorem dX11_feed_19 : decode cX11_feed 19 = .ok (.getfield 10, 3) := by decide +kernel
theorem dX11_feed_22 : decode cX11_feed 22 = .ok (.iload_n 1, 1) := by decide +kernel
theorem dX11_feed_23 : decode cX11_feed 23 = .ok (.invokevirtual 115, 3) := by decide +kernel
theorem dX11_feed_26 : decode cX11_feed 26 = .ok (.aload_n 0, 1) := by decide +kernel
theorem dX11_feed_27 : decode cX11_feed 27 = .ok (.getfield 10, 3) := by decide +kernel
theorem dX11_feed_30 : decode cX11_feed 30 = .ok (.iload_n 2, 1) := by decide +kernel
theorem dX11_feed_31 : decode cX11_feed 31 = .ok (.invokevirtual 115, 3) := by decide +kernel
theorem dX11_feed_34 : decode cX11_feed 34 = .ok (.aload_n 0, 1) := by decide +kernel
theorem dX11_feed_35 : decode cX11_feed 35 = .ok (.getfield 10, 3) := by decide +kernel
theorem dX11_feed_38 : decode cX11_feed 38 = .ok (.iload_n 3, 1) := by decide +kernel
theorem dX11_feed_39 : decode cX11_feed 39 = .ok (.invokevirtual 115, 3) := by decide +kernel
theorem dX11_feed_42 : decode cX11_feed 42 = .ok (.aload_n 0, 1) := by decide +kernel
theorem dX11_feed_43 : decode cX11_feed 43 = .ok (.getfield 10, 3) := by decide +kernel
theorem dX11_feed_46 : decode cX11_feed 46 = .ok (.iload 4, 2) := by decide +kernel
theorem dX11_feed_48 : decode cX11_feed 48 = .ok (.invokevirtual 115, 3) := by decide +kernel
theorem dX11_feed_51 : decode cX11_feed 51 = .ok (.aload_n 0, 1) := by decide +kernel
theorem dX11_feed_52 : decode cX11_feed 52 = .ok (.getfield 10, 3) := by decide +kernel
theorem dX11_feed_55 : decode cX11_feed 55 = .ok (.iload 5, 2) := by decide +kernel
theorem dX11_feed_57 : decode cX11_feed 57 = .ok (.invokevirtual 115, 3) := by decide +kernel
theorem dX11_feed_60 : decode cX11_feed 60 = .ok (.aload_n 0, 1) := by decide +kernel
theorem dX11_feed_61 : decode cX11_feed 61 = .ok (.getfield 10, 3) := by decide +kernel
theorem dX11_feed_64 : decode cX11_feed 64 = .ok (.getfield 112, 3) := by decide +kernel
theorem dX11_feed_67 : decode cX11_feed 67 = .ok (.ireturn, 1) := by decide +kernel
theorem dX11_end_0 : decode cX11_end 0 = .ok (.iload_n 1, 1) := by decide +kernel
theorem dX11_end_1 : decode cX11_end 1 = .ok (.ifCond .lt 14, 3) := by decide +kernel
theorem dX11_end_4 : decode cX11_end 4 = .ok (.iload_n 1, 1) := by decide +kernel
theorem dX11_end_5 : decode cX11_end 5 = .ok (.aload_n 0, 1) := by decide +kernel
theorem dX11_end_6 : decode cX11_end 6 = .ok (.getfield 10, 3) := by decide +kernel
theorem dX11_end_9 : decode cX11_end 9 = .ok (.getfield 112, 3) := by decide +kernel
theorem dX11_end_12 : decode cX11_end 12 = .ok (.if_icmp .le 5, 3) := by decide +kernel
theorem dX11_end_15 : decode cX11_end 15 = .ok (.iconst 0, 1) := by decide +kernel
theorem dX11_end_16 : decode cX11_end 16 = .ok (.ireturn, 1) := by decide +kernel
theorem dX11_end_17 : decode cX11_end 17 = .ok (.aload_n 0, 1) := by decide +kernel
theorem dX11_end_18 : decode cX11_end 18 = .ok (.getfield 10, 3) := by decide +kernel
theorem dX11_end_21 : decode cX11_end 21 = .ok (.iload_n 1, 1) := by decide +kernel
theorem dX11_end_22 : decode cX11_end 22 = .ok (.putfield 112, 3) := by decide +kernel
theorem dX11_end_25 : decode cX11_end 25 = .ok (.iconst 1, 1) := by decide +kernel
theorem dX11_end_26 : decode cX11_end 26 = .ok (.ireturn, 1) := by decide +kernel
theorem dX11_house_0 : decode cX11_house 0 = .ok (.aload_n 0, 1) := by decide +kernel
theorem dX11_house_1 : decode cX11_house 1 = .ok (.getfield 31, 3) := by decide +kernel
theorem dX11_house_4 : decode cX11_house 4 = .ok (.invokevirtual 119, 3) := by decide +kernel
theorem dX11_house_7 : decode cX11_house 7 = .ok (.istore_n 1, 1) := by decide +kernel
theorem dX11_house_8 : decode cX11_house 8 = .ok (.aload_n 0, 1) := by decide +kernel
theorem dX11_house_9 : decode cX11_house 9 = .ok (.getfield 10, 3) := by decide +kernel
theorem dX11_house_12 : decode cX11_house 12 = .ok (.iconst 0, 1) := by decide +kernel
theorem dX11_house_13 : decode cX11_house 13 = .ok (.putfield 112, 3) := by decide +kernel
theorem dX11_house_16 : decode cX11_house 16 = .ok (.iload_n 1, 1) := by decide +kernel
theorem dX11_house_17 : decode cX11_house 17 = .ok (.ifCond .ne 13, 3) := by decide +kernel
theorem dX11_house_20 : decode cX11_house 20 = .ok (.iconst (-1), 1) := by decide +kernel
theorem dX11_house_21 : decode cX11_house 21 = .ok (.aload_n 0, 1) := by decide +kernel
theorem dX11_house_22 : decode cX11_house 22 = .ok (.getfield 10, 3) := by decide +kernel
theorem dX11_house_25 : decode cX11_house 25 = .ok (.getfield 123, 3) := by decide +kernel
theorem dX11_house_28 : decode cX11_house 28 = .ok (.isub, 1) := by decide +kernel
theorem dX11_house_29 : decode cX11_house 29 = .ok (.ireturn, 1) := by decide +kernel
theorem dX11_house_30 : decode cX11_house 30 = .ok (.aload_n 0, 1) := by decide +kernel
theorem dX11_house_31 : decode cX11_house 31 = .ok (.getfield 19, 3) := by decide +kernel
theorem dX11_house_34 : decode cX11_house 34 = .ok (.aload_n 0, 1) := by decide +kernel
theorem dX11_house_35 : decode cX11_house 35 = .ok (.getfield 23, 3) := by decide +kernel
theorem dX11_house_38 : decode cX11_house 38 = .ok (.invokevirtual 126, 3) := by decide +kernel
theorem dX11_house_41 : decode cX11_house 41 = .ok (.aload_n 0, 1) := by decide +kernel
theorem dX11_house_42 : decode cX11_house 42 = .ok (.getfield 40, 3) := by decide +kernel
theorem dX11_house_45 : decode cX11_house 45 = .ok (.invokevirtual 129, 3) := by decide +kernel
theorem dX11_house_48 : decode cX11_house 48 = .ok (.aload_n 0, 1) := by decide +kernel
theorem dX11_house_49 : decode cX11_house 49 = .ok (.getfield 81, 3) := by decide +kernel
theorem dX11_house_52 : decode cX11_house 52 = .ok (.invokevirtual 132, 3) := by decide +kernel
theorem dX11_house_55 : decode cX11_house 55 = .ok (.aload_n 0, 1) := by decide +kernel
theorem dX11_house_56 : decode cX11_house 56 = .ok (.getfield 31, 3) := by decide +kernel
theorem dX11_house_59 : decode cX11_house 59 = .ok (.getfield 135, 3) := by decide +kernel
theorem dX11_house_62 : decode cX11_house 62 = .ok (.ireturn, 1) := by decide +kernel
theorem dX11_fault_0 : decode cX11_fault 0 = .ok (.aload_n 0, 1) := by decide +kernel
theorem dX11_fault_1 : decode cX11_fault 1 = .ok (.getfield 10, 3) := by decide +kernel
theorem dX11_fault_4 : decode cX11_fault 4 = .ok (.getfield 138, 3) := by decide +kernel
theorem dX11_fault_7 : decode cX11_fault 7 = .ok (.ireturn, 1) := by decide +kernel
theorem dX11_promise_0 : decode cX11_promise 0 = .ok (.aload_n 0, 1) := by decide +kernel
theorem dX11_promise_1 : decode cX11_promise 1 = .ok (.getfield 19, 3) := by decide +kernel
theorem dX11_promise_4 : decode cX11_promise 4 = .ok (.iload_n 1, 1) := by decide +kernel
theorem dX11_promise_5 : decode cX11_promise 5 = .ok (.invokevirtual 141, 3) := by decide +kernel
theorem dX11_promise_8 : decode cX11_promise 8 = .ok (.ifCond .eq 13, 3) := by decide +kernel
theorem dX11_promise_11 : decode cX11_promise 11 = .ok (.iload_n 2, 1) := by decide +kernel
theorem dX11_promise_12 : decode cX11_promise 12 = .ok (.ifCond .lt 9, 3) := by decide +kernel
theorem dX11_promise_15 : decode cX11_promise 15 = .ok (.iload_n 2, 1) := by decide +kernel
theorem dX11_promise_16 : decode cX11_promise 16 = .ok (.bipush 9, 2) := by decide +kernel
theorem dX11_promise_18 : decode cX11_promise 18 = .ok (.if_icmp .le 11, 3) := by decide +kernel
theorem dX11_promise_21 : decode cX11_promise 21 = .ok (.new 145, 3) := by decide +kernel
theorem dX11_promise_24 : decode cX11_promise 24 = .ok (.dup, 1) := by decide +kernel
theorem dX11_promise_25 : decode cX11_promise 25 = .ok (.invokespecial 147, 3) := by decide +kernel
theorem dX11_promise_28 : decode cX11_promise 28 = .ok (.athrow, 1) := by decide +kernel
theorem dX11_promise_29 : decode cX11_promise 29 = .ok (.iload_n 2, 1) := by decide +kernel
theorem dX11_promise_30 : decode cX11_promise 30 = .ok (.bipush 8, 2) := by decide +kernel
theorem dX11_promise_32 : decode cX11_promise 32 = .ok (.if_icmp .ge 13, 3) := by decide +kernel
theorem dX11_promise_35 : decode cX11_promise 35 = .ok (.aload_n 0, 1) := by decide +kernel
theorem dX11_promise_36 : decode cX11_promise 36 = .ok (.getfield 19, 3) := by decide +kernel
theorem dX11_promise_39 : decode cX11_promise 39 = .ok (.iload_n 1, 1) := by decide +kernel
theorem dX11_promise_40 : decode cX11_promise 40 = .ok (.iload_n 2, 1) := by decide +kernel
theorem dX11_promise_41 : decode cX11_promise 41 = .ok (.invokevirtual 148, 3) := by decide +kernel
theorem dX11_promise_44 : decode cX11_promise 44 = .ok (.ireturn, 1) := by decide +kernel
theorem dX11_promise_45 : decode cX11_promise 45 = .ok (.iload_n 2, 1) := by decide +kernel
theorem dX11_promise_46 : decode cX11_promise 46 = .ok (.bipush 8, 2) := by decide +kernel
theorem dX11_promise_48 : decode cX11_promise 48 = .ok (.if_icmp .ne 16, 3) := by decide +kernel
theorem dX11_promise_51 : decode cX11_promise 51 = .ok (.aload_n 0, 1) := by decide +kernel
theorem dX11_promise_52 : decode cX11_promise 52 = .ok (.getfield 40, 3) := by decide +kernel
theorem dX11_promise_55 : decode cX11_promise 55 = .ok (.getfield 152, 3) := by decide +kernel
theorem dX11_promise_58 : decode cX11_promise 58 = .ok (.bipush 15, 2) := by decide +kernel
theorem dX11_promise_60 : decode cX11_promise 60 = .ok (.iload_n 1, 1) := by decide +kernel
theorem dX11_promise_61 : decode cX11_promise 61 = .ok (.iadd, 1) := by decide +kernel
theorem dX11_promise_62 : decode cX11_promise 62 = .ok (.iaload, 1) := by decide +kernel
theorem dX11_promise_63 : decode cX11_promise 63 = .ok (.ireturn, 1) := by decide +kernel
theorem dX11_promise_64 : decode cX11_promise 64 = .ok (.aload_n 0, 1) := by decide +kernel
theorem dX11_promise_65 : decode cX11_promise 65 = .ok (.getfield 40, 3) := by decide +kernel
theorem dX11_promise_68 : decode cX11_promise 68 = .ok (.iload_n 1, 1) := by decide +kernel
theorem dX11_promise_69 : decode cX11_promise 69 = .ok (.invokevirtual 156, 3) := by decide +kernel
theorem dX11_promise_72 : decode cX11_promise 72 = .ok (.ifCond .eq 7, 3) := by decide +kernel
theorem dX11_promise_75 : decode cX11_promise 75 = .ok (.iconst 1, 1) := by decide +kernel
theorem dX11_promise_76 : decode cX11_promise 76 = .ok (.goto 4, 3) := by decide +kernel
theorem dX11_promise_79 : decode cX11_promise 79 = .ok (.iconst 0, 1) := by decide +kernel
theorem dX11_promise_80 : decode cX11_promise 80 = .ok (.ireturn, 1) := by decide +kernel
theorem dX11_person_0 : decode cX11_person 0 = .ok (.aload_n 0, 1) := by decide +kernel
theorem dX11_person_1 : decode cX11_person 1 = .ok (.getfield 19, 3) := by decide +kernel
theorem dX11_person_4 : decode cX11_person 4 = .ok (.iload_n 1, 1) := by decide +kernel
theorem dX11_person_5 : decode cX11_person 5 = .ok (.invokevirtual 159, 3) := by decide +kernel
theorem dX11_person_8 : decode cX11_person 8 = .ok (.ifCond .ne 5, 3) := by decide +kernel
theorem dX11_person_11 : decode cX11_person 11 = .ok (.iconst (-1), 1) := by decide +kernel
theorem dX11_person_12 : decode cX11_person 12 = .ok (.ireturn, 1) := by decide +kernel
theorem dX11_person_13 : decode cX11_person 13 = .ok (.iload_n 2, 1) := by decide +kernel
theorem dX11_person_14 : decode cX11_person 14 = .ok (.tableswitch 85 0 3 #[30, 42, 59, 72], 30) := by decide +kernel
theorem dX11_person_44 : decode cX11_person 44 = .ok (.aload_n 0, 1) := by decide +kernel
theorem dX11_person_45 : decode cX11_person 45 = .ok (.getfield 40, 3) := by decide +kernel
theorem dX11_person_48 : decode cX11_person 48 = .ok (.getfield 152, 3) := by decide +kernel
theorem dX11_person_51 : decode cX11_person 51 = .ok (.iconst 3, 1) := by decide +kernel
theorem dX11_person_52 : decode cX11_person 52 = .ok (.iload_n 1, 1) := by decide +kernel
theorem dX11_person_53 : decode cX11_person 53 = .ok (.iadd, 1) := by decide +kernel
theorem dX11_person_54 : decode cX11_person 54 = .ok (.iaload, 1) := by decide +kernel
theorem dX11_person_55 : decode cX11_person 55 = .ok (.ireturn, 1) := by decide +kernel
theorem dX11_person_56 : decode cX11_person 56 = .ok (.aload_n 0, 1) := by decide +kernel
theorem dX11_person_57 : decode cX11_person 57 = .ok (.getfield 40, 3) := by decide +kernel
theorem dX11_person_60 : decode cX11_person 60 = .ok (.iload_n 1, 1) := by decide +kernel
theorem dX11_person_61 : decode cX11_person 61 = .ok (.invokevirtual 162, 3) := by decide +kernel
theorem dX11_person_64 : decode cX11_person 64 = .ok (.ifCond .eq 7, 3) := by decide +kernel
theorem dX11_person_67 : decode cX11_person 67 = .ok (.iconst 1, 1) := by decide +kernel
theorem dX11_person_68 : decode cX11_person 68 = .ok (.goto 4, 3) := by decide +kernel
theorem dX11_person_71 : decode cX11_person 71 = .ok (.iconst 0, 1) := by decide +kernel
theorem dX11_person_72 : decode cX11_person 72 = .ok (.ireturn, 1) := by decide +kernel
theorem dX11_person_73 : decode cX11_person 73 = .ok (.aload_n 0, 1) := by decide +kernel
theorem dX11_person_74 : decode cX11_person 74 = .ok (.getfield 40, 3) := by decide +kernel
theorem dX11_person_77 : decode cX11_person 77 = .ok (.getfield 152, 3) := by decide +kernel
theorem dX11_person_80 : decode cX11_person 80 = .ok (.bipush 7, 2) := by decide +kernel
theorem dX11_person_82 : decode cX11_person 82 = .ok (.iload_n 1, 1) := by decide +kernel
theorem dX11_person_83 : decode cX11_person 83 = .ok (.iadd, 1) := by decide +kernel
theorem dX11_person_84 : decode cX11_person 84 = .ok (.iaload, 1) := by decide +kernel
theorem dX11_person_85 : decode cX11_person 85 = .ok (.ireturn, 1) := by decide +kernel
theorem dX11_person_86 : decode cX11_person 86 = .ok (.aload_n 0, 1) := by decide +kernel
theorem dX11_person_87 : decode cX11_person 87 = .ok (.getfield 40, 3) := by decide +kernel
theorem dX11_person_90 : decode cX11_person 90 = .ok (.getfield 152, 3) := by decide +kernel
theorem dX11_person_93 : decode cX11_person 93 = .ok (.bipush 11, 2) := by decide +kernel
theorem dX11_person_95 : decode cX11_person 95 = .ok (.iload_n 1, 1) := by decide +kernel
theorem dX11_person_96 : decode cX11_person 96 = .ok (.iadd, 1) := by decide +kernel
theorem dX11_person_97 : decode cX11_person 97 = .ok (.iaload, 1) := by decide +kernel
theorem dX11_person_98 : decode cX11_person 98 = .ok (.ireturn, 1) := by decide +kernel
theorem dX11_person_99 : decode cX11_person 99 = .ok (.iconst (-1), 1) := by decide +kernel
theorem dX11_person_100 : decode cX11_person 100 = .ok (.ireturn, 1) := by decide +kernel
theorem dX11_way_0 : decode cX11_way 0 = .ok (.aload_n 0, 1) := by decide +kernel
theorem dX11_way_1 : decode cX11_way 1 = .ok (.getfield 19, 3) := by decide +kernel
theorem dX11_way_4 : decode cX11_way 4 = .ok (.iload_n 1, 1) := by decide +kernel
theorem dX11_way_5 : decode cX11_way 5 = .ok (.invokevirtual 165, 3) := by decide +kernel
theorem dX11_way_8 : decode cX11_way 8 = .ok (.ifCond .eq 14, 3) := by decide +kernel
theorem dX11_way_11 : decode cX11_way 11 = .ok (.aload_n 0, 1) := by decide +kernel
theorem dX11_way_12 : decode cX11_way 12 = .ok (.getfield 19, 3) := by decide +kernel
theorem dX11_way_15 : decode cX11_way 15 = .ok (.iload_n 2, 1) := by decide +kernel
theorem dX11_way_16 : decode cX11_way 16 = .ok (.invokevirtual 165, 3) := by decide +kernel
theorem dX11_way_19 : decode cX11_way 19 = .ok (.ifCond .ne 5, 3) := by decide +kernel
theorem dX11_way_22 : decode cX11_way 22 = .ok (.iconst (-1), 1) := by decide +kernel
theorem dX11_way_23 : decode cX11_way 23 = .ok (.ireturn, 1) := by decide +kernel
theorem dX11_way_24 : decode cX11_way 24 = .ok (.aload_n 0, 1) := by decide +kernel
theorem dX11_way_25 : decode cX11_way 25 = .ok (.getfield 19, 3) := by decide +kernel
theorem dX11_way_28 : decode cX11_way 28 = .ok (.iload_n 1, 1) := by decide +kernel
theorem dX11_way_29 : decode cX11_way 29 = .ok (.iload_n 2, 1) := by decide +kernel
theorem dX11_way_30 : decode cX11_way 30 = .ok (.invokevirtual 168, 3) := by decide +kernel
theorem dX11_way_33 : decode cX11_way 33 = .ok (.ireturn, 1) := by decide +kernel
theorem dX11_frog_0 : decode cX11_frog 0 = .ok (.aload_n 0, 1) := by decide +kernel
theorem dX11_frog_1 : decode cX11_frog 1 = .ok (.getfield 19, 3) := by decide +kernel
theorem dX11_frog_4 : decode cX11_frog 4 = .ok (.iload_n 1, 1) := by decide +kernel
theorem dX11_frog_5 : decode cX11_frog 5 = .ok (.invokevirtual 171, 3) := by decide +kernel
theorem dX11_frog_8 : decode cX11_frog 8 = .ok (.ifCond .eq 15, 3) := by decide +kernel
theorem dX11_frog_11 : decode cX11_frog 11 = .ok (.aload_n 0, 1) := by decide +kernel
theorem dX11_frog_12 : decode cX11_frog 12 = .ok (.getfield 19, 3) := by decide +kernel
theorem dX11_frog_15 : decode cX11_frog 15 = .ok (.getfield 174, 3) := by decide +kernel
theorem dX11_frog_18 : decode cX11_frog 18 = .ok (.iload_n 1, 1) := by decide +kernel
theorem dX11_frog_19 : decode cX11_frog 19 = .ok (.iaload, 1) := by decide +kernel
theorem dX11_frog_20 : decode cX11_frog 20 = .ok (.goto 4, 3) := by decide +kernel
theorem dX11_frog_23 : decode cX11_frog 23 = .ok (.iconst (-1), 1) := by decide +kernel
theorem dX11_frog_24 : decode cX11_frog 24 = .ok (.ireturn, 1) := by decide +kernel
theorem dX11_now_0 : decode cX11_now 0 = .ok (.iload_n 1, 1) := by decide +kernel
theorem dX11_now_1 : decode cX11_now 1 = .ok (.tableswitch 107 0 5 #[39, 56, 73, 83, 91, 99], 39) := by decide +kernel
theorem dX11_now_40 : decode cX11_now 40 = .ok (.aload_n 0, 1) := by decide +kernel
theorem dX11_now_41 : decode cX11_now 41 = .ok (.getfield 19, 3) := by decide +kernel
theorem dX11_now_44 : decode cX11_now 44 = .ok (.aload_n 0, 1) := by decide +kernel
theorem dX11_now_45 : decode cX11_now 45 = .ok (.getfield 40, 3) := by decide +kernel
theorem dX11_now_48 : decode cX11_now 48 = .ok (.getfield 152, 3) := by decide +kernel
theorem dX11_now_51 : decode cX11_now 51 = .ok (.iconst 0, 1) := by decide +kernel
theorem dX11_now_52 : decode cX11_now 52 = .ok (.iaload, 1) := by decide +kernel
theorem dX11_now_53 : decode cX11_now 53 = .ok (.invokevirtual 177, 3) := by decide +kernel
theorem dX11_now_56 : decode cX11_now 56 = .ok (.ireturn, 1) := by decide +kernel
theorem dX11_now_57 : decode cX11_now 57 = .ok (.aload_n 0, 1) := by decide +kernel
theorem dX11_now_58 : decode cX11_now 58 = .ok (.getfield 19, 3) := by decide +kernel
theorem dX11_now_61 : decode cX11_now 61 = .ok (.aload_n 0, 1) := by decide +kernel
theorem dX11_now_62 : decode cX11_now 62 = .ok (.getfield 40, 3) := by decide +kernel
theorem dX11_now_65 : decode cX11_now 65 = .ok (.getfield 152, 3) := by decide +kernel
theorem dX11_now_68 : decode cX11_now 68 = .ok (.iconst 0, 1) := by decide +kernel
theorem dX11_now_69 : decode cX11_now 69 = .ok (.iaload, 1) := by decide +kernel
theorem dX11_now_70 : decode cX11_now 70 = .ok (.invokevirtual 181, 3) := by decide +kernel
theorem dX11_now_73 : decode cX11_now 73 = .ok (.ireturn, 1) := by decide +kernel
theorem dX11_now_74 : decode cX11_now 74 = .ok (.aload_n 0, 1) := by decide +kernel
theorem dX11_now_75 : decode cX11_now 75 = .ok (.getfield 40, 3) := by decide +kernel
theorem dX11_now_78 : decode cX11_now 78 = .ok (.getfield 152, 3) := by decide +kernel
theorem dX11_now_81 : decode cX11_now 81 = .ok (.iconst 2, 1) := by decide +kernel
theorem dX11_now_82 : decode cX11_now 82 = .ok (.iaload, 1) := by decide +kernel
theorem dX11_now_83 : decode cX11_now 83 = .ok (.ireturn, 1) := by decide +kernel
theorem dX11_now_84 : decode cX11_now 84 = .ok (.aload_n 0, 1) := by decide +kernel
theorem dX11_now_85 : decode cX11_now 85 = .ok (.getfield 40, 3) := by decide +kernel
theorem dX11_now_88 : decode cX11_now 88 = .ok (.invokevirtual 184, 3) := by decide +kernel
theorem dX11_now_91 : decode cX11_now 91 = .ok (.ireturn, 1) := by decide +kernel
theorem dX11_now_92 : decode cX11_now 92 = .ok (.aload_n 0, 1) := by decide +kernel
theorem dX11_now_93 : decode cX11_now 93 = .ok (.getfield 40, 3) := by decide +kernel
theorem dX11_now_96 : decode cX11_now 96 = .ok (.invokevirtual 188, 3) := by decide +kernel
theorem dX11_now_99 : decode cX11_now 99 = .ok (.ireturn, 1) := by decide +kernel
theorem dX11_now_100 : decode cX11_now 100 = .ok (.aload_n 0, 1) := by decide +kernel
theorem dX11_now_101 : decode cX11_now 101 = .ok (.getfield 49, 3) := by decide +kernel
theorem dX11_now_104 : decode cX11_now 104 = .ok (.invokevirtual 191, 3) := by decide +kernel
theorem dX11_now_107 : decode cX11_now 107 = .ok (.ireturn, 1) := by decide +kernel
theorem dX11_now_108 : decode cX11_now 108 = .ok (.iconst (-1), 1) := by decide +kernel
theorem dX11_now_109 : decode cX11_now 109 = .ok (.ireturn, 1) := by decide +kernel
theorem dX11_whyGo_0 : decode cX11_whyGo 0 = .ok (.aload_n 0, 1) := by decide +kernel
theorem dX11_whyGo_1 : decode cX11_whyGo 1 = .ok (.getfield 19, 3) := by decide +kernel
theorem dX11_whyGo_4 : decode cX11_whyGo 4 = .ok (.iload_n 1, 1) := by decide +kernel
theorem dX11_whyGo_5 : decode cX11_whyGo 5 = .ok (.invokevirtual 159, 3) := by decide +kernel
theorem dX11_whyGo_8 : decode cX11_whyGo 8 = .ok (.ifCond .eq 14, 3) := by decide +kernel
theorem dX11_whyGo_11 : decode cX11_whyGo 11 = .ok (.aload_n 0, 1) := by decide +kernel
theorem dX11_whyGo_12 : decode cX11_whyGo 12 = .ok (.getfield 19, 3) := by decide +kernel
theorem dX11_whyGo_15 : decode cX11_whyGo 15 = .ok (.iload_n 2, 1) := by decide +kernel
theorem dX11_whyGo_16 : decode cX11_whyGo 16 = .ok (.invokevirtual 165, 3) := by decide +kernel
theorem dX11_whyGo_19 : decode cX11_whyGo 19 = .ok (.ifCond .ne 5, 3) := by decide +kernel
theorem dX11_whyGo_22 : decode cX11_whyGo 22 = .ok (.iconst (-1), 1) := by decide +kernel
theorem dX11_whyGo_23 : decode cX11_whyGo 23 = .ok (.ireturn, 1) := by decide +kernel
theorem dX11_whyGo_24 : decode cX11_whyGo 24 = .ok (.aload_n 0, 1) := by decide +kernel
theorem dX11_whyGo_25 : decode cX11_whyGo 25 = .ok (.getfield 40, 3) := by decide +kernel
theorem dX11_whyGo_28 : decode cX11_whyGo 28 = .ok (.iload_n 1, 1) := by decide +kernel
theorem dX11_whyGo_29 : decode cX11_whyGo 29 = .ok (.iload_n 2, 1) := by decide +kernel
theorem dX11_whyGo_30 : decode cX11_whyGo 30 = .ok (.invokevirtual 194, 3) := by decide +kernel
theorem dX11_whyGo_33 : decode cX11_whyGo 33 = .ok (.ireturn, 1) := by decide +kernel
theorem dX11_go_0 : decode cX11_go 0 = .ok (.aload_n 0, 1) := by decide +kernel
theorem dX11_go_1 : decode cX11_go 1 = .ok (.iload_n 1, 1) := by decide +kernel
theorem dX11_go_2 : decode cX11_go 2 = .ok (.iload_n 2, 1) := by decide +kernel
theorem dX11_go_3 : decode cX11_go 3 = .ok (.invokevirtual 197, 3) := by decide +kernel
theorem dX11_go_6 : decode cX11_go 6 = .ok (.istore_n 3, 1) := by decide +kernel
theorem dX11_go_7 : decode cX11_go 7 = .ok (.iload_n 3, 1) := by decide +kernel
theorem dX11_go_8 : decode cX11_go 8 = .ok (.ifCond .ne 20, 3) := by decide +kernel
theorem dX11_go_11 : decode cX11_go 11 = .ok (.aload_n 0, 1) := by decide +kernel
theorem dX11_go_12 : decode cX11_go 12 = .ok (.getfield 40, 3) := by decide +kernel
theorem dX11_go_15 : decode cX11_go 15 = .ok (.invokevirtual 200, 3) := by decide +kernel
theorem dX11_go_18 : decode cX11_go 18 = .ok (.aload_n 0, 1) := by decide +kernel
theorem dX11_go_19 : decode cX11_go 19 = .ok (.getfield 40, 3) := by decide +kernel
theorem dX11_go_22 : decode cX11_go 22 = .ok (.iload_n 1, 1) := by decide +kernel
theorem dX11_go_23 : decode cX11_go 23 = .ok (.iload_n 2, 1) := by decide +kernel
theorem dX11_go_24 : decode cX11_go 24 = .ok (.invokevirtual 203, 3) := by decide +kernel
theorem dX11_go_27 : decode cX11_go 27 = .ok (.pop, 1) := by decide +kernel
theorem dX11_go_28 : decode cX11_go 28 = .ok (.iload_n 3, 1) := by decide +kernel
theorem dX11_go_29 : decode cX11_go 29 = .ok (.ireturn, 1) := by decide +kernel
theorem dX11_act_0 : decode cX11_act 0 = .ok (.aload_n 0, 1) := by decide +kernel
theorem dX11_act_1 : decode cX11_act 1 = .ok (.getfield 19, 3) := by decide +kernel
theorem dX11_act_4 : decode cX11_act 4 = .ok (.iload_n 1, 1) := by decide +kernel
theorem dX11_act_5 : decode cX11_act 5 = .ok (.invokevirtual 159, 3) := by decide +kernel
theorem dX11_act_8 : decode cX11_act 8 = .ok (.ifCond .eq 14, 3) := by decide +kernel
theorem dX11_act_11 : decode cX11_act 11 = .ok (.aload_n 0, 1) := by decide +kernel
theorem dX11_act_12 : decode cX11_act 12 = .ok (.getfield 19, 3) := by decide +kernel
theorem dX11_act_15 : decode cX11_act 15 = .ok (.iload_n 2, 1) := by decide +kernel
theorem dX11_act_16 : decode cX11_act 16 = .ok (.invokevirtual 206, 3) := by decide +kernel
theorem dX11_act_19 : decode cX11_act 19 = .ok (.ifCond .ne 5, 3) := by decide +kernel
theorem dX11_act_22 : decode cX11_act 22 = .ok (.iconst (-1), 1) := by decide +kernel
theorem dX11_act_23 : decode cX11_act 23 = .ok (.ireturn, 1) := by decide +kernel
theorem dX11_act_24 : decode cX11_act 24 = .ok (.aload_n 0, 1) := by decide +kernel
theorem dX11_act_25 : decode cX11_act 25 = .ok (.getfield 40, 3) := by decide +kernel
theorem dX11_act_28 : decode cX11_act 28 = .ok (.iload_n 1, 1) := by decide +kernel
theorem dX11_act_29 : decode cX11_act 29 = .ok (.invokevirtual 209, 3) := by decide +kernel
theorem dX11_act_32 : decode cX11_act 32 = .ok (.istore_n 3, 1) := by decide +kernel
theorem dX11_act_33 : decode cX11_act 33 = .ok (.iload_n 3, 1) := by decide +kernel
theorem dX11_act_34 : decode cX11_act 34 = .ok (.ifCond .ne 20, 3) := by decide +kernel
theorem dX11_act_37 : decode cX11_act 37 = .ok (.aload_n 0, 1) := by decide +kernel
theorem dX11_act_38 : decode cX11_act 38 = .ok (.getfield 40, 3) := by decide +kernel
theorem dX11_act_41 : decode cX11_act 41 = .ok (.invokevirtual 200, 3) := by decide +kernel
theorem dX11_act_44 : decode cX11_act 44 = .ok (.aload_n 0, 1) := by decide +kernel
theorem dX11_act_45 : decode cX11_act 45 = .ok (.getfield 40, 3) := by decide +kernel
theorem dX11_act_48 : decode cX11_act 48 = .ok (.iload_n 1, 1) := by decide +kernel
theorem dX11_act_49 : decode cX11_act 49 = .ok (.iload_n 2, 1) := by decide +kernel
theorem dX11_act_50 : decode cX11_act 50 = .ok (.invokevirtual 212, 3) := by decide +kernel
theorem dX11_act_53 : decode cX11_act 53 = .ok (.pop, 1) := by decide +kernel
theorem dX11_act_54 : decode cX11_act 54 = .ok (.iload_n 3, 1) := by decide +kernel
theorem dX11_act_55 : decode cX11_act 55 = .ok (.ireturn, 1) := by decide +kernel
theorem dX11_say_0 : decode cX11_say 0 = .ok (.aload_n 0, 1) := by decide +kernel
theorem dX11_say_1 : decode cX11_say 1 = .ok (.getfield 19, 3) := by decide +kernel
theorem dX11_say_4 : decode cX11_say 4 = .ok (.iload_n 1, 1) := by decide +kernel
theorem dX11_say_5 : decode cX11_say 5 = .ok (.invokevirtual 159, 3) := by decide +kernel
theorem dX11_say_8 : decode cX11_say 8 = .ok (.ifCond .eq 14, 3) := by decide +kernel
theorem dX11_say_11 : decode cX11_say 11 = .ok (.aload_n 0, 1) := by decide +kernel
theorem dX11_say_12 : decode cX11_say 12 = .ok (.getfield 19, 3) := by decide +kernel
theorem dX11_say_15 : decode cX11_say 15 = .ok (.iload_n 2, 1) := by decide +kernel
theorem dX11_say_16 : decode cX11_say 16 = .ok (.invokevirtual 141, 3) := by decide +kernel
theorem dX11_say_19 : decode cX11_say 19 = .ok (.ifCond .ne 5, 3) := by decide +kernel
theorem dX11_say_22 : decode cX11_say 22 = .ok (.iconst (-1), 1) := by decide +kernel
theorem dX11_say_23 : decode cX11_say 23 = .ok (.ireturn, 1) := by decide +kernel
theorem dX11_say_24 : decode cX11_say 24 = .ok (.aload_n 0, 1) := by decide +kernel
theorem dX11_say_25 : decode cX11_say 25 = .ok (.getfield 40, 3) := by decide +kernel
theorem dX11_say_28 : decode cX11_say 28 = .ok (.iload_n 1, 1) := by decide +kernel
theorem dX11_say_29 : decode cX11_say 29 = .ok (.iload_n 2, 1) := by decide +kernel
theorem dX11_say_30 : decode cX11_say 30 = .ok (.invokevirtual 215, 3) := by decide +kernel
theorem dX11_say_33 : decode cX11_say 33 = .ok (.istore_n 3, 1) := by decide +kernel
theorem dX11_say_34 : decode cX11_say 34 = .ok (.iload_n 3, 1) := by decide +kernel
theorem dX11_say_35 : decode cX11_say 35 = .ok (.ifCond .ne 20, 3) := by decide +kernel
theorem dX11_say_38 : decode cX11_say 38 = .ok (.aload_n 0, 1) := by decide +kernel
theorem dX11_say_39 : decode cX11_say 39 = .ok (.getfield 40, 3) := by decide +kernel
theorem dX11_say_42 : decode cX11_say 42 = .ok (.invokevirtual 200, 3) := by decide +kernel
theorem dX11_say_45 : decode cX11_say 45 = .ok (.aload_n 0, 1) := by decide +kernel
theorem dX11_say_46 : decode cX11_say 46 = .ok (.getfield 40, 3) := by decide +kernel
theorem dX11_say_49 : decode cX11_say 49 = .ok (.iload_n 1, 1) := by decide +kernel
theorem dX11_say_50 : decode cX11_say 50 = .ok (.iload_n 2, 1) := by decide +kernel
theorem dX11_say_51 : decode cX11_say 51 = .ok (.invokevirtual 218, 3) := by decide +kernel
theorem dX11_say_54 : decode cX11_say 54 = .ok (.pop, 1) := by decide +kernel
theorem dX11_say_55 : decode cX11_say 55 = .ok (.iload_n 3, 1) := by decide +kernel
theorem dX11_say_56 : decode cX11_say 56 = .ok (.ireturn, 1) := by decide +kernel
theorem dX11_hours_0 : decode cX11_hours 0 = .ok (.iload_n 1, 1) := by decide +kernel
theorem dX11_hours_1 : decode cX11_hours 1 = .ok (.iconst 1, 1) := by decide +kernel
theorem dX11_hours_2 : decode cX11_hours 2 = .ok (.if_icmp .lt 9, 3) := by decide +kernel
theorem dX11_hours_5 : decode cX11_hours 5 = .ok (.iload_n 1, 1) := by decide +kernel
theorem dX11_hours_6 : decode cX11_hours 6 = .ok (.bipush 99, 2) := by decide +kernel
theorem dX11_hours_8 : decode cX11_hours 8 = .ok (.if_icmp .le 5, 3) := by decide +kernel
theorem dX11_hours_11 : decode cX11_hours 11 = .ok (.iconst (-1), 1) := by decide +kernel
theorem dX11_hours_12 : decode cX11_hours 12 = .ok (.ireturn, 1) := by decide +kernel
theorem dX11_hours_13 : decode cX11_hours 13 = .ok (.aload_n 0, 1) := by decide +kernel
theorem dX11_hours_14 : decode cX11_hours 14 = .ok (.getfield 40, 3) := by decide +kernel
theorem dX11_hours_17 : decode cX11_hours 17 = .ok (.invokevirtual 221, 3) := by decide +kernel
theorem dX11_hours_20 : decode cX11_hours 20 = .ok (.ifCond .eq 5, 3) := by decide +kernel
theorem dX11_hours_23 : decode cX11_hours 23 = .ok (.iconst 0, 1) := by decide +kernel
theorem dX11_hours_24 : decode cX11_hours 24 = .ok (.ireturn, 1) := by decide +kernel
theorem dX11_hours_25 : decode cX11_hours 25 = .ok (.aload_n 0, 1) := by decide +kernel
theorem dX11_hours_26 : decode cX11_hours 26 = .ok (.getfield 40, 3) := by decide +kernel
theorem dX11_hours_29 : decode cX11_hours 29 = .ok (.invokevirtual 200, 3) := by decide +kernel
theorem dX11_hours_32 : decode cX11_hours 32 = .ok (.aload_n 0, 1) := by decide +kernel
theorem dX11_hours_33 : decode cX11_hours 33 = .ok (.getfield 40, 3) := by decide +kernel
theorem dX11_hours_36 : decode cX11_hours 36 = .ok (.iload_n 1, 1) := by decide +kernel
theorem dX11_hours_37 : decode cX11_hours 37 = .ok (.invokevirtual 224, 3) := by decide +kernel
theorem dX11_hours_40 : decode cX11_hours 40 = .ok (.ireturn, 1) := by decide +kernel
theorem dX11_done_0 : decode cX11_done 0 = .ok (.iload_n 1, 1) := by decide +kernel
theorem dX11_done_1 : decode cX11_done 1 = .ok (.ifCond .lt 25, 3) := by decide +kernel
theorem dX11_done_4 : decode cX11_done 4 = .ok (.iload_n 1, 1) := by decide +kernel
theorem dX11_done_5 : decode cX11_done 5 = .ok (.aload_n 0, 1) := by decide +kernel
theorem dX11_done_6 : decode cX11_done 6 = .ok (.getfield 40, 3) := by decide +kernel
theorem dX11_done_9 : decode cX11_done 9 = .ok (.getfield 152, 3) := by decide +kernel
theorem dX11_done_12 : decode cX11_done 12 = .ok (.iconst 2, 1) := by decide +kernel
theorem dX11_done_13 : decode cX11_done 13 = .ok (.iaload, 1) := by decide +kernel
theorem dX11_done_14 : decode cX11_done 14 = .ok (.if_icmp .ge 12, 3) := by decide +kernel
theorem dX11_done_17 : decode cX11_done 17 = .ok (.iload_n 2, 1) := by decide +kernel
theorem dX11_done_18 : decode cX11_done 18 = .ok (.ifCond .lt 8, 3) := by decide +kernel
theorem dX11_done_21 : decode cX11_done 21 = .ok (.iload_n 2, 1) := by decide +kernel
theorem dX11_done_22 : decode cX11_done 22 = .ok (.iconst 4, 1) := by decide +kernel
theorem dX11_done_23 : decode cX11_done 23 = .ok (.if_icmp .lt 5, 3) := by decide +kernel
theorem dX11_done_26 : decode cX11_done 26 = .ok (.iconst (-1), 1) := by decide +kernel
theorem dX11_done_27 : decode cX11_done 27 = .ok (.ireturn, 1) := by decide +kernel
theorem dX11_done_28 : decode cX11_done 28 = .ok (.aload_n 0, 1) := by decide +kernel
theorem dX11_done_29 : decode cX11_done 29 = .ok (.getfield 40, 3) := by decide +kernel
theorem dX11_done_32 : decode cX11_done 32 = .ok (.iload_n 1, 1) := by decide +kernel
theorem dX11_done_33 : decode cX11_done 33 = .ok (.iload_n 2, 1) := by decide +kernel
theorem dX11_done_34 : decode cX11_done 34 = .ok (.invokevirtual 227, 3) := by decide +kernel
theorem dX11_done_37 : decode cX11_done 37 = .ok (.ireturn, 1) := by decide +kernel
theorem dX11_undo_0 : decode cX11_undo 0 = .ok (.aload_n 0, 1) := by decide +kernel
theorem dX11_undo_1 : decode cX11_undo 1 = .ok (.getfield 40, 3) := by decide +kernel
theorem dX11_undo_4 : decode cX11_undo 4 = .ok (.invokevirtual 230, 3) := by decide +kernel
theorem dX11_undo_7 : decode cX11_undo 7 = .ok (.ireturn, 1) := by decide +kernel
theorem dX11_status_0 : decode cX11_status 0 = .ok (.aload_n 0, 1) := by decide +kernel
theorem dX11_status_1 : decode cX11_status 1 = .ok (.getfield 19, 3) := by decide +kernel
theorem dX11_status_4 : decode cX11_status 4 = .ok (.iload_n 1, 1) := by decide +kernel
theorem dX11_status_5 : decode cX11_status 5 = .ok (.invokevirtual 141, 3) := by decide +kernel
theorem dX11_status_8 : decode cX11_status 8 = .ok (.ifCond .eq 10, 3) := by decide +kernel
theorem dX11_status_11 : decode cX11_status 11 = .ok (.iload_n 2, 1) := by decide +kernel
theorem dX11_status_12 : decode cX11_status 12 = .ok (.invokestatic 233, 3) := by decide +kernel
theorem dX11_status_15 : decode cX11_status 15 = .ok (.ifCond .ne 5, 3) := by decide +kernel
theorem dX11_status_18 : decode cX11_status 18 = .ok (.iconst (-1), 1) := by decide +kernel
theorem dX11_status_19 : decode cX11_status 19 = .ok (.ireturn, 1) := by decide +kernel
theorem dX11_status_20 : decode cX11_status 20 = .ok (.aload_n 0, 1) := by decide +kernel
theorem dX11_status_21 : decode cX11_status 21 = .ok (.getfield 49, 3) := by decide +kernel
theorem dX11_status_24 : decode cX11_status 24 = .ok (.iload_n 1, 1) := by decide +kernel
theorem dX11_status_25 : decode cX11_status 25 = .ok (.iload_n 2, 1) := by decide +kernel
theorem dX11_status_26 : decode cX11_status 26 = .ok (.invokevirtual 236, 3) := by decide +kernel
theorem dX11_status_29 : decode cX11_status 29 = .ok (.ireturn, 1) := by decide +kernel
theorem dX11_readings_0 : decode cX11_readings 0 = .ok (.aload_n 0, 1) := by decide +kernel
theorem dX11_readings_1 : decode cX11_readings 1 = .ok (.getfield 19, 3) := by decide +kernel
theorem dX11_readings_4 : decode cX11_readings 4 = .ok (.iload_n 1, 1) := by decide +kernel
theorem dX11_readings_5 : decode cX11_readings 5 = .ok (.invokevirtual 141, 3) := by decide +kernel
theorem dX11_readings_8 : decode cX11_readings 8 = .ok (.ifCond .eq 12, 3) := by decide +kernel
theorem dX11_readings_11 : decode cX11_readings 11 = .ok (.iload_n 2, 1) := by decide +kernel
theorem dX11_readings_12 : decode cX11_readings 12 = .ok (.ifCond .lt 8, 3) := by decide +kernel
theorem dX11_readings_15 : decode cX11_readings 15 = .ok (.iload_n 2, 1) := by decide +kernel
theorem dX11_readings_16 : decode cX11_readings 16 = .ok (.iconst 4, 1) := by decide +kernel
theorem dX11_readings_17 : decode cX11_readings 17 = .ok (.if_icmp .le 5, 3) := by decide +kernel
theorem dX11_readings_20 : decode cX11_readings 20 = .ok (.iconst (-1), 1) := by decide +kernel
theorem dX11_readings_21 : decode cX11_readings 21 = .ok (.ireturn, 1) := by decide +kernel
theorem dX11_readings_22 : decode cX11_readings 22 = .ok (.iconst 0, 1) := by decide +kernel
theorem dX11_readings_23 : decode cX11_readings 23 = .ok (.istore_n 3, 1) := by decide +kernel
theorem dX11_readings_24 : decode cX11_readings 24 = .ok (.iconst 0, 1) := by decide +kernel
theorem dX11_readings_25 : decode cX11_readings 25 = .ok (.istore 4, 2) := by decide +kernel
theorem dX11_readings_27 : decode cX11_readings 27 = .ok (.iload 4, 2) := by decide +kernel
theorem dX11_readings_29 : decode cX11_readings 29 = .ok (.bipush 8, 2) := by decide +kernel
theorem dX11_readings_31 : decode cX11_readings 31 = .ok (.if_icmp .ge 30, 3) := by decide +kernel
theorem dX11_readings_34 : decode cX11_readings 34 = .ok (.aload_n 0, 1) := by decide +kernel
theorem dX11_readings_35 : decode cX11_readings 35 = .ok (.getfield 49, 3) := by decide +kernel
theorem dX11_readings_38 : decode cX11_readings 38 = .ok (.iload_n 1, 1) := by decide +kernel
theorem dX11_readings_39 : decode cX11_readings 39 = .ok (.iload 4, 2) := by decide +kernel
theorem dX11_readings_41 : decode cX11_readings 41 = .ok (.invokevirtual 236, 3) := by decide +kernel
theorem dX11_readings_44 : decode cX11_readings 44 = .ok (.iload_n 2, 1) := by decide +kernel
theorem dX11_readings_45 : decode cX11_readings 45 = .ok (.if_icmp .ne 10, 3) := by decide +kernel
theorem dX11_readings_48 : decode cX11_readings 48 = .ok (.iload_n 3, 1) := by decide +kernel
theorem dX11_readings_49 : decode cX11_readings 49 = .ok (.iconst 1, 1) := by decide +kernel
theorem dX11_readings_50 : decode cX11_readings 50 = .ok (.iload 4, 2) := by decide +kernel
theorem dX11_readings_52 : decode cX11_readings 52 = .ok (.ishl, 1) := by decide +kernel
theorem dX11_readings_53 : decode cX11_readings 53 = .ok (.ior, 1) := by decide +kernel
theorem dX11_readings_54 : decode cX11_readings 54 = .ok (.istore_n 3, 1) := by decide +kernel
theorem dX11_readings_55 : decode cX11_readings 55 = .ok (.iinc 4 1, 3) := by decide +kernel
theorem dX11_readings_58 : decode cX11_readings 58 = .ok (.goto (-31), 3) := by decide +kernel
theorem dX11_readings_61 : decode cX11_readings 61 = .ok (.iload_n 3, 1) := by decide +kernel
theorem dX11_readings_62 : decode cX11_readings 62 = .ok (.ireturn, 1) := by decide +kernel
theorem dX11_broken_0 : decode cX11_broken 0 = .ok (.aload_n 0, 1) := by decide +kernel
theorem dX11_broken_1 : decode cX11_broken 1 = .ok (.getfield 19, 3) := by decide +kernel
theorem dX11_broken_4 : decode cX11_broken 4 = .ok (.iload_n 1, 1) := by decide +kernel
theorem dX11_broken_5 : decode cX11_broken 5 = .ok (.invokevirtual 141, 3) := by decide +kernel
theorem dX11_broken_8 : decode cX11_broken 8 = .ok (.ifCond .eq 10, 3) := by decide +kernel
theorem dX11_broken_11 : decode cX11_broken 11 = .ok (.iload_n 2, 1) := by decide +kernel
theorem dX11_broken_12 : decode cX11_broken 12 = .ok (.invokestatic 233, 3) := by decide +kernel
theorem dX11_broken_15 : decode cX11_broken 15 = .ok (.ifCond .ne 5, 3) := by decide +kernel
theorem dX11_broken_18 : decode cX11_broken 18 = .ok (.iconst (-1), 1) := by decide +kernel
theorem dX11_broken_19 : decode cX11_broken 19 = .ok (.ireturn, 1) := by decide +kernel
theorem dX11_broken_20 : decode cX11_broken 20 = .ok (.aload_n 0, 1) := by decide +kernel
theorem dX11_broken_21 : decode cX11_broken 21 = .ok (.getfield 49, 3) := by decide +kernel
theorem dX11_broken_24 : decode cX11_broken 24 = .ok (.iload_n 1, 1) := by decide +kernel
theorem dX11_broken_25 : decode cX11_broken 25 = .ok (.iload_n 2, 1) := by decide +kernel
theorem dX11_broken_26 : decode cX11_broken 26 = .ok (.invokevirtual 239, 3) := by decide +kernel
theorem dX11_broken_29 : decode cX11_broken 29 = .ok (.ireturn, 1) := by decide +kernel
theorem dX11_breach_0 : decode cX11_breach 0 = .ok (.aload_n 0, 1) := by decide +kernel
theorem dX11_breach_1 : decode cX11_breach 1 = .ok (.getfield 19, 3) := by decide +kernel
theorem dX11_breach_4 : decode cX11_breach 4 = .ok (.iload_n 1, 1) := by decide +kernel
theorem dX11_breach_5 : decode cX11_breach 5 = .ok (.invokevirtual 141, 3) := by decide +kernel
theorem dX11_breach_8 : decode cX11_breach 8 = .ok (.ifCond .ne 5, 3) := by decide +kernel
theorem dX11_breach_11 : decode cX11_breach 11 = .ok (.iconst (-1), 1) := by decide +kernel
theorem dX11_breach_12 : decode cX11_breach 12 = .ok (.ireturn, 1) := by decide +kernel
theorem dX11_breach_13 : decode cX11_breach 13 = .ok (.iload_n 2, 1) := by decide +kernel
theorem dX11_breach_14 : decode cX11_breach 14 = .ok (.ifCond .ne 12, 3) := by decide +kernel
theorem dX11_breach_17 : decode cX11_breach 17 = .ok (.aload_n 0, 1) := by decide +kernel
theorem dX11_breach_18 : decode cX11_breach 18 = .ok (.getfield 49, 3) := by decide +kernel
theorem dX11_breach_21 : decode cX11_breach 21 = .ok (.iload_n 1, 1) := by decide +kernel
theorem dX11_breach_22 : decode cX11_breach 22 = .ok (.invokevirtual 242, 3) := by decide +kernel
theorem dX11_breach_25 : decode cX11_breach 25 = .ok (.ireturn, 1) := by decide +kernel
theorem dX11_breach_26 : decode cX11_breach 26 = .ok (.iload_n 2, 1) := by decide +kernel
theorem dX11_breach_27 : decode cX11_breach 27 = .ok (.iconst 1, 1) := by decide +kernel
theorem dX11_breach_28 : decode cX11_breach 28 = .ok (.if_icmp .ne 14, 3) := by decide +kernel
theorem dX11_breach_31 : decode cX11_breach 31 = .ok (.aload_n 0, 1) := by decide +kernel
theorem dX11_breach_32 : decode cX11_breach 32 = .ok (.getfield 49, 3) := by decide +kernel
theorem dX11_breach_35 : decode cX11_breach 35 = .ok (.iload_n 1, 1) := by decide +kernel
theorem dX11_breach_36 : decode cX11_breach 36 = .ok (.invokevirtual 245, 3) := by decide +kernel
theorem dX11_breach_39 : decode cX11_breach 39 = .ok (.goto 4, 3) := by decide +kernel
theorem dX11_breach_42 : decode cX11_breach 42 = .ok (.iconst (-1), 1) := by decide +kernel
theorem dX11_breach_43 : decode cX11_breach 43 = .ok (.ireturn, 1) := by decide +kernel
theorem dX11_asks_0 : decode cX11_asks 0 = .ok (.aload_n 0, 1) := by decide +kernel
theorem dX11_asks_1 : decode cX11_asks 1 = .ok (.getfield 19, 3) := by decide +kernel
theorem dX11_asks_4 : decode cX11_asks 4 = .ok (.iload_n 1, 1) := by decide +kernel
theorem dX11_asks_5 : decode cX11_asks 5 = .ok (.invokevirtual 141, 3) := by decide +kernel
theorem dX11_asks_8 : decode cX11_asks 8 = .ok (.ifCond .eq 10, 3) := by decide +kernel
theorem dX11_asks_11 : decode cX11_asks 11 = .ok (.iload_n 2, 1) := by decide +kernel
theorem dX11_asks_12 : decode cX11_asks 12 = .ok (.invokestatic 233, 3) := by decide +kernel
theorem dX11_asks_15 : decode cX11_asks 15 = .ok (.ifCond .ne 5, 3) := by decide +kernel
theorem dX11_asks_18 : decode cX11_asks 18 = .ok (.iconst (-1), 1) := by decide +kernel
theorem dX11_asks_19 : decode cX11_asks 19 = .ok (.ireturn, 1) := by decide +kernel
theorem dX11_asks_20 : decode cX11_asks 20 = .ok (.aload_n 0, 1) := by decide +kernel
theorem dX11_asks_21 : decode cX11_asks 21 = .ok (.getfield 49, 3) := by decide +kernel
theorem dX11_asks_24 : decode cX11_asks 24 = .ok (.iload_n 1, 1) := by decide +kernel
theorem dX11_asks_25 : decode cX11_asks 25 = .ok (.iload_n 2, 1) := by decide +kernel
theorem dX11_asks_26 : decode cX11_asks 26 = .ok (.invokevirtual 248, 3) := by decide +kernel
theorem dX11_asks_29 : decode cX11_asks 29 = .ok (.ireturn, 1) := by decide +kernel
theorem dX11_agree_0 : decode cX11_agree 0 = .ok (.iconst 0, 1) := by decide +kernel
theorem dX11_agree_1 : decode cX11_agree 1 = .ok (.istore_n 1, 1) := by decide +kernel
theorem dX11_agree_2 : decode cX11_agree 2 = .ok (.iconst 0, 1) := by decide +kernel
theorem dX11_agree_3 : decode cX11_agree 3 = .ok (.istore_n 2, 1) := by decide +kernel
theorem dX11_agree_4 : decode cX11_agree 4 = .ok (.iload_n 2, 1) := by decide +kernel
theorem dX11_agree_5 : decode cX11_agree 5 = .ok (.bipush 8, 2) := by decide +kernel
theorem dX11_agree_7 : decode cX11_agree 7 = .ok (.if_icmp .ge 26, 3) := by decide +kernel
theorem dX11_agree_10 : decode cX11_agree 10 = .ok (.aload_n 0, 1) := by decide +kernel
theorem dX11_agree_11 : decode cX11_agree 11 = .ok (.getfield 49, 3) := by decide +kernel
theorem dX11_agree_14 : decode cX11_agree 14 = .ok (.iload_n 2, 1) := by decide +kernel
theorem dX11_agree_15 : decode cX11_agree 15 = .ok (.invokevirtual 251, 3) := by decide +kernel
theorem dX11_agree_18 : decode cX11_agree 18 = .ok (.ifCond .eq 9, 3) := by decide +kernel
theorem dX11_agree_21 : decode cX11_agree 21 = .ok (.iload_n 1, 1) := by decide +kernel
theorem dX11_agree_22 : decode cX11_agree 22 = .ok (.iconst 1, 1) := by decide +kernel
theorem dX11_agree_23 : decode cX11_agree 23 = .ok (.iload_n 2, 1) := by decide +kernel
theorem dX11_agree_24 : decode cX11_agree 24 = .ok (.ishl, 1) := by decide +kernel
theorem dX11_agree_25 : decode cX11_agree 25 = .ok (.ior, 1) := by decide +kernel
theorem dX11_agree_26 : decode cX11_agree 26 = .ok (.istore_n 1, 1) := by decide +kernel
theorem dX11_agree_27 : decode cX11_agree 27 = .ok (.iinc 2 1, 3) := by decide +kernel
theorem dX11_agree_30 : decode cX11_agree 30 = .ok (.goto (-26), 3) := by decide +kernel
theorem dX11_agree_33 : decode cX11_agree 33 = .ok (.iload_n 1, 1) := by decide +kernel
theorem dX11_agree_34 : decode cX11_agree 34 = .ok (.ireturn, 1) := by decide +kernel
theorem dX11_plan_0 : decode cX11_plan 0 = .ok (.aload_n 0, 1) := by decide +kernel
theorem dX11_plan_1 : decode cX11_plan 1 = .ok (.getfield 19, 3) := by decide +kernel
theorem dX11_plan_4 : decode cX11_plan 4 = .ok (.iload_n 1, 1) := by decide +kernel
theorem dX11_plan_5 : decode cX11_plan 5 = .ok (.invokevirtual 159, 3) := by decide +kernel
theorem dX11_plan_8 : decode cX11_plan 8 = .ok (.ifCond .eq 13, 3) := by decide +kernel
theorem dX11_plan_11 : decode cX11_plan 11 = .ok (.aload_n 0, 1) := by decide +kernel
theorem dX11_plan_12 : decode cX11_plan 12 = .ok (.getfield 40, 3) := by decide +kernel
theorem dX11_plan_15 : decode cX11_plan 15 = .ok (.invokevirtual 221, 3) := by decide +kernel
theorem dX11_plan_18 : decode cX11_plan 18 = .ok (.ifCond .eq 5, 3) := by decide +kernel
theorem dX11_plan_21 : decode cX11_plan 21 = .ok (.iconst (-1), 1) := by decide +kernel
theorem dX11_plan_22 : decode cX11_plan 22 = .ok (.ireturn, 1) := by decide +kernel
theorem dX11_plan_23 : decode cX11_plan 23 = .ok (.aload_n 0, 1) := by decide +kernel
theorem dX11_plan_24 : decode cX11_plan 24 = .ok (.getfield 58, 3) := by decide +kernel
theorem dX11_plan_27 : decode cX11_plan 27 = .ok (.iload_n 1, 1) := by decide +kernel
theorem dX11_plan_28 : decode cX11_plan 28 = .ok (.invokevirtual 254, 3) := by decide +kernel
theorem dX11_plan_31 : decode cX11_plan 31 = .ok (.ireturn, 1) := by decide +kernel
theorem dX11_step_0 : decode cX11_step 0 = .ok (.aload_n 0, 1) := by decide +kernel
theorem dX11_step_1 : decode cX11_step 1 = .ok (.getfield 58, 3) := by decide +kernel
theorem dX11_step_4 : decode cX11_step 4 = .ok (.iload_n 1, 1) := by decide +kernel
theorem dX11_step_5 : decode cX11_step 5 = .ok (.invokevirtual 257, 3) := by decide +kernel
theorem dX11_step_8 : decode cX11_step 8 = .ok (.ireturn, 1) := by decide +kernel
theorem dX11_quarrel_0 : decode cX11_quarrel 0 = .ok (.aload_n 0, 1) := by decide +kernel
theorem dX11_quarrel_1 : decode cX11_quarrel 1 = .ok (.getfield 19, 3) := by decide +kernel
theorem dX11_quarrel_4 : decode cX11_quarrel 4 = .ok (.iload_n 1, 1) := by decide +kernel
theorem dX11_quarrel_5 : decode cX11_quarrel 5 = .ok (.invokevirtual 159, 3) := by decide +kernel
theorem dX11_quarrel_8 : decode cX11_quarrel 8 = .ok (.ifCond .eq 13, 3) := by decide +kernel
theorem dX11_quarrel_11 : decode cX11_quarrel 11 = .ok (.aload_n 0, 1) := by decide +kernel
theorem dX11_quarrel_12 : decode cX11_quarrel 12 = .ok (.getfield 40, 3) := by decide +kernel
theorem dX11_quarrel_15 : decode cX11_quarrel 15 = .ok (.invokevirtual 221, 3) := by decide +kernel
theorem dX11_quarrel_18 : decode cX11_quarrel 18 = .ok (.ifCond .eq 5, 3) := by decide +kernel
theorem dX11_quarrel_21 : decode cX11_quarrel 21 = .ok (.iconst (-1), 1) := by decide +kernel
theorem dX11_quarrel_22 : decode cX11_quarrel 22 = .ok (.ireturn, 1) := by decide +kernel
theorem dX11_quarrel_23 : decode cX11_quarrel 23 = .ok (.aload_n 0, 1) := by decide +kernel
theorem dX11_quarrel_24 : decode cX11_quarrel 24 = .ok (.getfield 58, 3) := by decide +kernel
theorem dX11_quarrel_27 : decode cX11_quarrel 27 = .ok (.iload_n 1, 1) := by decide +kernel
theorem dX11_quarrel_28 : decode cX11_quarrel 28 = .ok (.invokevirtual 260, 3) := by decide +kernel
theorem dX11_quarrel_31 : decode cX11_quarrel 31 = .ok (.ireturn, 1) := by decide +kernel
theorem dX11_chain_0 : decode cX11_chain 0 = .ok (.aload_n 0, 1) := by decide +kernel
theorem dX11_chain_1 : decode cX11_chain 1 = .ok (.getfield 19, 3) := by decide +kernel
theorem dX11_chain_4 : decode cX11_chain 4 = .ok (.iload_n 1, 1) := by decide +kernel
theorem dX11_chain_5 : decode cX11_chain 5 = .ok (.invokevirtual 141, 3) := by decide +kernel
theorem dX11_chain_8 : decode cX11_chain 8 = .ok (.ifCond .eq 14, 3) := by decide +kernel
theorem dX11_chain_11 : decode cX11_chain 11 = .ok (.aload_n 0, 1) := by decide +kernel
theorem dX11_chain_12 : decode cX11_chain 12 = .ok (.getfield 19, 3) := by decide +kernel
theorem dX11_chain_15 : decode cX11_chain 15 = .ok (.iload_n 1, 1) := by decide +kernel
theorem dX11_chain_16 : decode cX11_chain 16 = .ok (.invokevirtual 263, 3) := by decide +kernel
theorem dX11_chain_19 : decode cX11_chain 19 = .ok (.goto 4, 3) := by decide +kernel
theorem dX11_chain_22 : decode cX11_chain 22 = .ok (.iconst (-1), 1) := by decide +kernel
theorem dX11_chain_23 : decode cX11_chain 23 = .ok (.ireturn, 1) := by decide +kernel
theorem dX11_rings_0 : decode cX11_rings 0 = .ok (.aload_n 0, 1) := by decide +kernel
theorem dX11_rings_1 : decode cX11_rings 1 = .ok (.getfield 19, 3) := by decide +kernel
theorem dX11_rings_4 : decode cX11_rings 4 = .ok (.invokevirtual 266, 3) := by decide +kernel
theorem dX11_rings_7 : decode cX11_rings 7 = .ok (.ireturn, 1) := by decide +kernel
theorem dX11_roots_0 : decode cX11_roots 0 = .ok (.aload_n 0, 1) := by decide +kernel
theorem dX11_roots_1 : decode cX11_roots 1 = .ok (.getfield 19, 3) := by decide +kernel
theorem dX11_roots_4 : decode cX11_roots 4 = .ok (.invokevirtual 269, 3) := by decide +kernel
theorem dX11_roots_7 : decode cX11_roots 7 = .ok (.ireturn, 1) := by decide +kernel
theorem dX11_knows_0 : decode cX11_knows 0 = .ok (.aload_n 0, 1) := by decide +kernel
theorem dX11_knows_1 : decode cX11_knows 1 = .ok (.getfield 19, 3) := by decide +kernel
theorem dX11_knows_4 : decode cX11_knows 4 = .ok (.iload_n 1, 1) := by decide +kernel
theorem dX11_knows_5 : decode cX11_knows 5 = .ok (.invokevirtual 171, 3) := by decide +kernel
theorem dX11_knows_8 : decode cX11_knows 8 = .ok (.ifCond .eq 14, 3) := by decide +kernel
theorem dX11_knows_11 : decode cX11_knows 11 = .ok (.aload_n 0, 1) := by decide +kernel
theorem dX11_knows_12 : decode cX11_knows 12 = .ok (.getfield 19, 3) := by decide +kernel
theorem dX11_knows_15 : decode cX11_knows 15 = .ok (.iload_n 2, 1) := by decide +kernel
theorem dX11_knows_16 : decode cX11_knows 16 = .ok (.invokevirtual 141, 3) := by decide +kernel
theorem dX11_knows_19 : decode cX11_knows 19 = .ok (.ifCond .ne 5, 3) := by decide +kernel
theorem dX11_knows_22 : decode cX11_knows 22 = .ok (.iconst (-1), 1) := by decide +kernel
theorem dX11_knows_23 : decode cX11_knows 23 = .ok (.ireturn, 1) := by decide +kernel
theorem dX11_knows_24 : decode cX11_knows 24 = .ok (.aload_n 0, 1) := by decide +kernel
theorem dX11_knows_25 : decode cX11_knows 25 = .ok (.getfield 40, 3) := by decide +kernel
theorem dX11_knows_28 : decode cX11_knows 28 = .ok (.iload_n 1, 1) := by decide +kernel
theorem dX11_knows_29 : decode cX11_knows 29 = .ok (.iload_n 2, 1) := by decide +kernel
theorem dX11_knows_30 : decode cX11_knows 30 = .ok (.invokevirtual 272, 3) := by decide +kernel
theorem dX11_knows_33 : decode cX11_knows 33 = .ok (.ireturn, 1) := by decide +kernel
theorem dX11_heard_0 : decode cX11_heard 0 = .ok (.aload_n 0, 1) := by decide +kernel
theorem dX11_heard_1 : decode cX11_heard 1 = .ok (.getfield 19, 3) := by decide +kernel
theorem dX11_heard_4 : decode cX11_heard 4 = .ok (.iload_n 1, 1) := by decide +kernel
theorem dX11_heard_5 : decode cX11_heard 5 = .ok (.invokevirtual 141, 3) := by decide +kernel
theorem dX11_heard_8 : decode cX11_heard 8 = .ok (.ifCond .eq 14, 3) := by decide +kernel
theorem dX11_heard_11 : decode cX11_heard 11 = .ok (.aload_n 0, 1) := by decide +kernel
theorem dX11_heard_12 : decode cX11_heard 12 = .ok (.getfield 40, 3) := by decide +kernel
theorem dX11_heard_15 : decode cX11_heard 15 = .ok (.iload_n 1, 1) := by decide +kernel
theorem dX11_heard_16 : decode cX11_heard 16 = .ok (.invokevirtual 275, 3) := by decide +kernel
theorem dX11_heard_19 : decode cX11_heard 19 = .ok (.goto 4, 3) := by decide +kernel
theorem dX11_heard_22 : decode cX11_heard 22 = .ok (.iconst (-1), 1) := by decide +kernel
theorem dX11_heard_23 : decode cX11_heard 23 = .ok (.ireturn, 1) := by decide +kernel
theorem dX11_dry_0 : decode cX11_dry 0 = .ok (.aload_n 0, 1) := by decide +kernel
theorem dX11_dry_1 : decode cX11_dry 1 = .ok (.getfield 19, 3) := by decide +kernel
theorem dX11_dry_4 : decode cX11_dry 4 = .ok (.invokevirtual 278, 3) := by decide +kernel
theorem dX11_dry_7 : decode cX11_dry 7 = .ok (.ireturn, 1) := by decide +kernel
theorem dX11_windows_0 : decode cX11_windows 0 = .ok (.aload_n 0, 1) := by decide +kernel
theorem dX11_windows_1 : decode cX11_windows 1 = .ok (.getfield 19, 3) := by decide +kernel
theorem dX11_windows_4 : decode cX11_windows 4 = .ok (.iload_n 1, 1) := by decide +kernel
theorem dX11_windows_5 : decode cX11_windows 5 = .ok (.invokevirtual 159, 3) := by decide +kernel
theorem dX11_windows_8 : decode cX11_windows 8 = .ok (.ifCond .eq 25, 3) := by decide +kernel
theorem dX11_windows_11 : decode cX11_windows 11 = .ok (.aload_n 0, 1) := by decide +kernel
theorem dX11_windows_12 : decode cX11_windows 12 = .ok (.getfield 19, 3) := by decide +kernel
theorem dX11_windows_15 : decode cX11_windows 15 = .ok (.iload_n 2, 1) := by decide +kernel
theorem dX11_windows_16 : decode cX11_windows 16 = .ok (.invokevirtual 206, 3) := by decide +kernel
theorem dX11_windows_19 : decode cX11_windows 19 = .ok (.ifCond .eq 14, 3) := by decide +kernel
theorem dX11_windows_22 : decode cX11_windows 22 = .ok (.aload_n 0, 1) := by decide +kernel
theorem dX11_windows_23 : decode cX11_windows 23 = .ok (.getfield 19, 3) := by decide +kernel
theorem dX11_windows_26 : decode cX11_windows 26 = .ok (.iload_n 3, 1) := by decide +kernel
theorem dX11_windows_27 : decode cX11_windows 27 = .ok (.invokevirtual 165, 3) := by decide +kernel
theorem dX11_windows_30 : decode cX11_windows 30 = .ok (.ifCond .ne 5, 3) := by decide +kernel
theorem dX11_windows_33 : decode cX11_windows 33 = .ok (.iconst (-1), 1) := by decide +kernel
theorem dX11_windows_34 : decode cX11_windows 34 = .ok (.ireturn, 1) := by decide +kernel
theorem dX11_windows_35 : decode cX11_windows 35 = .ok (.aload_n 0, 1) := by decide +kernel
theorem dX11_windows_36 : decode cX11_windows 36 = .ok (.getfield 49, 3) := by decide +kernel
theorem dX11_windows_39 : decode cX11_windows 39 = .ok (.iload_n 1, 1) := by decide +kernel
theorem dX11_windows_40 : decode cX11_windows 40 = .ok (.iload_n 2, 1) := by decide +kernel
theorem dX11_windows_41 : decode cX11_windows 41 = .ok (.iload_n 3, 1) := by decide +kernel
theorem dX11_windows_42 : decode cX11_windows 42 = .ok (.invokevirtual 281, 3) := by decide +kernel
theorem dX11_windows_45 : decode cX11_windows 45 = .ok (.ireturn, 1) := by decide +kernel
theorem dX11_shortest_0 : decode cX11_shortest 0 = .ok (.aload_n 0, 1) := by decide +kernel
theorem dX11_shortest_1 : decode cX11_shortest 1 = .ok (.getfield 19, 3) := by decide +kernel
theorem dX11_shortest_4 : decode cX11_shortest 4 = .ok (.iload_n 1, 1) := by decide +kernel
theorem dX11_shortest_5 : decode cX11_shortest 5 = .ok (.invokevirtual 159, 3) := by decide +kernel
theorem dX11_shortest_8 : decode cX11_shortest 8 = .ok (.ifCond .eq 25, 3) := by decide +kernel
theorem dX11_shortest_11 : decode cX11_shortest 11 = .ok (.aload_n 0, 1) := by decide +kernel
theorem dX11_shortest_12 : decode cX11_shortest 12 = .ok (.getfield 19, 3) := by decide +kernel
theorem dX11_shortest_15 : decode cX11_shortest 15 = .ok (.iload_n 2, 1) := by decide +kernel
theorem dX11_shortest_16 : decode cX11_shortest 16 = .ok (.invokevirtual 206, 3) := by decide +kernel
theorem dX11_shortest_19 : decode cX11_shortest 19 = .ok (.ifCond .eq 14, 3) := by decide +kernel
theorem dX11_shortest_22 : decode cX11_shortest 22 = .ok (.aload_n 0, 1) := by decide +kernel
theorem dX11_shortest_23 : decode cX11_shortest 23 = .ok (.getfield 19, 3) := by decide +kernel
theorem dX11_shortest_26 : decode cX11_shortest 26 = .ok (.iload_n 3, 1) := by decide +kernel
theorem dX11_shortest_27 : decode cX11_shortest 27 = .ok (.invokevirtual 165, 3) := by decide +kernel
theorem dX11_shortest_30 : decode cX11_shortest 30 = .ok (.ifCond .ne 5, 3) := by decide +kernel
theorem dX11_shortest_33 : decode cX11_shortest 33 = .ok (.iconst (-1), 1) := by decide +kernel
theorem dX11_shortest_34 : decode cX11_shortest 34 = .ok (.ireturn, 1) := by decide +kernel
theorem dX11_shortest_35 : decode cX11_shortest 35 = .ok (.aload_n 0, 1) := by decide +kernel
theorem dX11_shortest_36 : decode cX11_shortest 36 = .ok (.getfield 49, 3) := by decide +kernel
theorem dX11_shortest_39 : decode cX11_shortest 39 = .ok (.iload_n 1, 1) := by decide +kernel
theorem dX11_shortest_40 : decode cX11_shortest 40 = .ok (.iload_n 2, 1) := by decide +kernel
theorem dX11_shortest_41 : decode cX11_shortest 41 = .ok (.iload_n 3, 1) := by decide +kernel
theorem dX11_shortest_42 : decode cX11_shortest 42 = .ok (.invokevirtual 285, 3) := by decide +kernel
theorem dX11_shortest_45 : decode cX11_shortest 45 = .ok (.ireturn, 1) := by decide +kernel
theorem dX11_drawn_0 : decode cX11_drawn 0 = .ok (.iload_n 1, 1) := by decide +kernel
theorem dX11_drawn_1 : decode cX11_drawn 1 = .ok (.iconst 1, 1) := by decide +kernel
theorem dX11_drawn_2 : decode cX11_drawn 2 = .ok (.if_icmp .lt 19, 3) := by decide +kernel
theorem dX11_drawn_5 : decode cX11_drawn 5 = .ok (.iload_n 1, 1) := by decide +kernel
theorem dX11_drawn_6 : decode cX11_drawn 6 = .ok (.bipush 99, 2) := by decide +kernel
theorem dX11_drawn_8 : decode cX11_drawn 8 = .ok (.if_icmp .gt 13, 3) := by decide +kernel
theorem dX11_drawn_11 : decode cX11_drawn 11 = .ok (.aload_n 0, 1) := by decide +kernel
theorem dX11_drawn_12 : decode cX11_drawn 12 = .ok (.getfield 19, 3) := by decide +kernel
theorem dX11_drawn_15 : decode cX11_drawn 15 = .ok (.getfield 288, 3) := by decide +kernel
theorem dX11_drawn_18 : decode cX11_drawn 18 = .ok (.ifCond .ne 5, 3) := by decide +kernel
theorem dX11_drawn_21 : decode cX11_drawn 21 = .ok (.iconst (-1), 1) := by decide +kernel
theorem dX11_drawn_22 : decode cX11_drawn 22 = .ok (.ireturn, 1) := by decide +kernel
theorem dX11_drawn_23 : decode cX11_drawn 23 = .ok (.aload_n 0, 1) := by decide +kernel
theorem dX11_drawn_24 : decode cX11_drawn 24 = .ok (.getfield 40, 3) := by decide +kernel
theorem dX11_drawn_27 : decode cX11_drawn 27 = .ok (.invokevirtual 221, 3) := by decide +kernel
theorem dX11_drawn_30 : decode cX11_drawn 30 = .ok (.ifCond .eq 5, 3) := by decide +kernel
theorem dX11_drawn_33 : decode cX11_drawn 33 = .ok (.iconst 0, 1) := by decide +kernel
theorem dX11_drawn_34 : decode cX11_drawn 34 = .ok (.ireturn, 1) := by decide +kernel
theorem dX11_drawn_35 : decode cX11_drawn 35 = .ok (.aload_n 0, 1) := by decide +kernel
theorem dX11_drawn_36 : decode cX11_drawn 36 = .ok (.getfield 40, 3) := by decide +kernel
theorem dX11_drawn_39 : decode cX11_drawn 39 = .ok (.invokevirtual 200, 3) := by decide +kernel
theorem dX11_drawn_42 : decode cX11_drawn 42 = .ok (.aload_n 0, 1) := by decide +kernel
theorem dX11_drawn_43 : decode cX11_drawn 43 = .ok (.getfield 65, 3) := by decide +kernel
theorem dX11_drawn_46 : decode cX11_drawn 46 = .ok (.iload_n 1, 1) := by decide +kernel
theorem dX11_drawn_47 : decode cX11_drawn 47 = .ok (.iload_n 2, 1) := by decide +kernel
theorem dX11_drawn_48 : decode cX11_drawn 48 = .ok (.invokevirtual 291, 3) := by decide +kernel
theorem dX11_drawn_51 : decode cX11_drawn 51 = .ok (.ireturn, 1) := by decide +kernel
theorem dX11_odds_0 : decode cX11_odds 0 = .ok (.aload_n 0, 1) := by decide +kernel
theorem dX11_odds_1 : decode cX11_odds 1 = .ok (.getfield 19, 3) := by decide +kernel
theorem dX11_odds_4 : decode cX11_odds 4 = .ok (.iload_n 1, 1) := by decide +kernel
theorem dX11_odds_5 : decode cX11_odds 5 = .ok (.invokevirtual 141, 3) := by decide +kernel
theorem dX11_odds_8 : decode cX11_odds 8 = .ok (.ifCond .eq 24, 3) := by decide +kernel
theorem dX11_odds_11 : decode cX11_odds 11 = .ok (.iload_n 2, 1) := by decide +kernel
theorem dX11_odds_12 : decode cX11_odds 12 = .ok (.iconst 1, 1) := by decide +kernel
theorem dX11_odds_13 : decode cX11_odds 13 = .ok (.if_icmp .lt 19, 3) := by decide +kernel
theorem dX11_odds_16 : decode cX11_odds 16 = .ok (.iload_n 2, 1) := by decide +kernel
theorem dX11_odds_17 : decode cX11_odds 17 = .ok (.bipush 30, 2) := by decide +kernel
theorem dX11_odds_19 : decode cX11_odds 19 = .ok (.if_icmp .gt 13, 3) := by decide +kernel
theorem dX11_odds_22 : decode cX11_odds 22 = .ok (.aload_n 0, 1) := by decide +kernel
theorem dX11_odds_23 : decode cX11_odds 23 = .ok (.getfield 19, 3) := by decide +kernel
theorem dX11_odds_26 : decode cX11_odds 26 = .ok (.getfield 288, 3) := by decide +kernel
theorem dX11_odds_29 : decode cX11_odds 29 = .ok (.ifCond .ne 5, 3) := by decide +kernel
theorem dX11_odds_32 : decode cX11_odds 32 = .ok (.iconst (-1), 1) := by decide +kernel
theorem dX11_odds_33 : decode cX11_odds 33 = .ok (.ireturn, 1) := by decide +kernel
theorem dX11_odds_34 : decode cX11_odds 34 = .ok (.iconst 0, 1) := by decide +kernel
theorem dX11_odds_35 : decode cX11_odds 35 = .ok (.istore 4, 2) := by decide +kernel
theorem dX11_odds_37 : decode cX11_odds 37 = .ok (.aload_n 0, 1) := by decide +kernel
theorem dX11_odds_38 : decode cX11_odds 38 = .ok (.getfield 40, 3) := by decide +kernel
theorem dX11_odds_41 : decode cX11_odds 41 = .ok (.invokevirtual 294, 3) := by decide +kernel
theorem dX11_odds_44 : decode cX11_odds 44 = .ok (.iconst 0, 1) := by decide +kernel
theorem dX11_odds_45 : decode cX11_odds 45 = .ok (.istore 5, 2) := by decide +kernel
theorem dX11_odds_47 : decode cX11_odds 47 = .ok (.iload 5, 2) := by decide +kernel
theorem dX11_odds_49 : decode cX11_odds 49 = .ok (.iload_n 2, 1) := by decide +kernel
theorem dX11_odds_50 : decode cX11_odds 50 = .ok (.if_icmp .ge 53, 3) := by decide +kernel
theorem dX11_odds_53 : decode cX11_odds 53 = .ok (.aload_n 0, 1) := by decide +kernel
theorem dX11_odds_54 : decode cX11_odds 54 = .ok (.getfield 65, 3) := by decide +kernel
theorem dX11_odds_57 : decode cX11_odds 57 = .ok (.iconst 2, 1) := by decide +kernel
theorem dX11_odds_58 : decode cX11_odds 58 = .ok (.aload_n 0, 1) := by decide +kernel
theorem dX11_odds_59 : decode cX11_odds 59 = .ok (.getfield 19, 3) := by decide +kernel
theorem dX11_odds_62 : decode cX11_odds 62 = .ok (.getfield 297, 3) := by decide +kernel
theorem dX11_odds_65 : decode cX11_odds 65 = .ok (.imul, 1) := by decide +kernel
theorem dX11_odds_66 : decode cX11_odds 66 = .ok (.iload_n 3, 1) := by decide +kernel
theorem dX11_odds_67 : decode cX11_odds 67 = .ok (.iload 5, 2) := by decide +kernel
theorem dX11_odds_69 : decode cX11_odds 69 = .ok (.iadd, 1) := by decide +kernel
theorem dX11_odds_70 : decode cX11_odds 70 = .ok (.invokevirtual 291, 3) := by decide +kernel
theorem dX11_odds_73 : decode cX11_odds 73 = .ok (.pop, 1) := by decide +kernel
theorem dX11_odds_74 : decode cX11_odds 74 = .ok (.aload_n 0, 1) := by decide +kernel
theorem dX11_odds_75 : decode cX11_odds 75 = .ok (.getfield 49, 3) := by decide +kernel
theorem dX11_odds_78 : decode cX11_odds 78 = .ok (.iload_n 1, 1) := by decide +kernel
theorem dX11_odds_79 : decode cX11_odds 79 = .ok (.iconst 0, 1) := by decide +kernel
theorem dX11_odds_80 : decode cX11_odds 80 = .ok (.invokevirtual 236, 3) := by decide +kernel
theorem dX11_odds_83 : decode cX11_odds 83 = .ok (.iconst 4, 1) := by decide +kernel
theorem dX11_odds_84 : decode cX11_odds 84 = .ok (.if_icmp .ne 6, 3) := by decide +kernel
theorem dX11_odds_87 : decode cX11_odds 87 = .ok (.iinc 4 1, 3) := by decide +kernel
theorem dX11_odds_90 : decode cX11_odds 90 = .ok (.aload_n 0, 1) := by decide +kernel
theorem dX11_odds_91 : decode cX11_odds 91 = .ok (.getfield 40, 3) := by decide +kernel
theorem dX11_odds_94 : decode cX11_odds 94 = .ok (.invokevirtual 300, 3) := by decide +kernel
theorem dX11_odds_97 : decode cX11_odds 97 = .ok (.iinc 5 1, 3) := by decide +kernel
theorem dX11_odds_100 : decode cX11_odds 100 = .ok (.goto (-53), 3) := by decide +kernel
theorem dX11_odds_103 : decode cX11_odds 103 = .ok (.iload 4, 2) := by decide +kernel
theorem dX11_odds_105 : decode cX11_odds 105 = .ok (.ireturn, 1) := by decide +kernel
theorem dX11_daybook_0 : decode cX11_daybook 0 = .ok (.iload_n 1, 1) := by decide +kernel
theorem dX11_daybook_1 : decode cX11_daybook 1 = .ok (.ifCond .eq 12, 3) := by decide +kernel
theorem dX11_daybook_4 : decode cX11_daybook 4 = .ok (.iload_n 1, 1) := by decide +kernel
theorem dX11_daybook_5 : decode cX11_daybook 5 = .ok (.iconst 1, 1) := by decide +kernel
theorem dX11_daybook_6 : decode cX11_daybook 6 = .ok (.if_icmp .eq 7, 3) := by decide +kernel
theorem dX11_daybook_9 : decode cX11_daybook 9 = .ok (.sipush (-1000), 3) := by decide +kernel
theorem dX11_daybook_12 : decode cX11_daybook 12 = .ok (.ireturn, 1) := by decide +kernel
theorem dX11_daybook_13 : decode cX11_daybook 13 = .ok (.aload_n 0, 1) := by decide +kernel
theorem dX11_daybook_14 : decode cX11_daybook 14 = .ok (.getfield 74, 3) := by decide +kernel
theorem dX11_daybook_17 : decode cX11_daybook 17 = .ok (.invokevirtual 303, 3) := by decide +kernel
theorem dX11_daybook_20 : decode cX11_daybook 20 = .ok (.istore_n 2, 1) := by decide +kernel
theorem dX11_daybook_21 : decode cX11_daybook 21 = .ok (.aload_n 0, 1) := by decide +kernel
theorem dX11_daybook_22 : decode cX11_daybook 22 = .ok (.getfield 10, 3) := by decide +kernel
theorem dX11_daybook_25 : decode cX11_daybook 25 = .ok (.iconst 0, 1) := by decide +kernel
theorem dX11_daybook_26 : decode cX11_daybook 26 = .ok (.putfield 112, 3) := by decide +kernel
theorem dX11_daybook_29 : decode cX11_daybook 29 = .ok (.iload_n 2, 1) := by decide +kernel
theorem dX11_daybook_30 : decode cX11_daybook 30 = .ok (.ifCond .ne 14, 3) := by decide +kernel
theorem dX11_daybook_33 : decode cX11_daybook 33 = .ok (.bipush (-2), 2) := by decide +kernel
theorem dX11_daybook_35 : decode cX11_daybook 35 = .ok (.aload_n 0, 1) := by decide +kernel
theorem dX11_daybook_36 : decode cX11_daybook 36 = .ok (.getfield 10, 3) := by decide +kernel
theorem dX11_daybook_39 : decode cX11_daybook 39 = .ok (.getfield 123, 3) := by decide +kernel
theorem dX11_daybook_42 : decode cX11_daybook 42 = .ok (.isub, 1) := by decide +kernel
theorem dX11_daybook_43 : decode cX11_daybook 43 = .ok (.ireturn, 1) := by decide +kernel
theorem dX11_daybook_44 : decode cX11_daybook 44 = .ok (.iload_n 1, 1) := by decide +kernel
theorem dX11_daybook_45 : decode cX11_daybook 45 = .ok (.iconst 1, 1) := by decide +kernel
theorem dX11_daybook_46 : decode cX11_daybook 46 = .ok (.if_icmp .ne 10, 3) := by decide +kernel
theorem dX11_daybook_49 : decode cX11_daybook 49 = .ok (.aload_n 0, 1) := by decide +kernel
theorem dX11_daybook_50 : decode cX11_daybook 50 = .ok (.getfield 40, 3) := by decide +kernel
theorem dX11_daybook_53 : decode cX11_daybook 53 = .ok (.invokevirtual 200, 3) := by decide +kernel
theorem dX11_daybook_56 : decode cX11_daybook 56 = .ok (.aload_n 0, 1) := by decide +kernel
theorem dX11_daybook_57 : decode cX11_daybook 57 = .ok (.getfield 40, 3) := by decide +kernel
theorem dX11_daybook_60 : decode cX11_daybook 60 = .ok (.invokevirtual 294, 3) := by decide +kernel
theorem dX11_daybook_63 : decode cX11_daybook 63 = .ok (.aload_n 0, 1) := by decide +kernel
theorem dX11_daybook_64 : decode cX11_daybook 64 = .ok (.getfield 74, 3) := by decide +kernel
theorem dX11_daybook_67 : decode cX11_daybook 67 = .ok (.invokevirtual 304, 3) := by decide +kernel
theorem dX11_daybook_70 : decode cX11_daybook 70 = .ok (.aload_n 0, 1) := by decide +kernel
theorem dX11_daybook_71 : decode cX11_daybook 71 = .ok (.aload_n 0, 1) := by decide +kernel
theorem dX11_daybook_72 : decode cX11_daybook 72 = .ok (.getfield 49, 3) := by decide +kernel
theorem dX11_daybook_75 : decode cX11_daybook 75 = .ok (.invokevirtual 191, 3) := by decide +kernel
theorem dX11_daybook_78 : decode cX11_daybook 78 = .ok (.putfield 103, 3) := by decide +kernel
theorem dX11_daybook_81 : decode cX11_daybook 81 = .ok (.aload_n 0, 1) := by decide +kernel
theorem dX11_daybook_82 : decode cX11_daybook 82 = .ok (.iconst 1, 1) := by decide +kernel
theorem dX11_daybook_83 : decode cX11_daybook 83 = .ok (.putfield 107, 3) := by decide +kernel
theorem dX11_daybook_86 : decode cX11_daybook 86 = .ok (.iload_n 1, 1) := by decide +kernel
theorem dX11_daybook_87 : decode cX11_daybook 87 = .ok (.ifCond .ne 10, 3) := by decide +kernel
theorem dX11_daybook_90 : decode cX11_daybook 90 = .ok (.aload_n 0, 1) := by decide +kernel
theorem dX11_daybook_91 : decode cX11_daybook 91 = .ok (.getfield 40, 3) := by decide +kernel
theorem dX11_daybook_94 : decode cX11_daybook 94 = .ok (.invokevirtual 300, 3) := by decide +kernel
theorem dX11_daybook_97 : decode cX11_daybook 97 = .ok (.aload_n 0, 1) := by decide +kernel
theorem dX11_daybook_98 : decode cX11_daybook 98 = .ok (.getfield 74, 3) := by decide +kernel
theorem dX11_daybook_101 : decode cX11_daybook 101 = .ok (.getfield 307, 3) := by decide +kernel
theorem dX11_daybook_104 : decode cX11_daybook 104 = .ok (.aload_n 0, 1) := by decide +kernel
theorem dX11_daybook_105 : decode cX11_daybook 105 = .ok (.getfield 74, 3) := by decide +kernel
theorem dX11_daybook_108 : decode cX11_daybook 108 = .ok (.getfield 310, 3) := by decide +kernel
theorem dX11_daybook_111 : decode cX11_daybook 111 = .ok (.if_icmp .ge 13, 3) := by decide +kernel
theorem dX11_daybook_114 : decode cX11_daybook 114 = .ok (.aload_n 0, 1) := by decide +kernel
theorem dX11_daybook_115 : decode cX11_daybook 115 = .ok (.getfield 74, 3) := by decide +kernel
theorem dX11_daybook_118 : decode cX11_daybook 118 = .ok (.getfield 307, 3) := by decide +kernel
theorem dX11_daybook_121 : decode cX11_daybook 121 = .ok (.goto 4, 3) := by decide +kernel
theorem dX11_daybook_124 : decode cX11_daybook 124 = .ok (.iconst (-1), 1) := by decide +kernel
theorem dX11_daybook_125 : decode cX11_daybook 125 = .ok (.ireturn, 1) := by decide +kernel
theorem dX11_booked_0 : decode cX11_booked 0 = .ok (.aload_n 0, 1) := by decide +kernel
theorem dX11_booked_1 : decode cX11_booked 1 = .ok (.getfield 107, 3) := by decide +kernel
theorem dX11_booked_4 : decode cX11_booked 4 = .ok (.ifCond .ne 5, 3) := by decide +kernel
theorem dX11_booked_7 : decode cX11_booked 7 = .ok (.iconst (-1), 1) := by decide +kernel
theorem dX11_booked_8 : decode cX11_booked 8 = .ok (.ireturn, 1) := by decide +kernel
theorem dX11_booked_9 : decode cX11_booked 9 = .ok (.iload_n 1, 1) := by decide +kernel
theorem dX11_booked_10 : decode cX11_booked 10 = .ok (.tableswitch 59 0 3 #[30, 38, 46, 54], 30) := by decide +kernel
theorem dX11_booked_40 : decode cX11_booked 40 = .ok (.aload_n 0, 1) := by decide +kernel
theorem dX11_booked_41 : decode cX11_booked 41 = .ok (.getfield 74, 3) := by decide +kernel
theorem dX11_booked_44 : decode cX11_booked 44 = .ok (.getfield 311, 3) := by decide +kernel
theorem dX11_booked_47 : decode cX11_booked 47 = .ok (.ireturn, 1) := by decide +kernel
theorem dX11_booked_48 : decode cX11_booked 48 = .ok (.aload_n 0, 1) := by decide +kernel
theorem dX11_booked_49 : decode cX11_booked 49 = .ok (.getfield 74, 3) := by decide +kernel
theorem dX11_booked_52 : decode cX11_booked 52 = .ok (.getfield 307, 3) := by decide +kernel
theorem dX11_booked_55 : decode cX11_booked 55 = .ok (.ireturn, 1) := by decide +kernel
theorem dX11_booked_56 : decode cX11_booked 56 = .ok (.aload_n 0, 1) := by decide +kernel
theorem dX11_booked_57 : decode cX11_booked 57 = .ok (.getfield 74, 3) := by decide +kernel
theorem dX11_booked_60 : decode cX11_booked 60 = .ok (.getfield 314, 3) := by decide +kernel
theorem dX11_booked_63 : decode cX11_booked 63 = .ok (.ireturn, 1) := by decide +kernel
theorem dX11_booked_64 : decode cX11_booked 64 = .ok (.aload_n 0, 1) := by decide +kernel
theorem dX11_booked_65 : decode cX11_booked 65 = .ok (.getfield 103, 3) := by decide +kernel
theorem dX11_booked_68 : decode cX11_booked 68 = .ok (.ireturn, 1) := by decide +kernel
theorem dX11_booked_69 : decode cX11_booked 69 = .ok (.iconst (-1), 1) := by decide +kernel
theorem dX11_booked_70 : decode cX11_booked 70 = .ok (.ireturn, 1) := by decide +kernel
theorem dX11_sentence_0 : decode cX11_sentence 0 = .ok (.aload_n 0, 1) := by decide +kernel
theorem dX11_sentence_1 : decode cX11_sentence 1 = .ok (.getfield 93, 3) := by decide +kernel
theorem dX11_sentence_4 : decode cX11_sentence 4 = .ok (.invokevirtual 317, 3) := by decide +kernel
theorem dX11_sentence_7 : decode cX11_sentence 7 = .ok (.aload_n 0, 1) := by decide +kernel
theorem dX11_sentence_8 : decode cX11_sentence 8 = .ok (.getfield 93, 3) := by decide +kernel
theorem dX11_sentence_11 : decode cX11_sentence 11 = .ok (.iconst 1, 1) := by decide +kernel
theorem dX11_sentence_12 : decode cX11_sentence 12 = .ok (.invokevirtual 318, 3) := by decide +kernel
theorem dX11_sentence_15 : decode cX11_sentence 15 = .ok (.ifCond .eq 17, 3) := by decide +kernel
theorem dX11_sentence_18 : decode cX11_sentence 18 = .ok (.aload_n 0, 1) := by decide +kernel
theorem dX11_sentence_19 : decode cX11_sentence 19 = .ok (.getfield 93, 3) := by decide +kernel
theorem dX11_sentence_22 : decode cX11_sentence 22 = .ok (.invokevirtual 321, 3) := by decide +kernel
theorem dX11_sentence_25 : decode cX11_sentence 25 = .ok (.ifCond .eq 7, 3) := by decide +kernel
theorem dX11_sentence_28 : decode cX11_sentence 28 = .ok (.iconst 1, 1) := by decide +kernel
theorem dX11_sentence_29 : decode cX11_sentence 29 = .ok (.goto 4, 3) := by decide +kernel
theorem dX11_sentence_32 : decode cX11_sentence 32 = .ok (.iconst 0, 1) := by decide +kernel
theorem dX11_sentence_33 : decode cX11_sentence 33 = .ok (.istore_n 1, 1) := by decide +kernel
theorem dX11_sentence_34 : decode cX11_sentence 34 = .ok (.aload_n 0, 1) := by decide +kernel
theorem dX11_sentence_35 : decode cX11_sentence 35 = .ok (.getfield 10, 3) := by decide +kernel
theorem dX11_sentence_38 : decode cX11_sentence 38 = .ok (.iconst 0, 1) := by decide +kernel
theorem dX11_sentence_39 : decode cX11_sentence 39 = .ok (.putfield 112, 3) := by decide +kernel
theorem dX11_sentence_42 : decode cX11_sentence 42 = .ok (.iload_n 1, 1) := by decide +kernel
theorem dX11_sentence_43 : decode cX11_sentence 43 = .ok (.ifCond .ne 13, 3) := by decide +kernel
theorem dX11_sentence_46 : decode cX11_sentence 46 = .ok (.iconst (-1), 1) := by decide +kernel
theorem dX11_sentence_47 : decode cX11_sentence 47 = .ok (.aload_n 0, 1) := by decide +kernel
theorem dX11_sentence_48 : decode cX11_sentence 48 = .ok (.getfield 10, 3) := by decide +kernel
theorem dX11_sentence_51 : decode cX11_sentence 51 = .ok (.getfield 123, 3) := by decide +kernel
theorem dX11_sentence_54 : decode cX11_sentence 54 = .ok (.isub, 1) := by decide +kernel
theorem dX11_sentence_55 : decode cX11_sentence 55 = .ok (.ireturn, 1) := by decide +kernel
theorem dX11_sentence_56 : decode cX11_sentence 56 = .ok (.aload_n 0, 1) := by decide +kernel
theorem dX11_sentence_57 : decode cX11_sentence 57 = .ok (.getfield 81, 3) := by decide +kernel
theorem dX11_sentence_60 : decode cX11_sentence 60 = .ok (.aload_n 0, 1) := by decide +kernel
theorem dX11_sentence_61 : decode cX11_sentence 61 = .ok (.getfield 85, 3) := by decide +kernel
theorem dX11_sentence_64 : decode cX11_sentence 64 = .ok (.invokevirtual 324, 3) := by decide +kernel
theorem dX11_sentence_67 : decode cX11_sentence 67 = .ok (.aload_n 0, 1) := by decide +kernel
theorem dX11_sentence_68 : decode cX11_sentence 68 = .ok (.getfield 81, 3) := by decide +kernel
theorem dX11_sentence_71 : decode cX11_sentence 71 = .ok (.getfield 327, 3) := by decide +kernel
theorem dX11_sentence_74 : decode cX11_sentence 74 = .ok (.ireturn, 1) := by decide +kernel
theorem dX11_said_0 : decode cX11_said 0 = .ok (.aload_n 0, 1) := by decide +kernel
theorem dX11_said_1 : decode cX11_said 1 = .ok (.getfield 81, 3) := by decide +kernel
theorem dX11_said_4 : decode cX11_said 4 = .ok (.getfield 330, 3) := by decide +kernel
theorem dX11_said_7 : decode cX11_said 7 = .ok (.ifCond .eq 8, 3) := by decide +kernel
theorem dX11_said_10 : decode cX11_said 10 = .ok (.iload_n 1, 1) := by decide +kernel
theorem dX11_said_11 : decode cX11_said 11 = .ok (.iconst (-1), 1) := by decide +kernel
theorem dX11_said_12 : decode cX11_said 12 = .ok (.if_icmp .ge 5, 3) := by decide +kernel
theorem dX11_said_15 : decode cX11_said 15 = .ok (.iconst (-1), 1) := by decide +kernel
theorem dX11_said_16 : decode cX11_said 16 = .ok (.ireturn, 1) := by decide +kernel
theorem dX11_said_17 : decode cX11_said 17 = .ok (.iconst 0, 1) := by decide +kernel
theorem dX11_said_18 : decode cX11_said 18 = .ok (.istore_n 2, 1) := by decide +kernel
theorem dX11_said_19 : decode cX11_said 19 = .ok (.iconst 0, 1) := by decide +kernel
theorem dX11_said_20 : decode cX11_said 20 = .ok (.istore_n 3, 1) := by decide +kernel
theorem dX11_said_21 : decode cX11_said 21 = .ok (.iload_n 3, 1) := by decide +kernel
theorem dX11_said_22 : decode cX11_said 22 = .ok (.aload_n 0, 1) := by decide +kernel
theorem dX11_said_23 : decode cX11_said 23 = .ok (.getfield 19, 3) := by decide +kernel
theorem dX11_said_26 : decode cX11_said 26 = .ok (.getfield 331, 3) := by decide +kernel
theorem dX11_said_29 : decode cX11_said 29 = .ok (.if_icmp .ge 43, 3) := by decide +kernel
theorem dX11_said_32 : decode cX11_said 32 = .ok (.aload_n 0, 1) := by decide +kernel
theorem dX11_said_33 : decode cX11_said 33 = .ok (.getfield 81, 3) := by decide +kernel
theorem dX11_said_36 : decode cX11_said 36 = .ok (.aload_n 0, 1) := by decide +kernel
theorem dX11_said_37 : decode cX11_said 37 = .ok (.getfield 19, 3) := by decide +kernel
theorem dX11_said_40 : decode cX11_said 40 = .ok (.iload_n 3, 1) := by decide +kernel
theorem dX11_said_41 : decode cX11_said 41 = .ok (.aload_n 0, 1) := by decide +kernel
theorem dX11_said_42 : decode cX11_said 42 = .ok (.getfield 49, 3) := by decide +kernel
theorem dX11_said_45 : decode cX11_said 45 = .ok (.iload_n 3, 1) := by decide +kernel
theorem dX11_said_46 : decode cX11_said 46 = .ok (.iconst 0, 1) := by decide +kernel
theorem dX11_said_47 : decode cX11_said 47 = .ok (.invokevirtual 236, 3) := by decide +kernel
theorem dX11_said_50 : decode cX11_said 50 = .ok (.invokevirtual 334, 3) := by decide +kernel
theorem dX11_said_53 : decode cX11_said 53 = .ok (.ifCond .eq 13, 3) := by decide +kernel
theorem dX11_said_56 : decode cX11_said 56 = .ok (.iload_n 2, 1) := by decide +kernel
theorem dX11_said_57 : decode cX11_said 57 = .ok (.iload_n 1, 1) := by decide +kernel
theorem dX11_said_58 : decode cX11_said 58 = .ok (.if_icmp .ne 5, 3) := by decide +kernel
theorem dX11_said_61 : decode cX11_said 61 = .ok (.iload_n 3, 1) := by decide +kernel
theorem dX11_said_62 : decode cX11_said 62 = .ok (.ireturn, 1) := by decide +kernel
theorem dX11_said_63 : decode cX11_said 63 = .ok (.iinc 2 1, 3) := by decide +kernel
theorem dX11_said_66 : decode cX11_said 66 = .ok (.iinc 3 1, 3) := by decide +kernel
theorem dX11_said_69 : decode cX11_said 69 = .ok (.goto (-48), 3) := by decide +kernel
theorem dX11_said_72 : decode cX11_said 72 = .ok (.iload_n 1, 1) := by decide +kernel
theorem dX11_said_73 : decode cX11_said 73 = .ok (.iconst (-1), 1) := by decide +kernel
theorem dX11_said_74 : decode cX11_said 74 = .ok (.if_icmp .ne 7, 3) := by decide +kernel
theorem dX11_said_77 : decode cX11_said 77 = .ok (.iload_n 2, 1) := by decide +kernel
theorem dX11_said_78 : decode cX11_said 78 = .ok (.goto 4, 3) := by decide +kernel
theorem dX11_said_81 : decode cX11_said 81 = .ok (.iconst (-1), 1) := by decide +kernel
theorem dX11_said_82 : decode cX11_said 82 = .ok (.ireturn, 1) := by decide +kernel
theorem dX11_image_0 : decode cX11_image 0 = .ok (.iload_n 1, 1) := by decide +kernel
theorem dX11_image_1 : decode cX11_image 1 = .ok (.ifCond .lt 8, 3) := by decide +kernel
theorem dX11_image_4 : decode cX11_image 4 = .ok (.iload_n 1, 1) := by decide +kernel
theorem dX11_image_5 : decode cX11_image 5 = .ok (.iconst 2, 1) := by decide +kernel
theorem dX11_image_6 : decode cX11_image 6 = .ok (.if_icmp .lt 5, 3) := by decide +kernel
theorem dX11_image_9 : decode cX11_image 9 = .ok (.iconst 0, 1) := by decide +kernel
theorem dX11_image_10 : decode cX11_image 10 = .ok (.ireturn, 1) := by decide +kernel
theorem dX11_image_11 : decode cX11_image 11 = .ok (.aload_n 0, 1) := by decide +kernel
theorem dX11_image_12 : decode cX11_image 12 = .ok (.getfield 99, 3) := by decide +kernel
theorem dX11_image_15 : decode cX11_image 15 = .ok (.iload_n 1, 1) := by decide +kernel
theorem dX11_image_16 : decode cX11_image 16 = .ok (.aaload, 1) := by decide +kernel
theorem dX11_image_17 : decode cX11_image 17 = .ok (.aload_n 0, 1) := by decide +kernel
theorem dX11_image_18 : decode cX11_image 18 = .ok (.getfield 19, 3) := by decide +kernel
theorem dX11_image_21 : decode cX11_image 21 = .ok (.aload_n 0, 1) := by decide +kernel
theorem dX11_image_22 : decode cX11_image 22 = .ok (.getfield 40, 3) := by decide +kernel
theorem dX11_image_25 : decode cX11_image 25 = .ok (.aload_n 0, 1) := by decide +kernel
theorem dX11_image_26 : decode cX11_image 26 = .ok (.getfield 81, 3) := by decide +kernel
theorem dX11_image_29 : decode cX11_image 29 = .ok (.invokevirtual 338, 3) := by decide +kernel
theorem dX11_image_32 : decode cX11_image 32 = .ok (.iconst 1, 1) := by decide +kernel
theorem dX11_image_33 : decode cX11_image 33 = .ok (.ireturn, 1) := by decide +kernel
theorem dX11_restore_0 : decode cX11_restore 0 = .ok (.iload_n 1, 1) := by decide +kernel
theorem dX11_restore_1 : decode cX11_restore 1 = .ok (.ifCond .lt 20, 3) := by decide +kernel
theorem dX11_restore_4 : decode cX11_restore 4 = .ok (.iload_n 1, 1) := by decide +kernel
theorem dX11_restore_5 : decode cX11_restore 5 = .ok (.iconst 2, 1) := by decide +kernel
theorem dX11_restore_6 : decode cX11_restore 6 = .ok (.if_icmp .ge 15, 3) := by decide +kernel
theorem dX11_restore_9 : decode cX11_restore 9 = .ok (.aload_n 0, 1) := by decide +kernel
theorem dX11_restore_10 : decode cX11_restore 10 = .ok (.getfield 99, 3) := by decide +kernel
theorem dX11_restore_13 : decode cX11_restore 13 = .ok (.iload_n 1, 1) := by decide +kernel
theorem dX11_restore_14 : decode cX11_restore 14 = .ok (.aaload, 1) := by decide +kernel
theorem dX11_restore_15 : decode cX11_restore 15 = .ok (.getfield 342, 3) := by decide +kernel
theorem dX11_restore_18 : decode cX11_restore 18 = .ok (.ifCond .ne 5, 3) := by decide +kernel
theorem dX11_restore_21 : decode cX11_restore 21 = .ok (.iconst 0, 1) := by decide +kernel
theorem dX11_restore_22 : decode cX11_restore 22 = .ok (.ireturn, 1) := by decide +kernel
theorem dX11_restore_23 : decode cX11_restore 23 = .ok (.aload_n 0, 1) := by decide +kernel
theorem dX11_restore_24 : decode cX11_restore 24 = .ok (.getfield 99, 3) := by decide +kernel
theorem dX11_restore_27 : decode cX11_restore 27 = .ok (.iload_n 1, 1) := by decide +kernel
theorem dX11_restore_28 : decode cX11_restore 28 = .ok (.aaload, 1) := by decide +kernel
theorem dX11_restore_29 : decode cX11_restore 29 = .ok (.aload_n 0, 1) := by decide +kernel
theorem dX11_restore_30 : decode cX11_restore 30 = .ok (.getfield 19, 3) := by decide +kernel
theorem dX11_restore_33 : decode cX11_restore 33 = .ok (.aload_n 0, 1) := by decide +kernel
theorem dX11_restore_34 : decode cX11_restore 34 = .ok (.getfield 40, 3) := by decide +kernel
theorem dX11_restore_37 : decode cX11_restore 37 = .ok (.aload_n 0, 1) := by decide +kernel
theorem dX11_restore_38 : decode cX11_restore 38 = .ok (.getfield 81, 3) := by decide +kernel
theorem dX11_restore_41 : decode cX11_restore 41 = .ok (.invokevirtual 345, 3) := by decide +kernel
theorem dX11_restore_44 : decode cX11_restore 44 = .ok (.iconst 1, 1) := by decide +kernel
theorem dX11_restore_45 : decode cX11_restore 45 = .ok (.ireturn, 1) := by decide +kernel
theorem dX11_count_0 : decode cX11_count 0 = .ok (.iload_n 1, 1) := by decide +kernel
theorem dX11_count_1 : decode cX11_count 1 = .ok (.tableswitch 123 0 8 #[51, 59, 67, 75, 83, 91, 99, 107, 115], 51) := by decide +kernel
theorem dX11_count_52 : decode cX11_count 52 = .ok (.aload_n 0, 1) := by decide +kernel
theorem dX11_count_53 : decode cX11_count 53 = .ok (.getfield 19, 3) := by decide +kernel
theorem dX11_count_56 : decode cX11_count 56 = .ok (.getfield 297, 3) := by decide +kernel
theorem dX11_count_59 : decode cX11_count 59 = .ok (.ireturn, 1) := by decide +kernel
theorem dX11_count_60 : decode cX11_count 60 = .ok (.aload_n 0, 1) := by decide +kernel
theorem dX11_count_61 : decode cX11_count 61 = .ok (.getfield 19, 3) := by decide +kernel
theorem dX11_count_64 : decode cX11_count 64 = .ok (.getfield 348, 3) := by decide +kernel
theorem dX11_count_67 : decode cX11_count 67 = .ok (.ireturn, 1) := by decide +kernel
theorem dX11_count_68 : decode cX11_count 68 = .ok (.aload_n 0, 1) := by decide +kernel
theorem dX11_count_69 : decode cX11_count 69 = .ok (.getfield 19, 3) := by decide +kernel
theorem dX11_count_72 : decode cX11_count 72 = .ok (.getfield 351, 3) := by decide +kernel
theorem dX11_count_75 : decode cX11_count 75 = .ok (.ireturn, 1) := by decide +kernel
theorem dX11_count_76 : decode cX11_count 76 = .ok (.aload_n 0, 1) := by decide +kernel
theorem dX11_count_77 : decode cX11_count 77 = .ok (.getfield 19, 3) := by decide +kernel
theorem dX11_count_80 : decode cX11_count 80 = .ok (.getfield 354, 3) := by decide +kernel
theorem dX11_count_83 : decode cX11_count 83 = .ok (.ireturn, 1) := by decide +kernel
theorem dX11_count_84 : decode cX11_count 84 = .ok (.aload_n 0, 1) := by decide +kernel
theorem dX11_count_85 : decode cX11_count 85 = .ok (.getfield 19, 3) := by decide +kernel
theorem dX11_count_88 : decode cX11_count 88 = .ok (.getfield 288, 3) := by decide +kernel
theorem dX11_count_91 : decode cX11_count 91 = .ok (.ireturn, 1) := by decide +kernel
theorem dX11_count_92 : decode cX11_count 92 = .ok (.aload_n 0, 1) := by decide +kernel
theorem dX11_count_93 : decode cX11_count 93 = .ok (.getfield 19, 3) := by decide +kernel
theorem dX11_count_96 : decode cX11_count 96 = .ok (.getfield 357, 3) := by decide +kernel
theorem dX11_count_99 : decode cX11_count 99 = .ok (.ireturn, 1) := by decide +kernel
theorem dX11_count_100 : decode cX11_count 100 = .ok (.aload_n 0, 1) := by decide +kernel
theorem dX11_count_101 : decode cX11_count 101 = .ok (.getfield 19, 3) := by decide +kernel
theorem dX11_count_104 : decode cX11_count 104 = .ok (.getfield 331, 3) := by decide +kernel
theorem dX11_count_107 : decode cX11_count 107 = .ok (.ireturn, 1) := by decide +kernel
theorem dX11_count_108 : decode cX11_count 108 = .ok (.aload_n 0, 1) := by decide +kernel
theorem dX11_count_109 : decode cX11_count 109 = .ok (.getfield 19, 3) := by decide +kernel
theorem dX11_count_112 : decode cX11_count 112 = .ok (.getfield 360, 3) := by decide +kernel
theorem dX11_count_115 : decode cX11_count 115 = .ok (.ireturn, 1) := by decide +kernel
theorem dX11_count_116 : decode cX11_count 116 = .ok (.aload_n 0, 1) := by decide +kernel
theorem dX11_count_117 : decode cX11_count 117 = .ok (.getfield 10, 3) := by decide +kernel
theorem dX11_count_120 : decode cX11_count 120 = .ok (.getfield 112, 3) := by decide +kernel
theorem dX11_count_123 : decode cX11_count 123 = .ok (.ireturn, 1) := by decide +kernel
theorem dX11_count_124 : decode cX11_count 124 = .ok (.iconst (-1), 1) := by decide +kernel
theorem dX11_count_125 : decode cX11_count 125 = .ok (.ireturn, 1) := by decide +kernel
theorem dX11_isReading_0 : decode cX11_isReading 0 = .ok (.iload_n 0, 1) := by decide +kernel
theorem dX11_isReading_1 : decode cX11_isReading 1 = .ok (.ifCond .lt 13, 3) := by decide +kernel
theorem dX11_isReading_4 : decode cX11_isReading 4 = .ok (.iload_n 0, 1) := by decide +kernel
theorem dX11_isReading_5 : decode cX11_isReading 5 = .ok (.bipush 8, 2) := by decide +kernel
theorem dX11_isReading_7 : decode cX11_isReading 7 = .ok (.if_icmp .ge 7, 3) := by decide +kernel
theorem dX11_isReading_10 : decode cX11_isReading 10 = .ok (.iconst 1, 1) := by decide +kernel
theorem dX11_isReading_11 : decode cX11_isReading 11 = .ok (.goto 4, 3) := by decide +kernel
theorem dX11_isReading_14 : decode cX11_isReading 14 = .ok (.iconst 0, 1) := by decide +kernel
theorem dX11_isReading_15 : decode cX11_isReading 15 = .ok (.ireturn, 1) := by decide +kernel
theorem dX12_throwsIf_0 : decode cX12_throwsIf 0 = .ok (.aload_n 0, 1) := by decide +kernel
theorem dX12_throwsIf_1 : decode cX12_throwsIf 1 = .ok (.iload_n 1, 1) := by decide +kernel
theorem dX12_throwsIf_2 : decode cX12_throwsIf 2 = .ok (.ifCond .eq 7, 3) := by decide +kernel
theorem dX12_throwsIf_5 : decode cX12_throwsIf 5 = .ok (.iconst 1, 1) := by decide +kernel
theorem dX12_throwsIf_6 : decode cX12_throwsIf 6 = .ok (.goto 4, 3) := by decide +kernel
theorem dX12_throwsIf_9 : decode cX12_throwsIf 9 = .ok (.iconst 0, 1) := by decide +kernel
theorem dX12_throwsIf_10 : decode cX12_throwsIf 10 = .ok (.putfield 1, 3) := by decide +kernel
theorem dX12_throwsIf_13 : decode cX12_throwsIf 13 = .ok (.iload_n 1, 1) := by decide +kernel
theorem dX12_throwsIf_14 : decode cX12_throwsIf 14 = .ok (.ireturn, 1) := by decide +kernel
theorem dX12_feed_0 : decode cX12_feed 0 = .ok (.aload_n 0, 1) := by decide +kernel
theorem dX12_feed_1 : decode cX12_feed 1 = .ok (.iconst 0, 1) := by decide +kernel
theorem dX12_feed_2 : decode cX12_feed 2 = .ok (.putfield 1, 3) := by decide +kernel
theorem dX12_feed_5 : decode cX12_feed 5 = .ok (.aload_n 0, 1) := by decide +kernel
theorem dX12_feed_6 : decode cX12_feed 6 = .ok (.getfield 7, 3) := by decide +kernel
theorem dX12_feed_9 : decode cX12_feed 9 = .ok (.bipush 20, 2) := by decide +kernel
theorem dX12_feed_11 : decode cX12_feed 11 = .ok (.iadd, 1) := by decide +kernel
theorem dX12_feed_12 : decode cX12_feed 12 = .ok (.sipush 940, 3) := by decide +kernel
theorem dX12_feed_15 : decode cX12_feed 15 = .ok (.if_icmp .le 5, 3) := by decide +kernel
theorem dX12_feed_18 : decode cX12_feed 18 = .ok (.iconst (-1), 1) := by decide +kernel
theorem dX12_feed_19 : decode cX12_feed 19 = .ok (.ireturn, 1) := by decide +kernel
theorem dX12_feed_20 : decode cX12_feed 20 = .ok (.aload_n 0, 1) := by decide +kernel
theorem dX12_feed_21 : decode cX12_feed 21 = .ok (.iload_n 1, 1) := by decide +kernel
theorem dX12_feed_22 : decode cX12_feed 22 = .ok (.invokevirtual 10, 3) := by decide +kernel
theorem dX12_feed_25 : decode cX12_feed 25 = .ok (.aload_n 0, 1) := by decide +kernel
theorem dX12_feed_26 : decode cX12_feed 26 = .ok (.iload_n 2, 1) := by decide +kernel
theorem dX12_feed_27 : decode cX12_feed 27 = .ok (.invokevirtual 10, 3) := by decide +kernel
theorem dX12_feed_30 : decode cX12_feed 30 = .ok (.aload_n 0, 1) := by decide +kernel
theorem dX12_feed_31 : decode cX12_feed 31 = .ok (.iload_n 3, 1) := by decide +kernel
theorem dX12_feed_32 : decode cX12_feed 32 = .ok (.invokevirtual 10, 3) := by decide +kernel
theorem dX12_feed_35 : decode cX12_feed 35 = .ok (.aload_n 0, 1) := by decide +kernel
theorem dX12_feed_36 : decode cX12_feed 36 = .ok (.iload 4, 2) := by decide +kernel
theorem dX12_feed_38 : decode cX12_feed 38 = .ok (.invokevirtual 10, 3) := by decide +kernel
theorem dX12_feed_41 : decode cX12_feed 41 = .ok (.aload_n 0, 1) := by decide +kernel
theorem dX12_feed_42 : decode cX12_feed 42 = .ok (.iload 5, 2) := by decide +kernel
theorem dX12_feed_44 : decode cX12_feed 44 = .ok (.invokevirtual 10, 3) := by decide +kernel
theorem dX12_feed_47 : decode cX12_feed 47 = .ok (.aload_n 0, 1) := by decide +kernel
theorem dX12_feed_48 : decode cX12_feed 48 = .ok (.getfield 7, 3) := by decide +kernel
theorem dX12_feed_51 : decode cX12_feed 51 = .ok (.ireturn, 1) := by decide +kernel
theorem dX12_four_0 : decode cX12_four 0 = .ok (.bipush 24, 2) := by decide +kernel
theorem dX12_four_2 : decode cX12_four 2 = .ok (.istore_n 2, 1) := by decide +kernel
theorem dX12_four_3 : decode cX12_four 3 = .ok (.iload_n 2, 1) := by decide +kernel
theorem dX12_four_4 : decode cX12_four 4 = .ok (.ifCond .lt 32, 3) := by decide +kernel
theorem dX12_four_7 : decode cX12_four 7 = .ok (.aload_n 0, 1) := by decide +kernel
theorem dX12_four_8 : decode cX12_four 8 = .ok (.getfield 14, 3) := by decide +kernel
theorem dX12_four_11 : decode cX12_four 11 = .ok (.aload_n 0, 1) := by decide +kernel
theorem dX12_four_12 : decode cX12_four 12 = .ok (.getfield 7, 3) := by decide +kernel
theorem dX12_four_15 : decode cX12_four 15 = .ok (.iload_n 1, 1) := by decide +kernel
theorem dX12_four_16 : decode cX12_four 16 = .ok (.iload_n 2, 1) := by decide +kernel
theorem dX12_four_17 : decode cX12_four 17 = .ok (.ishr, 1) := by decide +kernel
theorem dX12_four_18 : decode cX12_four 18 = .ok (.i2b, 1) := by decide +kernel
theorem dX12_four_19 : decode cX12_four 19 = .ok (.bastore, 1) := by decide +kernel
theorem dX12_four_20 : decode cX12_four 20 = .ok (.aload_n 0, 1) := by decide +kernel
theorem dX12_four_21 : decode cX12_four 21 = .ok (.dup, 1) := by decide +kernel
theorem dX12_four_22 : decode cX12_four 22 = .ok (.getfield 7, 3) := by decide +kernel
theorem dX12_four_25 : decode cX12_four 25 = .ok (.iconst 1, 1) := by decide +kernel
theorem dX12_four_26 : decode cX12_four 26 = .ok (.iadd, 1) := by decide +kernel
theorem dX12_four_27 : decode cX12_four 27 = .ok (.putfield 7, 3) := by decide +kernel
theorem dX12_four_30 : decode cX12_four 30 = .ok (.iinc 2 (-8), 3) := by decide +kernel
theorem dX12_four_33 : decode cX12_four 33 = .ok (.goto (-30), 3) := by decide +kernel
theorem dX12_four_36 : decode cX12_four 36 = .ok (.return_, 1) := by decide +kernel
theorem dX12_end_0 : decode cX12_end 0 = .ok (.aload_n 0, 1) := by decide +kernel
theorem dX12_end_1 : decode cX12_end 1 = .ok (.iconst 0, 1) := by decide +kernel
theorem dX12_end_2 : decode cX12_end 2 = .ok (.putfield 1, 3) := by decide +kernel
theorem dX12_end_5 : decode cX12_end 5 = .ok (.iload_n 1, 1) := by decide +kernel
theorem dX12_end_6 : decode cX12_end 6 = .ok (.ifCond .lt 11, 3) := by decide +kernel
theorem dX12_end_9 : decode cX12_end 9 = .ok (.iload_n 1, 1) := by decide +kernel
theorem dX12_end_10 : decode cX12_end 10 = .ok (.aload_n 0, 1) := by decide +kernel
theorem dX12_end_11 : decode cX12_end 11 = .ok (.getfield 7, 3) := by decide +kernel
theorem dX12_end_14 : decode cX12_end 14 = .ok (.if_icmp .le 5, 3) := by decide +kernel
theorem dX12_end_17 : decode cX12_end 17 = .ok (.iconst 0, 1) := by decide +kernel
theorem dX12_end_18 : decode cX12_end 18 = .ok (.ireturn, 1) := by decide +kernel
theorem dX12_end_19 : decode cX12_end 19 = .ok (.aload_n 0, 1) := by decide +kernel
theorem dX12_end_20 : decode cX12_end 20 = .ok (.iload_n 1, 1) := by decide +kernel
theorem dX12_end_21 : decode cX12_end 21 = .ok (.putfield 7, 3) := by decide +kernel
theorem dX12_end_24 : decode cX12_end 24 = .ok (.iconst 1, 1) := by decide +kernel
theorem dX12_end_25 : decode cX12_end 25 = .ok (.ireturn, 1) := by decide +kernel
theorem dX12_taken_0 : decode cX12_taken 0 = .ok (.aload_n 0, 1) := by decide +kernel
theorem dX12_taken_1 : decode cX12_taken 1 = .ok (.aload_n 0, 1) := by decide +kernel
theorem dX12_taken_2 : decode cX12_taken 2 = .ok (.getfield 7, 3) := by decide +kernel
theorem dX12_taken_5 : decode cX12_taken 5 = .ok (.putfield 18, 3) := by decide +kernel
theorem dX12_taken_8 : decode cX12_taken 8 = .ok (.aload_n 0, 1) := by decide +kernel
theorem dX12_taken_9 : decode cX12_taken 9 = .ok (.iconst 0, 1) := by decide +kernel
theorem dX12_taken_10 : decode cX12_taken 10 = .ok (.putfield 7, 3) := by decide +kernel
theorem dX12_taken_13 : decode cX12_taken 13 = .ok (.aload_n 0, 1) := by decide +kernel
theorem dX12_taken_14 : decode cX12_taken 14 = .ok (.iconst 0, 1) := by decide +kernel
theorem dX12_taken_15 : decode cX12_taken 15 = .ok (.putfield 21, 3) := by decide +kernel
theorem dX12_taken_18 : decode cX12_taken 18 = .ok (.aload_n 0, 1) := by decide +kernel
theorem dX12_taken_19 : decode cX12_taken 19 = .ok (.iload_n 1, 1) := by decide +kernel
theorem dX12_taken_20 : decode cX12_taken 20 = .ok (.putfield 24, 3) := by decide +kernel
theorem dX12_taken_23 : decode cX12_taken 23 = .ok (.return_, 1) := by decide +kernel
theorem dX12_isIn_0 : decode cX12_isIn 0 = .ok (.iload_n 0, 1) := by decide +kernel
theorem dX12_isIn_1 : decode cX12_isIn 1 = .ok (.iload_n 1, 1) := by decide +kernel
theorem dX12_isIn_2 : decode cX12_isIn 2 = .ok (.if_icmp .lt 12, 3) := by decide +kernel
theorem dX12_isIn_5 : decode cX12_isIn 5 = .ok (.iload_n 0, 1) := by decide +kernel
theorem dX12_isIn_6 : decode cX12_isIn 6 = .ok (.iload_n 2, 1) := by decide +kernel
theorem dX12_isIn_7 : decode cX12_isIn 7 = .ok (.if_icmp .gt 7, 3) := by decide +kernel
theorem dX12_isIn_10 : decode cX12_isIn 10 = .ok (.iconst 1, 1) := by decide +kernel
theorem dX12_isIn_11 : decode cX12_isIn 11 = .ok (.goto 4, 3) := by decide +kernel
theorem dX12_isIn_14 : decode cX12_isIn 14 = .ok (.iconst 0, 1) := by decide +kernel
theorem dX12_isIn_15 : decode cX12_isIn 15 = .ok (.ireturn, 1) := by decide +kernel
theorem dX12_bitOf_0 : decode cX12_bitOf 0 = .ok (.iload_n 0, 1) := by decide +kernel
theorem dX12_bitOf_1 : decode cX12_bitOf 1 = .ok (.iload_n 1, 1) := by decide +kernel
theorem dX12_bitOf_2 : decode cX12_bitOf 2 = .ok (.ishr, 1) := by decide +kernel
theorem dX12_bitOf_3 : decode cX12_bitOf 3 = .ok (.iconst 1, 1) := by decide +kernel
theorem dX12_bitOf_4 : decode cX12_bitOf 4 = .ok (.iand, 1) := by decide +kernel
theorem dX12_bitOf_5 : decode cX12_bitOf 5 = .ok (.iconst 1, 1) := by decide +kernel
theorem dX12_bitOf_6 : decode cX12_bitOf 6 = .ok (.if_icmp .ne 7, 3) := by decide +kernel
theorem dX12_bitOf_9 : decode cX12_bitOf 9 = .ok (.iconst 1, 1) := by decide +kernel
theorem dX12_bitOf_10 : decode cX12_bitOf 10 = .ok (.goto 4, 3) := by decide +kernel
theorem dX12_bitOf_13 : decode cX12_bitOf 13 = .ok (.iconst 0, 1) := by decide +kernel
theorem dX12_bitOf_14 : decode cX12_bitOf 14 = .ok (.ireturn, 1) := by decide +kernel
theorem dX12_lesser_0 : decode cX12_lesser 0 = .ok (.iload_n 0, 1) := by decide +kernel
theorem dX12_lesser_1 : decode cX12_lesser 1 = .ok (.iload_n 1, 1) := by decide +kernel
theorem dX12_lesser_2 : decode cX12_lesser 2 = .ok (.if_icmp .ge 7, 3) := by decide +kernel
theorem dX12_lesser_5 : decode cX12_lesser 5 = .ok (.iload_n 0, 1) := by decide +kernel
theorem dX12_lesser_6 : decode cX12_lesser 6 = .ok (.goto 4, 3) := by decide +kernel
theorem dX12_lesser_9 : decode cX12_lesser 9 = .ok (.iload_n 1, 1) := by decide +kernel
theorem dX12_lesser_10 : decode cX12_lesser 10 = .ok (.ireturn, 1) := by decide +kernel
theorem dX12_bits_0 : decode cX12_bits 0 = .ok (.iconst 0, 1) := by decide +kernel
theorem dX12_bits_1 : decode cX12_bits 1 = .ok (.istore_n 1, 1) := by decide +kernel
theorem dX12_bits_2 : decode cX12_bits 2 = .ok (.iload_n 0, 1) := by decide +kernel
theorem dX12_bits_3 : decode cX12_bits 3 = .ok (.istore_n 2, 1) := by decide +kernel
theorem dX12_bits_4 : decode cX12_bits 4 = .ok (.iload_n 2, 1) := by decide +kernel
theorem dX12_bits_5 : decode cX12_bits 5 = .ok (.ifCond .eq 15, 3) := by decide +kernel
theorem dX12_bits_8 : decode cX12_bits 8 = .ok (.iinc 1 1, 3) := by decide +kernel
theorem dX12_bits_11 : decode cX12_bits 11 = .ok (.iload_n 2, 1) := by decide +kernel
theorem dX12_bits_12 : decode cX12_bits 12 = .ok (.iload_n 2, 1) := by decide +kernel
theorem dX12_bits_13 : decode cX12_bits 13 = .ok (.iconst 1, 1) := by decide +kernel
theorem dX12_bits_14 : decode cX12_bits 14 = .ok (.isub, 1) := by decide +kernel
theorem dX12_bits_15 : decode cX12_bits 15 = .ok (.iand, 1) := by decide +kernel
theorem dX12_bits_16 : decode cX12_bits 16 = .ok (.istore_n 2, 1) := by decide +kernel
theorem dX12_bits_17 : decode cX12_bits 17 = .ok (.goto (-13), 3) := by decide +kernel
theorem dX12_bits_20 : decode cX12_bits 20 = .ok (.iload_n 1, 1) := by decide +kernel
theorem dX12_bits_21 : decode cX12_bits 21 = .ok (.ireturn, 1) := by decide +kernel
theorem dX12_init_0 : decode cX12_init 0 = .ok (.aload_n 0, 1) := by decide +kernel
theorem dX12_init_1 : decode cX12_init 1 = .ok (.invokespecial 27, 3) := by decide +kernel
theorem dX12_init_4 : decode cX12_init 4 = .ok (.aload_n 0, 1) := by decide +kernel
theorem dX12_init_5 : decode cX12_init 5 = .ok (.sipush 940, 3) := by decide +kernel
theorem dX12_init_8 : decode cX12_init 8 = .ok (.newarray .byte, 2) := by decide +kernel
theorem dX12_init_10 : decode cX12_init 10 = .ok (.putfield 14, 3) := by decide +kernel
theorem dX12_init_13 : decode cX12_init 13 = .ok (.aload_n 0, 1) := by decide +kernel
theorem dX12_init_14 : decode cX12_init 14 = .ok (.sipush 657, 3) := by decide +kernel
theorem dX12_init_17 : decode cX12_init 17 = .ok (.newarray .int, 2) := by decide +kernel
theorem dX12_init_19 : decode cX12_init 19 = .ok (.putfield 33, 3) := by decide +kernel
theorem dX12_init_22 : decode cX12_init 22 = .ok (.aload_n 0, 1) := by decide +kernel
theorem dX12_init_23 : decode cX12_init 23 = .ok (.bipush 106, 2) := by decide +kernel
theorem dX12_init_25 : decode cX12_init 25 = .ok (.newarray .int, 2) := by decide +kernel
theorem dX12_init_27 : decode cX12_init 27 = .ok (.putfield 37, 3) := by decide +kernel
theorem dX12_init_30 : decode cX12_init 30 = .ok (.aload_n 0, 1) := by decide +kernel
theorem dX12_init_31 : decode cX12_init 31 = .ok (.sipush 135, 3) := by decide +kernel
theorem dX12_init_34 : decode cX12_init 34 = .ok (.newarray .int, 2) := by decide +kernel
theorem dX12_init_36 : decode cX12_init 36 = .ok (.putfield 40, 3) := by decide +kernel
theorem dX12_init_39 : decode cX12_init 39 = .ok (.aload_n 0, 1) := by decide +kernel
theorem dX12_init_40 : decode cX12_init 40 = .ok (.bipush 52, 2) := by decide +kernel
theorem dX12_init_42 : decode cX12_init 42 = .ok (.newarray .long, 2) := by decide +kernel
theorem dX12_init_44 : decode cX12_init 44 = .ok (.putfield 43, 3) := by decide +kernel
theorem dX12_init_47 : decode cX12_init 47 = .ok (.aload_n 0, 1) := by decide +kernel
theorem dX12_init_48 : decode cX12_init 48 = .ok (.bipush 27, 2) := by decide +kernel
theorem dX12_init_50 : decode cX12_init 50 = .ok (.newarray .long, 2) := by decide +kernel
theorem dX12_init_52 : decode cX12_init 52 = .ok (.putfield 47, 3) := by decide +kernel
theorem dX12_init_55 : decode cX12_init 55 = .ok (.aload_n 0, 1) := by decide +kernel
theorem dX12_init_56 : decode cX12_init 56 = .ok (.bipush 8, 2) := by decide +kernel
theorem dX12_init_58 : decode cX12_init 58 = .ok (.newarray .int, 2) := by decide +kernel
theorem dX12_init_60 : decode cX12_init 60 = .ok (.putfield 50, 3) := by decide +kernel
theorem dX12_init_63 : decode cX12_init 63 = .ok (.aload_n 0, 1) := by decide +kernel
theorem dX12_init_64 : decode cX12_init 64 = .ok (.sipush 2960, 3) := by decide +kernel
theorem dX12_init_67 : decode cX12_init 67 = .ok (.newarray .int, 2) := by decide +kernel
theorem dX12_init_69 : decode cX12_init 69 = .ok (.putfield 53, 3) := by decide +kernel
theorem dX12_init_72 : decode cX12_init 72 = .ok (.aload_n 0, 1) := by decide +kernel
theorem dX12_init_73 : decode cX12_init 73 = .ok (.sipush 370, 3) := by decide +kernel
theorem dX12_init_76 : decode cX12_init 76 = .ok (.newarray .int, 2) := by decide +kernel
theorem dX12_init_78 : decode cX12_init 78 = .ok (.putfield 56, 3) := by decide +kernel
theorem dX12_init_81 : decode cX12_init 81 = .ok (.aload_n 0, 1) := by decide +kernel
theorem dX12_init_82 : decode cX12_init 82 = .ok (.ldc 59, 2) := by decide +kernel
theorem dX12_init_84 : decode cX12_init 84 = .ok (.newarray .int, 2) := by decide +kernel
theorem dX12_init_86 : decode cX12_init 86 = .ok (.putfield 60, 3) := by decide +kernel
theorem dX12_init_89 : decode cX12_init 89 = .ok (.aload_n 0, 1) := by decide +kernel
theorem dX12_init_90 : decode cX12_init 90 = .ok (.iconst 4, 1) := by decide +kernel
theorem dX12_init_91 : decode cX12_init 91 = .ok (.newarray .int, 2) := by decide +kernel
theorem dX12_init_93 : decode cX12_init 93 = .ok (.putfield 63, 3) := by decide +kernel
theorem dX12_init_96 : decode cX12_init 96 = .ok (.aload_n 0, 1) := by decide +kernel
theorem dX12_init_97 : decode cX12_init 97 = .ok (.bipush 24, 2) := by decide +kernel
theorem dX12_init_99 : decode cX12_init 99 = .ok (.newarray .int, 2) := by decide +kernel
theorem dX12_init_101 : decode cX12_init 101 = .ok (.putfield 66, 3) := by decide +kernel
theorem dX12_init_104 : decode cX12_init 104 = .ok (.aload_n 0, 1) := by decide +kernel
theorem dX12_init_105 : decode cX12_init 105 = .ok (.bipush 6, 2) := by decide +kernel
theorem dX12_init_107 : decode cX12_init 107 = .ok (.newarray .int, 2) := by decide +kernel
theorem dX12_init_109 : decode cX12_init 109 = .ok (.putfield 69, 3) := by decide +kernel
theorem dX12_init_112 : decode cX12_init 112 = .ok (.aload_n 0, 1) := by decide +kernel
theorem dX12_init_113 : decode cX12_init 113 = .ok (.iconst 4, 1) := by decide +kernel
theorem dX12_init_114 : decode cX12_init 114 = .ok (.newarray .int, 2) := by decide +kernel
theorem dX12_init_116 : decode cX12_init 116 = .ok (.putfield 72, 3) := by decide +kernel
theorem dX12_init_119 : decode cX12_init 119 = .ok (.aload_n 0, 1) := by decide +kernel
theorem dX12_init_120 : decode cX12_init 120 = .ok (.bipush 45, 2) := by decide +kernel
theorem dX12_init_122 : decode cX12_init 122 = .ok (.newarray .int, 2) := by decide +kernel
theorem dX12_init_124 : decode cX12_init 124 = .ok (.putfield 75, 3) := by decide +kernel
theorem dX12_init_127 : decode cX12_init 127 = .ok (.aload_n 0, 1) := by decide +kernel
theorem dX12_init_128 : decode cX12_init 128 = .ok (.bipush 45, 2) := by decide +kernel
theorem dX12_init_130 : decode cX12_init 130 = .ok (.newarray .boolean, 2) := by decide +kernel
theorem dX12_init_132 : decode cX12_init 132 = .ok (.putfield 78, 3) := by decide +kernel
theorem dX12_init_135 : decode cX12_init 135 = .ok (.aload_n 0, 1) := by decide +kernel
theorem dX12_init_136 : decode cX12_init 136 = .ok (.sipush 1314, 3) := by decide +kernel
theorem dX12_init_139 : decode cX12_init 139 = .ok (.newarray .int, 2) := by decide +kernel
theorem dX12_init_141 : decode cX12_init 141 = .ok (.putfield 82, 3) := by decide +kernel
theorem dX12_init_144 : decode cX12_init 144 = .ok (.aload_n 0, 1) := by decide +kernel
theorem dX12_init_145 : decode cX12_init 145 = .ok (.bipush 52, 2) := by decide +kernel
theorem dX12_init_147 : decode cX12_init 147 = .ok (.newarray .long, 2) := by decide +kernel
theorem dX12_init_149 : decode cX12_init 149 = .ok (.putfield 85, 3) := by decide +kernel
theorem dX12_init_152 : decode cX12_init 152 = .ok (.aload_n 0, 1) := by decide +kernel
theorem dX12_init_153 : decode cX12_init 153 = .ok (.iconst 2, 1) := by decide +kernel
theorem dX12_init_154 : decode cX12_init 154 = .ok (.newarray .boolean, 2) := by decide +kernel
theorem dX12_init_156 : decode cX12_init 156 = .ok (.putfield 88, 3) := by decide +kernel
theorem dX12_init_159 : decode cX12_init 159 = .ok (.aload_n 0, 1) := by decide +kernel
theorem dX12_init_160 : decode cX12_init 160 = .ok (.getfield 47, 3) := by decide +kernel
theorem dX12_init_163 : decode cX12_init 163 = .ok (.iconst 0, 1) := by decide +kernel
theorem dX12_init_164 : decode cX12_init 164 = .ok (.ldc2_w 91, 3) := by decide +kernel
theorem dX12_init_167 : decode cX12_init 167 = .ok (.lastore, 1) := by decide +kernel
theorem dX12_init_168 : decode cX12_init 168 = .ok (.aload_n 0, 1) := by decide +kernel
theorem dX12_init_169 : decode cX12_init 169 = .ok (.getfield 47, 3) := by decide +kernel
theorem dX12_init_172 : decode cX12_init 172 = .ok (.iconst 1, 1) := by decide +kernel
theorem dX12_init_173 : decode cX12_init 173 = .ok (.ldc2_w 93, 3) := by decide +kernel
theorem dX12_init_176 : decode cX12_init 176 = .ok (.lastore, 1) := by decide +kernel
theorem dX12_init_177 : decode cX12_init 177 = .ok (.aload_n 0, 1) := by decide +kernel
theorem dX12_init_178 : decode cX12_init 178 = .ok (.getfield 47, 3) := by decide +kernel
theorem dX12_init_181 : decode cX12_init 181 = .ok (.iconst 2, 1) := by decide +kernel
theorem dX12_init_182 : decode cX12_init 182 = .ok (.ldc2_w 95, 3) := by decide +kernel
theorem dX12_init_185 : decode cX12_init 185 = .ok (.lastore, 1) := by decide +kernel
theorem dX12_init_186 : decode cX12_init 186 = .ok (.aload_n 0, 1) := by decide +kernel
theorem dX12_init_187 : decode cX12_init 187 = .ok (.getfield 47, 3) := by decide +kernel
theorem dX12_init_190 : decode cX12_init 190 = .ok (.iconst 3, 1) := by decide +kernel
theorem dX12_init_191 : decode cX12_init 191 = .ok (.ldc2_w 97, 3) := by decide +kernel
theorem dX12_init_194 : decode cX12_init 194 = .ok (.lastore, 1) := by decide +kernel
theorem dX12_init_195 : decode cX12_init 195 = .ok (.aload_n 0, 1) := by decide +kernel
theorem dX12_init_196 : decode cX12_init 196 = .ok (.getfield 47, 3) := by decide +kernel
theorem dX12_init_199 : decode cX12_init 199 = .ok (.iconst 4, 1) := by decide +kernel
theorem dX12_init_200 : decode cX12_init 200 = .ok (.ldc2_w 99, 3) := by decide +kernel
theorem dX12_init_203 : decode cX12_init 203 = .ok (.lastore, 1) := by decide +kernel
theorem dX12_init_204 : decode cX12_init 204 = .ok (.aload_n 0, 1) := by decide +kernel
theorem dX12_init_205 : decode cX12_init 205 = .ok (.getfield 47, 3) := by decide +kernel
theorem dX12_init_208 : decode cX12_init 208 = .ok (.iconst 5, 1) := by decide +kernel
theorem dX12_init_209 : decode cX12_init 209 = .ok (.ldc2_w 101, 3) := by decide +kernel
theorem dX12_init_212 : decode cX12_init 212 = .ok (.lastore, 1) := by decide +kernel
theorem dX12_init_213 : decode cX12_init 213 = .ok (.aload_n 0, 1) := by decide +kernel
theorem dX12_init_214 : decode cX12_init 214 = .ok (.getfield 47, 3) := by decide +kernel
theorem dX12_init_217 : decode cX12_init 217 = .ok (.bipush 6, 2) := by decide +kernel
theorem dX12_init_219 : decode cX12_init 219 = .ok (.ldc2_w 103, 3) := by decide +kernel
theorem dX12_init_222 : decode cX12_init 222 = .ok (.lastore, 1) := by decide +kernel
theorem dX12_init_223 : decode cX12_init 223 = .ok (.aload_n 0, 1) := by decide +kernel
theorem dX12_init_224 : decode cX12_init 224 = .ok (.getfield 47, 3) := by decide +kernel
theorem dX12_init_227 : decode cX12_init 227 = .ok (.bipush 7, 2) := by decide +kernel
theorem dX12_init_229 : decode cX12_init 229 = .ok (.ldc2_w 105, 3) := by decide +kernel
theorem dX12_init_232 : decode cX12_init 232 = .ok (.lastore, 1) := by decide +kernel
theorem dX12_init_233 : decode cX12_init 233 = .ok (.aload_n 0, 1) := by decide +kernel
theorem dX12_init_234 : decode cX12_init 234 = .ok (.getfield 47, 3) := by decide +kernel
theorem dX12_init_237 : decode cX12_init 237 = .ok (.bipush 8, 2) := by decide +kernel
theorem dX12_init_239 : decode cX12_init 239 = .ok (.ldc2_w 107, 3) := by decide +kernel
theorem dX12_init_242 : decode cX12_init 242 = .ok (.lastore, 1) := by decide +kernel
theorem dX12_init_243 : decode cX12_init 243 = .ok (.aload_n 0, 1) := by decide +kernel
theorem dX12_init_244 : decode cX12_init 244 = .ok (.getfield 47, 3) := by decide +kernel
theorem dX12_init_247 : decode cX12_init 247 = .ok (.bipush 9, 2) := by decide +kernel
theorem dX12_init_249 : decode cX12_init 249 = .ok (.ldc2_w 109, 3) := by decide +kernel
theorem dX12_init_252 : decode cX12_init 252 = .ok (.lastore, 1) := by decide +kernel
theorem dX12_init_253 : decode cX12_init 253 = .ok (.aload_n 0, 1) := by decide +kernel
theorem dX12_init_254 : decode cX12_init 254 = .ok (.getfield 47, 3) := by decide +kernel
theorem dX12_init_257 : decode cX12_init 257 = .ok (.bipush 10, 2) := by decide +kernel
theorem dX12_init_259 : decode cX12_init 259 = .ok (.ldc2_w 111, 3) := by decide +kernel
theorem dX12_init_262 : decode cX12_init 262 = .ok (.lastore, 1) := by decide +kernel
theorem dX12_init_263 : decode cX12_init 263 = .ok (.aload_n 0, 1) := by decide +kernel
theorem dX12_init_264 : decode cX12_init 264 = .ok (.getfield 47, 3) := by decide +kernel
theorem dX12_init_267 : decode cX12_init 267 = .ok (.bipush 11, 2) := by decide +kernel
theorem dX12_init_269 : decode cX12_init 269 = .ok (.ldc2_w 113, 3) := by decide +kernel
theorem dX12_init_272 : decode cX12_init 272 = .ok (.lastore, 1) := by decide +kernel
theorem dX12_init_273 : decode cX12_init 273 = .ok (.aload_n 0, 1) := by decide +kernel
theorem dX12_init_274 : decode cX12_init 274 = .ok (.getfield 47, 3) := by decide +kernel
theorem dX12_init_277 : decode cX12_init 277 = .ok (.bipush 12, 2) := by decide +kernel
theorem dX12_init_279 : decode cX12_init 279 = .ok (.ldc2_w 115, 3) := by decide +kernel
theorem dX12_init_282 : decode cX12_init 282 = .ok (.lastore, 1) := by decide +kernel
theorem dX12_init_283 : decode cX12_init 283 = .ok (.aload_n 0, 1) := by decide +kernel
theorem dX12_init_284 : decode cX12_init 284 = .ok (.getfield 47, 3) := by decide +kernel
theorem dX12_init_287 : decode cX12_init 287 = .ok (.bipush 13, 2) := by decide +kernel
theorem dX12_init_289 : decode cX12_init 289 = .ok (.ldc2_w 117, 3) := by decide +kernel
theorem dX12_init_292 : decode cX12_init 292 = .ok (.lastore, 1) := by decide +kernel
theorem dX12_init_293 : decode cX12_init 293 = .ok (.aload_n 0, 1) := by decide +kernel
theorem dX12_init_294 : decode cX12_init 294 = .ok (.getfield 47, 3) := by decide +kernel
theorem dX12_init_297 : decode cX12_init 297 = .ok (.bipush 14, 2) := by decide +kernel
theorem dX12_init_299 : decode cX12_init 299 = .ok (.ldc2_w 119, 3) := by decide +kernel
theorem dX12_init_302 : decode cX12_init 302 = .ok (.lastore, 1) := by decide +kernel
theorem dX12_init_303 : decode cX12_init 303 = .ok (.aload_n 0, 1) := by decide +kernel
theorem dX12_init_304 : decode cX12_init 304 = .ok (.getfield 47, 3) := by decide +kernel
theorem dX12_init_307 : decode cX12_init 307 = .ok (.bipush 15, 2) := by decide +kernel
theorem dX12_init_309 : decode cX12_init 309 = .ok (.ldc2_w 121, 3) := by decide +kernel
theorem dX12_init_312 : decode cX12_init 312 = .ok (.lastore, 1) := by decide +kernel
theorem dX12_init_313 : decode cX12_init 313 = .ok (.aload_n 0, 1) := by decide +kernel
theorem dX12_init_314 : decode cX12_init 314 = .ok (.getfield 47, 3) := by decide +kernel
theorem dX12_init_317 : decode cX12_init 317 = .ok (.bipush 16, 2) := by decide +kernel
theorem dX12_init_319 : decode cX12_init 319 = .ok (.ldc2_w 123, 3) := by decide +kernel
theorem dX12_init_322 : decode cX12_init 322 = .ok (.lastore, 1) := by decide +kernel
theorem dX12_init_323 : decode cX12_init 323 = .ok (.aload_n 0, 1) := by decide +kernel
theorem dX12_init_324 : decode cX12_init 324 = .ok (.getfield 47, 3) := by decide +kernel
theorem dX12_init_327 : decode cX12_init 327 = .ok (.bipush 17, 2) := by decide +kernel
theorem dX12_init_329 : decode cX12_init 329 = .ok (.ldc2_w 125, 3) := by decide +kernel
theorem dX12_init_332 : decode cX12_init 332 = .ok (.lastore, 1) := by decide +kernel
theorem dX12_init_333 : decode cX12_init 333 = .ok (.aload_n 0, 1) := by decide +kernel
theorem dX12_init_334 : decode cX12_init 334 = .ok (.getfield 47, 3) := by decide +kernel
theorem dX12_init_337 : decode cX12_init 337 = .ok (.bipush 18, 2) := by decide +kernel
theorem dX12_init_339 : decode cX12_init 339 = .ok (.ldc2_w 127, 3) := by decide +kernel
theorem dX12_init_342 : decode cX12_init 342 = .ok (.lastore, 1) := by decide +kernel
theorem dX12_init_343 : decode cX12_init 343 = .ok (.aload_n 0, 1) := by decide +kernel
theorem dX12_init_344 : decode cX12_init 344 = .ok (.getfield 47, 3) := by decide +kernel
theorem dX12_init_347 : decode cX12_init 347 = .ok (.bipush 19, 2) := by decide +kernel
theorem dX12_init_349 : decode cX12_init 349 = .ok (.ldc2_w 129, 3) := by decide +kernel
theorem dX12_init_352 : decode cX12_init 352 = .ok (.lastore, 1) := by decide +kernel
theorem dX12_init_353 : decode cX12_init 353 = .ok (.aload_n 0, 1) := by decide +kernel
theorem dX12_init_354 : decode cX12_init 354 = .ok (.getfield 47, 3) := by decide +kernel
theorem dX12_init_357 : decode cX12_init 357 = .ok (.bipush 20, 2) := by decide +kernel
theorem dX12_init_359 : decode cX12_init 359 = .ok (.ldc2_w 131, 3) := by decide +kernel
theorem dX12_init_362 : decode cX12_init 362 = .ok (.lastore, 1) := by decide +kernel
theorem dX12_init_363 : decode cX12_init 363 = .ok (.aload_n 0, 1) := by decide +kernel
theorem dX12_init_364 : decode cX12_init 364 = .ok (.getfield 47, 3) := by decide +kernel
theorem dX12_init_367 : decode cX12_init 367 = .ok (.bipush 21, 2) := by decide +kernel
theorem dX12_init_369 : decode cX12_init 369 = .ok (.ldc2_w 133, 3) := by decide +kernel
theorem dX12_init_372 : decode cX12_init 372 = .ok (.lastore, 1) := by decide +kernel
theorem dX12_init_373 : decode cX12_init 373 = .ok (.aload_n 0, 1) := by decide +kernel
theorem dX12_init_374 : decode cX12_init 374 = .ok (.getfield 47, 3) := by decide +kernel
theorem dX12_init_377 : decode cX12_init 377 = .ok (.bipush 22, 2) := by decide +kernel
theorem dX12_init_379 : decode cX12_init 379 = .ok (.ldc2_w 135, 3) := by decide +kernel
theorem dX12_init_382 : decode cX12_init 382 = .ok (.lastore, 1) := by decide +kernel
theorem dX12_init_383 : decode cX12_init 383 = .ok (.aload_n 0, 1) := by decide +kernel
theorem dX12_init_384 : decode cX12_init 384 = .ok (.getfield 47, 3) := by decide +kernel
theorem dX12_init_387 : decode cX12_init 387 = .ok (.bipush 23, 2) := by decide +kernel
theorem dX12_init_389 : decode cX12_init 389 = .ok (.ldc2_w 137, 3) := by decide +kernel
theorem dX12_init_392 : decode cX12_init 392 = .ok (.lastore, 1) := by decide +kernel
theorem dX12_init_393 : decode cX12_init 393 = .ok (.aload_n 0, 1) := by decide +kernel
theorem dX12_init_394 : decode cX12_init 394 = .ok (.getfield 47, 3) := by decide +kernel
theorem dX12_init_397 : decode cX12_init 397 = .ok (.bipush 24, 2) := by decide +kernel
theorem dX12_init_399 : decode cX12_init 399 = .ok (.ldc2_w 139, 3) := by decide +kernel
theorem dX12_init_402 : decode cX12_init 402 = .ok (.lastore, 1) := by decide +kernel
theorem dX12_init_403 : decode cX12_init 403 = .ok (.aload_n 0, 1) := by decide +kernel
theorem dX12_init_404 : decode cX12_init 404 = .ok (.getfield 47, 3) := by decide +kernel
theorem dX12_init_407 : decode cX12_init 407 = .ok (.bipush 25, 2) := by decide +kernel
theorem dX12_init_409 : decode cX12_init 409 = .ok (.ldc2_w 141, 3) := by decide +kernel
theorem dX12_init_412 : decode cX12_init 412 = .ok (.lastore, 1) := by decide +kernel
theorem dX12_init_413 : decode cX12_init 413 = .ok (.aload_n 0, 1) := by decide +kernel
theorem dX12_init_414 : decode cX12_init 414 = .ok (.getfield 47, 3) := by decide +kernel
theorem dX12_init_417 : decode cX12_init 417 = .ok (.bipush 26, 2) := by decide +kernel
theorem dX12_init_419 : decode cX12_init 419 = .ok (.ldc2_w 143, 3) := by decide +kernel
theorem dX12_init_422 : decode cX12_init 422 = .ok (.lastore, 1) := by decide +kernel
theorem dX12_init_423 : decode cX12_init 423 = .ok (.aload_n 0, 1) := by decide +kernel
theorem dX12_init_424 : decode cX12_init 424 = .ok (.getfield 33, 3) := by decide +kernel
theorem dX12_init_427 : decode cX12_init 427 = .ok (.iconst 0, 1) := by decide +kernel
theorem dX12_init_428 : decode cX12_init 428 = .ok (.bipush 24, 2) := by decide +kernel
theorem dX12_init_430 : decode cX12_init 430 = .ok (.iastore, 1) := by decide +kernel
theorem dX12_init_431 : decode cX12_init 431 = .ok (.return_, 1) := by decide +kernel
theorem dX12_peek_0 : decode cX12_peek 0 = .ok (.aload_n 0, 1) := by decide +kernel
theorem dX12_peek_1 : decode cX12_peek 1 = .ok (.getfield 21, 3) := by decide +kernel
theorem dX12_peek_4 : decode cX12_peek 4 = .ok (.aload_n 0, 1) := by decide +kernel
theorem dX12_peek_5 : decode cX12_peek 5 = .ok (.getfield 18, 3) := by decide +kernel
theorem dX12_peek_8 : decode cX12_peek 8 = .ok (.if_icmp .ge 19, 3) := by decide +kernel
theorem dX12_peek_11 : decode cX12_peek 11 = .ok (.aload_n 0, 1) := by decide +kernel
theorem dX12_peek_12 : decode cX12_peek 12 = .ok (.getfield 14, 3) := by decide +kernel
theorem dX12_peek_15 : decode cX12_peek 15 = .ok (.aload_n 0, 1) := by decide +kernel
theorem dX12_peek_16 : decode cX12_peek 16 = .ok (.getfield 21, 3) := by decide +kernel
theorem dX12_peek_19 : decode cX12_peek 19 = .ok (.baload, 1) := by decide +kernel
theorem dX12_peek_20 : decode cX12_peek 20 = .ok (.sipush 255, 3) := by decide +kernel
theorem dX12_peek_23 : decode cX12_peek 23 = .ok (.iand, 1) := by decide +kernel
theorem dX12_peek_24 : decode cX12_peek 24 = .ok (.goto 4, 3) := by decide +kernel
theorem dX12_peek_27 : decode cX12_peek 27 = .ok (.iconst (-1), 1) := by decide +kernel
theorem dX12_peek_28 : decode cX12_peek 28 = .ok (.ireturn, 1) := by decide +kernel
theorem dX12_isSmall_0 : decode cX12_isSmall 0 = .ok (.iload_n 0, 1) := by decide +kernel
theorem dX12_isSmall_1 : decode cX12_isSmall 1 = .ok (.bipush 97, 2) := by decide +kernel
theorem dX12_isSmall_3 : decode cX12_isSmall 3 = .ok (.if_icmp .lt 13, 3) := by decide +kernel
theorem dX12_isSmall_6 : decode cX12_isSmall 6 = .ok (.iload_n 0, 1) := by decide +kernel
theorem dX12_isSmall_7 : decode cX12_isSmall 7 = .ok (.bipush 122, 2) := by decide +kernel
theorem dX12_isSmall_9 : decode cX12_isSmall 9 = .ok (.if_icmp .gt 7, 3) := by decide +kernel
theorem dX12_isSmall_12 : decode cX12_isSmall 12 = .ok (.iconst 1, 1) := by decide +kernel
theorem dX12_isSmall_13 : decode cX12_isSmall 13 = .ok (.goto 4, 3) := by decide +kernel
theorem dX12_isSmall_16 : decode cX12_isSmall 16 = .ok (.iconst 0, 1) := by decide +kernel
theorem dX12_isSmall_17 : decode cX12_isSmall 17 = .ok (.ireturn, 1) := by decide +kernel
theorem dX12_isDigit_0 : decode cX12_isDigit 0 = .ok (.iload_n 0, 1) := by decide +kernel
theorem dX12_isDigit_1 : decode cX12_isDigit 1 = .ok (.bipush 48, 2) := by decide +kernel
theorem dX12_isDigit_3 : decode cX12_isDigit 3 = .ok (.if_icmp .lt 13, 3) := by decide +kernel
theorem dX12_isDigit_6 : decode cX12_isDigit 6 = .ok (.iload_n 0, 1) := by decide +kernel
theorem dX12_isDigit_7 : decode cX12_isDigit 7 = .ok (.bipush 57, 2) := by decide +kernel
theorem dX12_isDigit_9 : decode cX12_isDigit 9 = .ok (.if_icmp .gt 7, 3) := by decide +kernel
theorem dX12_isDigit_12 : decode cX12_isDigit 12 = .ok (.iconst 1, 1) := by decide +kernel
theorem dX12_isDigit_13 : decode cX12_isDigit 13 = .ok (.goto 4, 3) := by decide +kernel
theorem dX12_isDigit_16 : decode cX12_isDigit 16 = .ok (.iconst 0, 1) := by decide +kernel
theorem dX12_isDigit_17 : decode cX12_isDigit 17 = .ok (.ireturn, 1) := by decide +kernel
theorem dX12_next_0 : decode cX12_next 0 = .ok (.aload_n 0, 1) := by decide +kernel
theorem dX12_next_1 : decode cX12_next 1 = .ok (.invokevirtual 145, 3) := by decide +kernel
theorem dX12_next_4 : decode cX12_next 4 = .ok (.bipush 32, 2) := by decide +kernel
theorem dX12_next_6 : decode cX12_next 6 = .ok (.if_icmp .eq 12, 3) := by decide +kernel
theorem dX12_next_9 : decode cX12_next 9 = .ok (.aload_n 0, 1) := by decide +kernel
theorem dX12_next_10 : decode cX12_next 10 = .ok (.invokevirtual 145, 3) := by decide +kernel
theorem dX12_next_13 : decode cX12_next 13 = .ok (.bipush 10, 2) := by decide +kernel
theorem dX12_next_15 : decode cX12_next 15 = .ok (.if_icmp .ne 16, 3) := by decide +kernel
theorem dX12_next_18 : decode cX12_next 18 = .ok (.aload_n 0, 1) := by decide +kernel
theorem dX12_next_19 : decode cX12_next 19 = .ok (.dup, 1) := by decide +kernel
theorem dX12_next_20 : decode cX12_next 20 = .ok (.getfield 21, 3) := by decide +kernel
theorem dX12_next_23 : decode cX12_next 23 = .ok (.iconst 1, 1) := by decide +kernel
theorem dX12_next_24 : decode cX12_next 24 = .ok (.iadd, 1) := by decide +kernel
theorem dX12_next_25 : decode cX12_next 25 = .ok (.putfield 21, 3) := by decide +kernel
theorem dX12_next_28 : decode cX12_next 28 = .ok (.goto (-28), 3) := by decide +kernel
theorem dX12_next_31 : decode cX12_next 31 = .ok (.aload_n 0, 1) := by decide +kernel
theorem dX12_next_32 : decode cX12_next 32 = .ok (.aload_n 0, 1) := by decide +kernel
theorem dX12_next_33 : decode cX12_next 33 = .ok (.getfield 21, 3) := by decide +kernel
theorem dX12_next_36 : decode cX12_next 36 = .ok (.putfield 149, 3) := by decide +kernel
theorem dX12_next_39 : decode cX12_next 39 = .ok (.aload_n 0, 1) := by decide +kernel
theorem dX12_next_40 : decode cX12_next 40 = .ok (.iconst 0, 1) := by decide +kernel
theorem dX12_next_41 : decode cX12_next 41 = .ok (.putfield 152, 3) := by decide +kernel
theorem dX12_next_44 : decode cX12_next 44 = .ok (.aload_n 0, 1) := by decide +kernel
theorem dX12_next_45 : decode cX12_next 45 = .ok (.getfield 18, 3) := by decide +kernel
theorem dX12_next_48 : decode cX12_next 48 = .ok (.aload_n 0, 1) := by decide +kernel
theorem dX12_next_49 : decode cX12_next 49 = .ok (.getfield 24, 3) := by decide +kernel
theorem dX12_next_52 : decode cX12_next 52 = .ok (.if_icmp .le 28, 3) := by decide +kernel
theorem dX12_next_55 : decode cX12_next 55 = .ok (.aload_n 0, 1) := by decide +kernel
theorem dX12_next_56 : decode cX12_next 56 = .ok (.getfield 21, 3) := by decide +kernel
theorem dX12_next_59 : decode cX12_next 59 = .ok (.aload_n 0, 1) := by decide +kernel
theorem dX12_next_60 : decode cX12_next 60 = .ok (.getfield 24, 3) := by decide +kernel
theorem dX12_next_63 : decode cX12_next 63 = .ok (.if_icmp .lt 17, 3) := by decide +kernel
theorem dX12_next_66 : decode cX12_next 66 = .ok (.aload_n 0, 1) := by decide +kernel
theorem dX12_next_67 : decode cX12_next 67 = .ok (.aload_n 0, 1) := by decide +kernel
theorem dX12_next_68 : decode cX12_next 68 = .ok (.getfield 24, 3) := by decide +kernel
theorem dX12_next_71 : decode cX12_next 71 = .ok (.putfield 149, 3) := by decide +kernel
theorem dX12_next_74 : decode cX12_next 74 = .ok (.aload_n 0, 1) := by decide +kernel
theorem dX12_next_75 : decode cX12_next 75 = .ok (.iconst 4, 1) := by decide +kernel
theorem dX12_next_76 : decode cX12_next 76 = .ok (.putfield 155, 3) := by decide +kernel
theorem dX12_next_79 : decode cX12_next 79 = .ok (.return_, 1) := by decide +kernel
theorem dX12_next_80 : decode cX12_next 80 = .ok (.aload_n 0, 1) := by decide +kernel
theorem dX12_next_81 : decode cX12_next 81 = .ok (.invokevirtual 145, 3) := by decide +kernel
theorem dX12_next_84 : decode cX12_next 84 = .ok (.istore_n 1, 1) := by decide +kernel
theorem dX12_next_85 : decode cX12_next 85 = .ok (.iload_n 1, 1) := by decide +kernel
theorem dX12_next_86 : decode cX12_next 86 = .ok (.ifCond .ge 9, 3) := by decide +kernel
theorem dX12_next_89 : decode cX12_next 89 = .ok (.aload_n 0, 1) := by decide +kernel
theorem dX12_next_90 : decode cX12_next 90 = .ok (.iconst 0, 1) := by decide +kernel
theorem dX12_next_91 : decode cX12_next 91 = .ok (.putfield 155, 3) := by decide +kernel
theorem dX12_next_94 : decode cX12_next 94 = .ok (.return_, 1) := by decide +kernel
theorem dX12_next_95 : decode cX12_next 95 = .ok (.iload_n 1, 1) := by decide +kernel
theorem dX12_next_96 : decode cX12_next 96 = .ok (.invokestatic 158, 3) := by decide +kernel
theorem dX12_next_99 : decode cX12_next 99 = .ok (.ifCond .ne 65, 3) := by decide +kernel
theorem dX12_next_102 : decode cX12_next 102 = .ok (.iload_n 1, 1) := by decide +kernel
theorem dX12_next_103 : decode cX12_next 103 = .ok (.invokestatic 162, 3) := by decide +kernel
theorem dX12_next_106 : decode cX12_next 106 = .ok (.ifCond .ne 58, 3) := by decide +kernel
theorem dX12_next_109 : decode cX12_next 109 = .ok (.aload_n 0, 1) := by decide +kernel
theorem dX12_next_110 : decode cX12_next 110 = .ok (.iload_n 1, 1) := by decide +kernel
theorem dX12_next_111 : decode cX12_next 111 = .ok (.bipush 59, 2) := by decide +kernel
theorem dX12_next_113 : decode cX12_next 113 = .ok (.if_icmp .eq 27, 3) := by decide +kernel
theorem dX12_next_116 : decode cX12_next 116 = .ok (.iload_n 1, 1) := by decide +kernel
theorem dX12_next_117 : decode cX12_next 117 = .ok (.bipush 40, 2) := by decide +kernel
theorem dX12_next_119 : decode cX12_next 119 = .ok (.if_icmp .eq 21, 3) := by decide +kernel
theorem dX12_next_122 : decode cX12_next 122 = .ok (.iload_n 1, 1) := by decide +kernel
theorem dX12_next_123 : decode cX12_next 123 = .ok (.bipush 41, 2) := by decide +kernel
theorem dX12_next_125 : decode cX12_next 125 = .ok (.if_icmp .eq 15, 3) := by decide +kernel
theorem dX12_next_128 : decode cX12_next 128 = .ok (.iload_n 1, 1) := by decide +kernel
theorem dX12_next_129 : decode cX12_next 129 = .ok (.bipush 60, 2) := by decide +kernel
theorem dX12_next_131 : decode cX12_next 131 = .ok (.if_icmp .lt 13, 3) := by decide +kernel
theorem dX12_next_134 : decode cX12_next 134 = .ok (.iload_n 1, 1) := by decide +kernel
theorem dX12_next_135 : decode cX12_next 135 = .ok (.bipush 62, 2) := by decide +kernel
theorem dX12_next_137 : decode cX12_next 137 = .ok (.if_icmp .gt 7, 3) := by decide +kernel
theorem dX12_next_140 : decode cX12_next 140 = .ok (.iconst 3, 1) := by decide +kernel
theorem dX12_next_141 : decode cX12_next 141 = .ok (.goto 4, 3) := by decide +kernel
theorem dX12_next_144 : decode cX12_next 144 = .ok (.iconst 4, 1) := by decide +kernel
theorem dX12_next_145 : decode cX12_next 145 = .ok (.putfield 155, 3) := by decide +kernel
theorem dX12_next_148 : decode cX12_next 148 = .ok (.aload_n 0, 1) := by decide +kernel
theorem dX12_next_149 : decode cX12_next 149 = .ok (.iload_n 1, 1) := by decide +kernel
theorem dX12_next_150 : decode cX12_next 150 = .ok (.putfield 165, 3) := by decide +kernel
theorem dX12_next_153 : decode cX12_next 153 = .ok (.aload_n 0, 1) := by decide +kernel
theorem dX12_next_154 : decode cX12_next 154 = .ok (.dup, 1) := by decide +kernel
theorem dX12_next_155 : decode cX12_next 155 = .ok (.getfield 21, 3) := by decide +kernel
theorem dX12_next_158 : decode cX12_next 158 = .ok (.iconst 1, 1) := by decide +kernel
theorem dX12_next_159 : decode cX12_next 159 = .ok (.iadd, 1) := by decide +kernel
theorem dX12_next_160 : decode cX12_next 160 = .ok (.putfield 21, 3) := by decide +kernel
theorem dX12_next_163 : decode cX12_next 163 = .ok (.return_, 1) := by decide +kernel
theorem dX12_next_164 : decode cX12_next 164 = .ok (.iload_n 1, 1) := by decide +kernel
theorem dX12_next_165 : decode cX12_next 165 = .ok (.invokestatic 158, 3) := by decide +kernel
theorem dX12_next_168 : decode cX12_next 168 = .ok (.istore_n 2, 1) := by decide +kernel
theorem dX12_next_169 : decode cX12_next 169 = .ok (.iconst 1, 1) := by decide +kernel
theorem dX12_next_170 : decode cX12_next 170 = .ok (.istore_n 3, 1) := by decide +kernel
theorem dX12_next_171 : decode cX12_next 171 = .ok (.aload_n 0, 1) := by decide +kernel
theorem dX12_next_172 : decode cX12_next 172 = .ok (.lconst 0, 1) := by decide +kernel
theorem dX12_next_173 : decode cX12_next 173 = .ok (.putfield 168, 3) := by decide +kernel
theorem dX12_next_176 : decode cX12_next 176 = .ok (.aload_n 0, 1) := by decide +kernel
theorem dX12_next_177 : decode cX12_next 177 = .ok (.iconst 0, 1) := by decide +kernel
theorem dX12_next_178 : decode cX12_next 178 = .ok (.putfield 165, 3) := by decide +kernel
theorem dX12_next_181 : decode cX12_next 181 = .ok (.aload_n 0, 1) := by decide +kernel
theorem dX12_next_182 : decode cX12_next 182 = .ok (.invokevirtual 145, 3) := by decide +kernel
theorem dX12_next_185 : decode cX12_next 185 = .ok (.invokestatic 158, 3) := by decide +kernel
theorem dX12_next_188 : decode cX12_next 188 = .ok (.ifCond .ne 13, 3) := by decide +kernel
theorem dX12_next_191 : decode cX12_next 191 = .ok (.aload_n 0, 1) := by decide +kernel
theorem dX12_next_192 : decode cX12_next 192 = .ok (.invokevirtual 145, 3) := by decide +kernel
theorem dX12_next_195 : decode cX12_next 195 = .ok (.invokestatic 162, 3) := by decide +kernel
theorem dX12_next_198 : decode cX12_next 198 = .ok (.ifCond .eq 100, 3) := by decide +kernel
theorem dX12_next_201 : decode cX12_next 201 = .ok (.iload_n 3, 1) := by decide +kernel
theorem dX12_next_202 : decode cX12_next 202 = .ok (.ifCond .eq 18, 3) := by decide +kernel
theorem dX12_next_205 : decode cX12_next 205 = .ok (.aload_n 0, 1) := by decide +kernel
theorem dX12_next_206 : decode cX12_next 206 = .ok (.invokevirtual 145, 3) := by decide +kernel
theorem dX12_next_209 : decode cX12_next 209 = .ok (.invokestatic 158, 3) := by decide +kernel
theorem dX12_next_212 : decode cX12_next 212 = .ok (.iload_n 2, 1) := by decide +kernel
theorem dX12_next_213 : decode cX12_next 213 = .ok (.if_icmp .ne 7, 3) := by decide +kernel
theorem dX12_next_216 : decode cX12_next 216 = .ok (.iconst 1, 1) := by decide +kernel
theorem dX12_next_217 : decode cX12_next 217 = .ok (.goto 4, 3) := by decide +kernel
theorem dX12_next_220 : decode cX12_next 220 = .ok (.iconst 0, 1) := by decide +kernel
theorem dX12_next_221 : decode cX12_next 221 = .ok (.istore_n 3, 1) := by decide +kernel
theorem dX12_next_222 : decode cX12_next 222 = .ok (.aload_n 0, 1) := by decide +kernel
theorem dX12_next_223 : decode cX12_next 223 = .ok (.getfield 152, 3) := by decide +kernel
theorem dX12_next_226 : decode cX12_next 226 = .ok (.bipush 7, 2) := by decide +kernel
theorem dX12_next_228 : decode cX12_next 228 = .ok (.if_icmp .ge 20, 3) := by decide +kernel
theorem dX12_next_231 : decode cX12_next 231 = .ok (.aload_n 0, 1) := by decide +kernel
theorem dX12_next_232 : decode cX12_next 232 = .ok (.aload_n 0, 1) := by decide +kernel
theorem dX12_next_233 : decode cX12_next 233 = .ok (.getfield 168, 3) := by decide +kernel
theorem dX12_next_236 : decode cX12_next 236 = .ok (.bipush 8, 2) := by decide +kernel
theorem dX12_next_238 : decode cX12_next 238 = .ok (.lshl, 1) := by decide +kernel
theorem dX12_next_239 : decode cX12_next 239 = .ok (.aload_n 0, 1) := by decide +kernel
theorem dX12_next_240 : decode cX12_next 240 = .ok (.invokevirtual 145, 3) := by decide +kernel
theorem dX12_next_243 : decode cX12_next 243 = .ok (.i2l, 1) := by decide +kernel
theorem dX12_next_244 : decode cX12_next 244 = .ok (.lor, 1) := by decide +kernel
theorem dX12_next_245 : decode cX12_next 245 = .ok (.putfield 168, 3) := by decide +kernel
theorem dX12_next_248 : decode cX12_next 248 = .ok (.aload_n 0, 1) := by decide +kernel
theorem dX12_next_249 : decode cX12_next 249 = .ok (.getfield 152, 3) := by decide +kernel
theorem dX12_next_252 : decode cX12_next 252 = .ok (.iconst 3, 1) := by decide +kernel
theorem dX12_next_253 : decode cX12_next 253 = .ok (.if_icmp .ge 22, 3) := by decide +kernel
theorem dX12_next_256 : decode cX12_next 256 = .ok (.aload_n 0, 1) := by decide +kernel
theorem dX12_next_257 : decode cX12_next 257 = .ok (.bipush 10, 2) := by decide +kernel
theorem dX12_next_259 : decode cX12_next 259 = .ok (.aload_n 0, 1) := by decide +kernel
theorem dX12_next_260 : decode cX12_next 260 = .ok (.getfield 165, 3) := by decide +kernel
theorem dX12_next_263 : decode cX12_next 263 = .ok (.imul, 1) := by decide +kernel
theorem dX12_next_264 : decode cX12_next 264 = .ok (.aload_n 0, 1) := by decide +kernel
theorem dX12_next_265 : decode cX12_next 265 = .ok (.invokevirtual 145, 3) := by decide +kernel
theorem dX12_next_268 : decode cX12_next 268 = .ok (.iadd, 1) := by decide +kernel
theorem dX12_next_269 : decode cX12_next 269 = .ok (.bipush 48, 2) := by decide +kernel
theorem dX12_next_271 : decode cX12_next 271 = .ok (.isub, 1) := by decide +kernel
theorem dX12_next_272 : decode cX12_next 272 = .ok (.putfield 165, 3) := by decide +kernel
theorem dX12_next_275 : decode cX12_next 275 = .ok (.aload_n 0, 1) := by decide +kernel
theorem dX12_next_276 : decode cX12_next 276 = .ok (.dup, 1) := by decide +kernel
theorem dX12_next_277 : decode cX12_next 277 = .ok (.getfield 152, 3) := by decide +kernel
theorem dX12_next_280 : decode cX12_next 280 = .ok (.iconst 1, 1) := by decide +kernel
theorem dX12_next_281 : decode cX12_next 281 = .ok (.iadd, 1) := by decide +kernel
theorem dX12_next_282 : decode cX12_next 282 = .ok (.putfield 152, 3) := by decide +kernel
theorem dX12_next_285 : decode cX12_next 285 = .ok (.aload_n 0, 1) := by decide +kernel
theorem dX12_next_286 : decode cX12_next 286 = .ok (.dup, 1) := by decide +kernel
theorem dX12_next_287 : decode cX12_next 287 = .ok (.getfield 21, 3) := by decide +kernel
theorem dX12_next_290 : decode cX12_next 290 = .ok (.iconst 1, 1) := by decide +kernel
theorem dX12_next_291 : decode cX12_next 291 = .ok (.iadd, 1) := by decide +kernel
theorem dX12_next_292 : decode cX12_next 292 = .ok (.putfield 21, 3) := by decide +kernel
theorem dX12_next_295 : decode cX12_next 295 = .ok (.goto (-114), 3) := by decide +kernel
theorem dX12_next_298 : decode cX12_next 298 = .ok (.aload_n 0, 1) := by decide +kernel
theorem dX12_next_299 : decode cX12_next 299 = .ok (.iload_n 3, 1) := by decide +kernel
theorem dX12_next_300 : decode cX12_next 300 = .ok (.ifCond .eq 20, 3) := by decide +kernel
theorem dX12_next_303 : decode cX12_next 303 = .ok (.aload_n 0, 1) := by decide +kernel
theorem dX12_next_304 : decode cX12_next 304 = .ok (.getfield 152, 3) := by decide +kernel
theorem dX12_next_307 : decode cX12_next 307 = .ok (.iload_n 2, 1) := by decide +kernel
theorem dX12_next_308 : decode cX12_next 308 = .ok (.ifCond .eq 8, 3) := by decide +kernel
theorem dX12_next_311 : decode cX12_next 311 = .ok (.bipush 7, 2) := by decide +kernel
theorem dX12_next_313 : decode cX12_next 313 = .ok (.goto 4, 3) := by decide +kernel
theorem dX12_next_316 : decode cX12_next 316 = .ok (.iconst 3, 1) := by decide +kernel
theorem dX12_next_317 : decode cX12_next 317 = .ok (.if_icmp .le 7, 3) := by decide +kernel
theorem dX12_next_320 : decode cX12_next 320 = .ok (.iconst 4, 1) := by decide +kernel
theorem dX12_next_321 : decode cX12_next 321 = .ok (.goto 12, 3) := by decide +kernel
theorem dX12_next_324 : decode cX12_next 324 = .ok (.iload_n 2, 1) := by decide +kernel
theorem dX12_next_325 : decode cX12_next 325 = .ok (.ifCond .eq 7, 3) := by decide +kernel
theorem dX12_next_328 : decode cX12_next 328 = .ok (.iconst 1, 1) := by decide +kernel
theorem dX12_next_329 : decode cX12_next 329 = .ok (.goto 4, 3) := by decide +kernel
theorem dX12_next_332 : decode cX12_next 332 = .ok (.iconst 2, 1) := by decide +kernel
theorem dX12_next_333 : decode cX12_next 333 = .ok (.putfield 155, 3) := by decide +kernel
theorem dX12_next_336 : decode cX12_next 336 = .ok (.return_, 1) := by decide +kernel
theorem dX12_bad_0 : decode cX12_bad 0 = .ok (.aload_n 0, 1) := by decide +kernel
theorem dX12_bad_1 : decode cX12_bad 1 = .ok (.iload_n 1, 1) := by decide +kernel
theorem dX12_bad_2 : decode cX12_bad 2 = .ok (.putfield 172, 3) := by decide +kernel
theorem dX12_bad_5 : decode cX12_bad 5 = .ok (.aload_n 0, 1) := by decide +kernel
theorem dX12_bad_6 : decode cX12_bad 6 = .ok (.aload_n 0, 1) := by decide +kernel
theorem dX12_bad_7 : decode cX12_bad 7 = .ok (.getfield 149, 3) := by decide +kernel
theorem dX12_bad_10 : decode cX12_bad 10 = .ok (.putfield 175, 3) := by decide +kernel
theorem dX12_bad_13 : decode cX12_bad 13 = .ok (.iconst 0, 1) := by decide +kernel
theorem dX12_bad_14 : decode cX12_bad 14 = .ok (.ireturn, 1) := by decide +kernel
theorem dX12_isWord_0 : decode cX12_isWord 0 = .ok (.aload_n 0, 1) := by decide +kernel
theorem dX12_isWord_1 : decode cX12_isWord 1 = .ok (.getfield 155, 3) := by decide +kernel
theorem dX12_isWord_4 : decode cX12_isWord 4 = .ok (.iconst 1, 1) := by decide +kernel
theorem dX12_isWord_5 : decode cX12_isWord 5 = .ok (.if_icmp .ne 16, 3) := by decide +kernel
theorem dX12_isWord_8 : decode cX12_isWord 8 = .ok (.aload_n 0, 1) := by decide +kernel
theorem dX12_isWord_9 : decode cX12_isWord 9 = .ok (.getfield 168, 3) := by decide +kernel
theorem dX12_isWord_12 : decode cX12_isWord 12 = .ok (.lload_n 1, 1) := by decide +kernel
theorem dX12_isWord_13 : decode cX12_isWord 13 = .ok (.lcmp, 1) := by decide +kernel
theorem dX12_isWord_14 : decode cX12_isWord 14 = .ok (.ifCond .ne 7, 3) := by decide +kernel
theorem dX12_isWord_17 : decode cX12_isWord 17 = .ok (.iconst 1, 1) := by decide +kernel
theorem dX12_isWord_18 : decode cX12_isWord 18 = .ok (.goto 4, 3) := by decide +kernel
theorem dX12_isWord_21 : decode cX12_isWord 21 = .ok (.iconst 0, 1) := by decide +kernel
theorem dX12_isWord_22 : decode cX12_isWord 22 = .ok (.ireturn, 1) := by decide +kernel
theorem dX12_isSign_0 : decode cX12_isSign 0 = .ok (.aload_n 0, 1) := by decide +kernel
theorem dX12_isSign_1 : decode cX12_isSign 1 = .ok (.getfield 155, 3) := by decide +kernel
theorem dX12_isSign_4 : decode cX12_isSign 4 = .ok (.iconst 3, 1) := by decide +kernel
theorem dX12_isSign_5 : decode cX12_isSign 5 = .ok (.if_icmp .ne 15, 3) := by decide +kernel
theorem dX12_isSign_8 : decode cX12_isSign 8 = .ok (.aload_n 0, 1) := by decide +kernel
theorem dX12_isSign_9 : decode cX12_isSign 9 = .ok (.getfield 165, 3) := by decide +kernel
theorem dX12_isSign_12 : decode cX12_isSign 12 = .ok (.iload_n 1, 1) := by decide +kernel
theorem dX12_isSign_13 : decode cX12_isSign 13 = .ok (.if_icmp .ne 7, 3) := by decide +kernel
theorem dX12_isSign_16 : decode cX12_isSign 16 = .ok (.iconst 1, 1) := by decide +kernel
theorem dX12_isSign_17 : decode cX12_isSign 17 = .ok (.goto 4, 3) := by decide +kernel
theorem dX12_isSign_20 : decode cX12_isSign 20 = .ok (.iconst 0, 1) := by decide +kernel
theorem dX12_isSign_21 : decode cX12_isSign 21 = .ok (.ireturn, 1) := by decide +kernel
theorem dX12_sign_0 : decode cX12_sign 0 = .ok (.aload_n 0, 1) := by decide +kernel
theorem dX12_sign_1 : decode cX12_sign 1 = .ok (.iload_n 1, 1) := by decide +kernel
theorem dX12_sign_2 : decode cX12_sign 2 = .ok (.invokevirtual 178, 3) := by decide +kernel
theorem dX12_sign_5 : decode cX12_sign 5 = .ok (.ifCond .ne 9, 3) := by decide +kernel
theorem dX12_sign_8 : decode cX12_sign 8 = .ok (.aload_n 0, 1) := by decide +kernel
theorem dX12_sign_9 : decode cX12_sign 9 = .ok (.iconst 1, 1) := by decide +kernel
theorem dX12_sign_10 : decode cX12_sign 10 = .ok (.invokevirtual 181, 3) := by decide +kernel
theorem dX12_sign_13 : decode cX12_sign 13 = .ok (.ireturn, 1) := by decide +kernel
theorem dX12_sign_14 : decode cX12_sign 14 = .ok (.aload_n 0, 1) := by decide +kernel
theorem dX12_sign_15 : decode cX12_sign 15 = .ok (.invokevirtual 184, 3) := by decide +kernel
theorem dX12_sign_18 : decode cX12_sign 18 = .ok (.iconst 1, 1) := by decide +kernel
theorem dX12_sign_19 : decode cX12_sign 19 = .ok (.ireturn, 1) := by decide +kernel
theorem dX12_isName_0 : decode cX12_isName 0 = .ok (.aload_n 0, 1) := by decide +kernel
theorem dX12_isName_1 : decode cX12_isName 1 = .ok (.getfield 155, 3) := by decide +kernel
theorem dX12_isName_4 : decode cX12_isName 4 = .ok (.iconst 1, 1) := by decide +kernel
theorem dX12_isName_5 : decode cX12_isName 5 = .ok (.if_icmp .ne 7, 3) := by decide +kernel
theorem dX12_isName_8 : decode cX12_isName 8 = .ok (.iconst 1, 1) := by decide +kernel
theorem dX12_isName_9 : decode cX12_isName 9 = .ok (.goto 4, 3) := by decide +kernel
theorem dX12_isName_12 : decode cX12_isName 12 = .ok (.iconst 0, 1) := by decide +kernel
theorem dX12_isName_13 : decode cX12_isName 13 = .ok (.istore_n 1, 1) := by decide +kernel
theorem dX12_isName_14 : decode cX12_isName 14 = .ok (.iconst 0, 1) := by decide +kernel
theorem dX12_isName_15 : decode cX12_isName 15 = .ok (.istore_n 2, 1) := by decide +kernel
theorem dX12_isName_16 : decode cX12_isName 16 = .ok (.iload_n 2, 1) := by decide +kernel
theorem dX12_isName_17 : decode cX12_isName 17 = .ok (.bipush 27, 2) := by decide +kernel
theorem dX12_isName_19 : decode cX12_isName 19 = .ok (.if_icmp .ge 33, 3) := by decide +kernel
theorem dX12_isName_22 : decode cX12_isName 22 = .ok (.iload_n 1, 1) := by decide +kernel
theorem dX12_isName_23 : decode cX12_isName 23 = .ok (.ifCond .eq 21, 3) := by decide +kernel
theorem dX12_isName_26 : decode cX12_isName 26 = .ok (.aload_n 0, 1) := by decide +kernel
theorem dX12_isName_27 : decode cX12_isName 27 = .ok (.getfield 168, 3) := by decide +kernel
theorem dX12_isName_30 : decode cX12_isName 30 = .ok (.aload_n 0, 1) := by decide +kernel
theorem dX12_isName_31 : decode cX12_isName 31 = .ok (.getfield 47, 3) := by decide +kernel
theorem dX12_isName_34 : decode cX12_isName 34 = .ok (.iload_n 2, 1) := by decide +kernel
theorem dX12_isName_35 : decode cX12_isName 35 = .ok (.laload, 1) := by decide +kernel
theorem dX12_isName_36 : decode cX12_isName 36 = .ok (.lcmp, 1) := by decide +kernel
theorem dX12_isName_37 : decode cX12_isName 37 = .ok (.ifCond .eq 7, 3) := by decide +kernel
theorem dX12_isName_40 : decode cX12_isName 40 = .ok (.iconst 1, 1) := by decide +kernel
theorem dX12_isName_41 : decode cX12_isName 41 = .ok (.goto 4, 3) := by decide +kernel
theorem dX12_isName_44 : decode cX12_isName 44 = .ok (.iconst 0, 1) := by decide +kernel
theorem dX12_isName_45 : decode cX12_isName 45 = .ok (.istore_n 1, 1) := by decide +kernel
theorem dX12_isName_46 : decode cX12_isName 46 = .ok (.iinc 2 1, 3) := by decide +kernel
theorem dX12_isName_49 : decode cX12_isName 49 = .ok (.goto (-33), 3) := by decide +kernel
theorem dX12_isName_52 : decode cX12_isName 52 = .ok (.iload_n 1, 1) := by decide +kernel
theorem dX12_isName_53 : decode cX12_isName 53 = .ok (.ireturn, 1) := by decide +kernel
theorem dX12_takes_0 : decode cX12_takes 0 = .ok (.aload_n 0, 1) := by decide +kernel
theorem dX12_takes_1 : decode cX12_takes 1 = .ok (.getfield 155, 3) := by decide +kernel
theorem dX12_takes_4 : decode cX12_takes 4 = .ok (.iconst 2, 1) := by decide +kernel
theorem dX12_takes_5 : decode cX12_takes 5 = .ok (.if_icmp .eq 9, 3) := by decide +kernel
theorem dX12_takes_8 : decode cX12_takes 8 = .ok (.aload_n 0, 1) := by decide +kernel
theorem dX12_takes_9 : decode cX12_takes 9 = .ok (.iconst 1, 1) := by decide +kernel
theorem dX12_takes_10 : decode cX12_takes 10 = .ok (.invokevirtual 181, 3) := by decide +kernel
theorem dX12_takes_13 : decode cX12_takes 13 = .ok (.ireturn, 1) := by decide +kernel
theorem dX12_takes_14 : decode cX12_takes 14 = .ok (.aload_n 0, 1) := by decide +kernel
theorem dX12_takes_15 : decode cX12_takes 15 = .ok (.getfield 165, 3) := by decide +kernel
theorem dX12_takes_18 : decode cX12_takes 18 = .ok (.iload_n 1, 1) := by decide +kernel
theorem dX12_takes_19 : decode cX12_takes 19 = .ok (.iload_n 2, 1) := by decide +kernel
theorem dX12_takes_20 : decode cX12_takes 20 = .ok (.invokestatic 187, 3) := by decide +kernel
theorem dX12_takes_23 : decode cX12_takes 23 = .ok (.ifCond .ne 9, 3) := by decide +kernel
theorem dX12_takes_26 : decode cX12_takes 26 = .ok (.aload_n 0, 1) := by decide +kernel
theorem dX12_takes_27 : decode cX12_takes 27 = .ok (.iconst 2, 1) := by decide +kernel
theorem dX12_takes_28 : decode cX12_takes 28 = .ok (.invokevirtual 181, 3) := by decide +kernel
theorem dX12_takes_31 : decode cX12_takes 31 = .ok (.ireturn, 1) := by decide +kernel
theorem dX12_takes_32 : decode cX12_takes 32 = .ok (.aload_n 0, 1) := by decide +kernel
theorem dX12_takes_33 : decode cX12_takes 33 = .ok (.aload_n 0, 1) := by decide +kernel
theorem dX12_takes_34 : decode cX12_takes 34 = .ok (.getfield 165, 3) := by decide +kernel
theorem dX12_takes_37 : decode cX12_takes 37 = .ok (.putfield 191, 3) := by decide +kernel
theorem dX12_takes_40 : decode cX12_takes 40 = .ok (.aload_n 0, 1) := by decide +kernel
theorem dX12_takes_41 : decode cX12_takes 41 = .ok (.invokevirtual 184, 3) := by decide +kernel
theorem dX12_takes_44 : decode cX12_takes 44 = .ok (.iconst 1, 1) := by decide +kernel
theorem dX12_takes_45 : decode cX12_takes 45 = .ok (.ireturn, 1) := by decide +kernel
theorem dX12_find_0 : decode cX12_find 0 = .ok (.iconst 0, 1) := by decide +kernel
theorem dX12_find_1 : decode cX12_find 1 = .ok (.istore_n 3, 1) := by decide +kernel
theorem dX12_find_2 : decode cX12_find 2 = .ok (.iload_n 3, 1) := by decide +kernel
theorem dX12_find_3 : decode cX12_find 3 = .ok (.iload_n 2, 1) := by decide +kernel
theorem dX12_find_4 : decode cX12_find 4 = .ok (.if_icmp .ge 27, 3) := by decide +kernel
theorem dX12_find_7 : decode cX12_find 7 = .ok (.aload_n 0, 1) := by decide +kernel
theorem dX12_find_8 : decode cX12_find 8 = .ok (.getfield 43, 3) := by decide +kernel
theorem dX12_find_11 : decode cX12_find 11 = .ok (.iload_n 1, 1) := by decide +kernel
theorem dX12_find_12 : decode cX12_find 12 = .ok (.iload_n 3, 1) := by decide +kernel
theorem dX12_find_13 : decode cX12_find 13 = .ok (.iadd, 1) := by decide +kernel
theorem dX12_find_14 : decode cX12_find 14 = .ok (.laload, 1) := by decide +kernel
theorem dX12_find_15 : decode cX12_find 15 = .ok (.aload_n 0, 1) := by decide +kernel
theorem dX12_find_16 : decode cX12_find 16 = .ok (.getfield 168, 3) := by decide +kernel
theorem dX12_find_19 : decode cX12_find 19 = .ok (.lcmp, 1) := by decide +kernel
theorem dX12_find_20 : decode cX12_find 20 = .ok (.ifCond .ne 5, 3) := by decide +kernel
theorem dX12_find_23 : decode cX12_find 23 = .ok (.iload_n 3, 1) := by decide +kernel
theorem dX12_find_24 : decode cX12_find 24 = .ok (.ireturn, 1) := by decide +kernel
theorem dX12_find_25 : decode cX12_find 25 = .ok (.iinc 3 1, 3) := by decide +kernel
theorem dX12_find_28 : decode cX12_find 28 = .ok (.goto (-26), 3) := by decide +kernel
theorem dX12_find_31 : decode cX12_find 31 = .ok (.iconst (-1), 1) := by decide +kernel
theorem dX12_find_32 : decode cX12_find 32 = .ok (.ireturn, 1) := by decide +kernel
theorem dX12_fresh_0 : decode cX12_fresh 0 = .ok (.aload_n 0, 1) := by decide +kernel
theorem dX12_fresh_1 : decode cX12_fresh 1 = .ok (.invokevirtual 194, 3) := by decide +kernel
theorem dX12_fresh_4 : decode cX12_fresh 4 = .ok (.ifCond .ne 9, 3) := by decide +kernel
theorem dX12_fresh_7 : decode cX12_fresh 7 = .ok (.aload_n 0, 1) := by decide +kernel
theorem dX12_fresh_8 : decode cX12_fresh 8 = .ok (.iconst 1, 1) := by decide +kernel
theorem dX12_fresh_9 : decode cX12_fresh 9 = .ok (.invokevirtual 181, 3) := by decide +kernel
theorem dX12_fresh_12 : decode cX12_fresh 12 = .ok (.ireturn, 1) := by decide +kernel
theorem dX12_fresh_13 : decode cX12_fresh 13 = .ok (.aload_n 0, 1) := by decide +kernel
theorem dX12_fresh_14 : decode cX12_fresh 14 = .ok (.bipush 26, 2) := by decide +kernel
theorem dX12_fresh_16 : decode cX12_fresh 16 = .ok (.aload_n 0, 1) := by decide +kernel
theorem dX12_fresh_17 : decode cX12_fresh 17 = .ok (.getfield 37, 3) := by decide +kernel
theorem dX12_fresh_20 : decode cX12_fresh 20 = .ok (.iconst 1, 1) := by decide +kernel
theorem dX12_fresh_21 : decode cX12_fresh 21 = .ok (.iaload, 1) := by decide +kernel
theorem dX12_fresh_22 : decode cX12_fresh 22 = .ok (.invokevirtual 198, 3) := by decide +kernel
theorem dX12_fresh_25 : decode cX12_fresh 25 = .ok (.ifCond .ge 49, 3) := by decide +kernel
theorem dX12_fresh_28 : decode cX12_fresh 28 = .ok (.aload_n 0, 1) := by decide +kernel
theorem dX12_fresh_29 : decode cX12_fresh 29 = .ok (.bipush 34, 2) := by decide +kernel
theorem dX12_fresh_31 : decode cX12_fresh 31 = .ok (.aload_n 0, 1) := by decide +kernel
theorem dX12_fresh_32 : decode cX12_fresh 32 = .ok (.getfield 37, 3) := by decide +kernel
theorem dX12_fresh_35 : decode cX12_fresh 35 = .ok (.iconst 4, 1) := by decide +kernel
theorem dX12_fresh_36 : decode cX12_fresh 36 = .ok (.iaload, 1) := by decide +kernel
theorem dX12_fresh_37 : decode cX12_fresh 37 = .ok (.invokevirtual 198, 3) := by decide +kernel
theorem dX12_fresh_40 : decode cX12_fresh 40 = .ok (.ifCond .ge 34, 3) := by decide +kernel
theorem dX12_fresh_43 : decode cX12_fresh 43 = .ok (.aload_n 0, 1) := by decide +kernel
theorem dX12_fresh_44 : decode cX12_fresh 44 = .ok (.bipush 38, 2) := by decide +kernel
theorem dX12_fresh_46 : decode cX12_fresh 46 = .ok (.aload_n 0, 1) := by decide +kernel
theorem dX12_fresh_47 : decode cX12_fresh 47 = .ok (.getfield 37, 3) := by decide +kernel
theorem dX12_fresh_50 : decode cX12_fresh 50 = .ok (.iconst 5, 1) := by decide +kernel
theorem dX12_fresh_51 : decode cX12_fresh 51 = .ok (.iaload, 1) := by decide +kernel
theorem dX12_fresh_52 : decode cX12_fresh 52 = .ok (.invokevirtual 198, 3) := by decide +kernel
theorem dX12_fresh_55 : decode cX12_fresh 55 = .ok (.ifCond .ge 19, 3) := by decide +kernel
theorem dX12_fresh_58 : decode cX12_fresh 58 = .ok (.aload_n 0, 1) := by decide +kernel
theorem dX12_fresh_59 : decode cX12_fresh 59 = .ok (.bipush 44, 2) := by decide +kernel
theorem dX12_fresh_61 : decode cX12_fresh 61 = .ok (.aload_n 0, 1) := by decide +kernel
theorem dX12_fresh_62 : decode cX12_fresh 62 = .ok (.getfield 37, 3) := by decide +kernel
theorem dX12_fresh_65 : decode cX12_fresh 65 = .ok (.bipush 6, 2) := by decide +kernel
theorem dX12_fresh_67 : decode cX12_fresh 67 = .ok (.iaload, 1) := by decide +kernel
theorem dX12_fresh_68 : decode cX12_fresh 68 = .ok (.invokevirtual 198, 3) := by decide +kernel
theorem dX12_fresh_71 : decode cX12_fresh 71 = .ok (.ifCond .lt 9, 3) := by decide +kernel
theorem dX12_fresh_74 : decode cX12_fresh 74 = .ok (.aload_n 0, 1) := by decide +kernel
theorem dX12_fresh_75 : decode cX12_fresh 75 = .ok (.iconst 3, 1) := by decide +kernel
theorem dX12_fresh_76 : decode cX12_fresh 76 = .ok (.invokevirtual 181, 3) := by decide +kernel
theorem dX12_fresh_79 : decode cX12_fresh 79 = .ok (.ireturn, 1) := by decide +kernel
theorem dX12_fresh_80 : decode cX12_fresh 80 = .ok (.aload_n 0, 1) := by decide +kernel
theorem dX12_fresh_81 : decode cX12_fresh 81 = .ok (.getfield 43, 3) := by decide +kernel
theorem dX12_fresh_84 : decode cX12_fresh 84 = .ok (.iload_n 1, 1) := by decide +kernel
theorem dX12_fresh_85 : decode cX12_fresh 85 = .ok (.aload_n 0, 1) := by decide +kernel
theorem dX12_fresh_86 : decode cX12_fresh 86 = .ok (.getfield 168, 3) := by decide +kernel
theorem dX12_fresh_89 : decode cX12_fresh 89 = .ok (.lastore, 1) := by decide +kernel
theorem dX12_fresh_90 : decode cX12_fresh 90 = .ok (.aload_n 0, 1) := by decide +kernel
theorem dX12_fresh_91 : decode cX12_fresh 91 = .ok (.invokevirtual 184, 3) := by decide +kernel
theorem dX12_fresh_94 : decode cX12_fresh 94 = .ok (.iconst 1, 1) := by decide +kernel
theorem dX12_fresh_95 : decode cX12_fresh 95 = .ok (.ireturn, 1) := by decide +kernel
theorem dX12_looksAt_0 : decode cX12_looksAt 0 = .ok (.aload_n 0, 1) := by decide +kernel
theorem dX12_looksAt_1 : decode cX12_looksAt 1 = .ok (.invokevirtual 194, 3) := by decide +kernel
theorem dX12_looksAt_4 : decode cX12_looksAt 4 = .ok (.ifCond .ne 9, 3) := by decide +kernel
theorem dX12_looksAt_7 : decode cX12_looksAt 7 = .ok (.aload_n 0, 1) := by decide +kernel
theorem dX12_looksAt_8 : decode cX12_looksAt 8 = .ok (.iconst 1, 1) := by decide +kernel
theorem dX12_looksAt_9 : decode cX12_looksAt 9 = .ok (.invokevirtual 181, 3) := by decide +kernel
theorem dX12_looksAt_12 : decode cX12_looksAt 12 = .ok (.ireturn, 1) := by decide +kernel
theorem dX12_looksAt_13 : decode cX12_looksAt 13 = .ok (.aload_n 0, 1) := by decide +kernel
theorem dX12_looksAt_14 : decode cX12_looksAt 14 = .ok (.aload_n 0, 1) := by decide +kernel
theorem dX12_looksAt_15 : decode cX12_looksAt 15 = .ok (.iload_n 1, 1) := by decide +kernel
theorem dX12_looksAt_16 : decode cX12_looksAt 16 = .ok (.iload_n 2, 1) := by decide +kernel
theorem dX12_looksAt_17 : decode cX12_looksAt 17 = .ok (.invokevirtual 198, 3) := by decide +kernel
theorem dX12_looksAt_20 : decode cX12_looksAt 20 = .ok (.putfield 191, 3) := by decide +kernel
theorem dX12_looksAt_23 : decode cX12_looksAt 23 = .ok (.aload_n 0, 1) := by decide +kernel
theorem dX12_looksAt_24 : decode cX12_looksAt 24 = .ok (.getfield 191, 3) := by decide +kernel
theorem dX12_looksAt_27 : decode cX12_looksAt 27 = .ok (.ifCond .ge 11, 3) := by decide +kernel
theorem dX12_looksAt_30 : decode cX12_looksAt 30 = .ok (.aload_n 0, 1) := by decide +kernel
theorem dX12_looksAt_31 : decode cX12_looksAt 31 = .ok (.iconst 3, 1) := by decide +kernel
theorem dX12_looksAt_32 : decode cX12_looksAt 32 = .ok (.invokevirtual 181, 3) := by decide +kernel
theorem dX12_looksAt_35 : decode cX12_looksAt 35 = .ok (.ifCond .eq 7, 3) := by decide +kernel
theorem dX12_looksAt_38 : decode cX12_looksAt 38 = .ok (.iconst 1, 1) := by decide +kernel
theorem dX12_looksAt_39 : decode cX12_looksAt 39 = .ok (.goto 4, 3) := by decide +kernel
theorem dX12_looksAt_42 : decode cX12_looksAt 42 = .ok (.iconst 0, 1) := by decide +kernel
theorem dX12_looksAt_43 : decode cX12_looksAt 43 = .ok (.ireturn, 1) := by decide +kernel
theorem dX12_takesName_0 : decode cX12_takesName 0 = .ok (.aload_n 0, 1) := by decide +kernel
theorem dX12_takesName_1 : decode cX12_takesName 1 = .ok (.iload_n 1, 1) := by decide +kernel
theorem dX12_takesName_2 : decode cX12_takesName 2 = .ok (.iload_n 2, 1) := by decide +kernel
theorem dX12_takesName_3 : decode cX12_takesName 3 = .ok (.invokevirtual 202, 3) := by decide +kernel
theorem dX12_takesName_6 : decode cX12_takesName 6 = .ok (.ifCond .ne 5, 3) := by decide +kernel
theorem dX12_takesName_9 : decode cX12_takesName 9 = .ok (.iconst 0, 1) := by decide +kernel
theorem dX12_takesName_10 : decode cX12_takesName 10 = .ok (.ireturn, 1) := by decide +kernel
theorem dX12_takesName_11 : decode cX12_takesName 11 = .ok (.aload_n 0, 1) := by decide +kernel
theorem dX12_takesName_12 : decode cX12_takesName 12 = .ok (.invokevirtual 184, 3) := by decide +kernel
theorem dX12_takesName_15 : decode cX12_takesName 15 = .ok (.iconst 1, 1) := by decide +kernel
theorem dX12_takesName_16 : decode cX12_takesName 16 = .ok (.ireturn, 1) := by decide +kernel
theorem dX12_line_0 : decode cX12_line 0 = .ok (.aload_n 0, 1) := by decide +kernel
theorem dX12_line_1 : decode cX12_line 1 = .ok (.ldc2_w 91, 3) := by decide +kernel
theorem dX12_line_4 : decode cX12_line 4 = .ok (.invokevirtual 206, 3) := by decide +kernel
theorem dX12_line_7 : decode cX12_line 7 = .ok (.ifCond .eq 49, 3) := by decide +kernel
theorem dX12_line_10 : decode cX12_line 10 = .ok (.aload_n 0, 1) := by decide +kernel
theorem dX12_line_11 : decode cX12_line 11 = .ok (.getfield 210, 3) := by decide +kernel
theorem dX12_line_14 : decode cX12_line 14 = .ok (.ifCond .eq 9, 3) := by decide +kernel
theorem dX12_line_17 : decode cX12_line 17 = .ok (.aload_n 0, 1) := by decide +kernel
theorem dX12_line_18 : decode cX12_line 18 = .ok (.iconst 3, 1) := by decide +kernel
theorem dX12_line_19 : decode cX12_line 19 = .ok (.invokevirtual 181, 3) := by decide +kernel
theorem dX12_line_22 : decode cX12_line 22 = .ok (.ireturn, 1) := by decide +kernel
theorem dX12_line_23 : decode cX12_line 23 = .ok (.aload_n 0, 1) := by decide +kernel
theorem dX12_line_24 : decode cX12_line 24 = .ok (.iconst 1, 1) := by decide +kernel
theorem dX12_line_25 : decode cX12_line 25 = .ok (.putfield 210, 3) := by decide +kernel
theorem dX12_line_28 : decode cX12_line 28 = .ok (.aload_n 0, 1) := by decide +kernel
theorem dX12_line_29 : decode cX12_line 29 = .ok (.invokevirtual 184, 3) := by decide +kernel
theorem dX12_line_32 : decode cX12_line 32 = .ok (.aload_n 0, 1) := by decide +kernel
theorem dX12_line_33 : decode cX12_line 33 = .ok (.iconst 4, 1) := by decide +kernel
theorem dX12_line_34 : decode cX12_line 34 = .ok (.bipush 24, 2) := by decide +kernel
theorem dX12_line_36 : decode cX12_line 36 = .ok (.invokevirtual 214, 3) := by decide +kernel
theorem dX12_line_39 : decode cX12_line 39 = .ok (.ifCond .ne 5, 3) := by decide +kernel
theorem dX12_line_42 : decode cX12_line 42 = .ok (.iconst 0, 1) := by decide +kernel
theorem dX12_line_43 : decode cX12_line 43 = .ok (.ireturn, 1) := by decide +kernel
theorem dX12_line_44 : decode cX12_line 44 = .ok (.aload_n 0, 1) := by decide +kernel
theorem dX12_line_45 : decode cX12_line 45 = .ok (.getfield 37, 3) := by decide +kernel
theorem dX12_line_48 : decode cX12_line 48 = .ok (.iconst 0, 1) := by decide +kernel
theorem dX12_line_49 : decode cX12_line 49 = .ok (.aload_n 0, 1) := by decide +kernel
theorem dX12_line_50 : decode cX12_line 50 = .ok (.getfield 191, 3) := by decide +kernel
theorem dX12_line_53 : decode cX12_line 53 = .ok (.iastore, 1) := by decide +kernel
theorem dX12_line_54 : decode cX12_line 54 = .ok (.iconst 1, 1) := by decide +kernel
theorem dX12_line_55 : decode cX12_line 55 = .ok (.ireturn, 1) := by decide +kernel
theorem dX12_line_56 : decode cX12_line 56 = .ok (.aload_n 0, 1) := by decide +kernel
theorem dX12_line_57 : decode cX12_line 57 = .ok (.ldc2_w 93, 3) := by decide +kernel
theorem dX12_line_60 : decode cX12_line 60 = .ok (.invokevirtual 206, 3) := by decide +kernel
theorem dX12_line_63 : decode cX12_line 63 = .ok (.ifCond .eq 54, 3) := by decide +kernel
theorem dX12_line_66 : decode cX12_line 66 = .ok (.aload_n 0, 1) := by decide +kernel
theorem dX12_line_67 : decode cX12_line 67 = .ok (.getfield 37, 3) := by decide +kernel
theorem dX12_line_70 : decode cX12_line 70 = .ok (.iconst 1, 1) := by decide +kernel
theorem dX12_line_71 : decode cX12_line 71 = .ok (.iaload, 1) := by decide +kernel
theorem dX12_line_72 : decode cX12_line 72 = .ok (.bipush 8, 2) := by decide +kernel
theorem dX12_line_74 : decode cX12_line 74 = .ok (.if_icmp .ne 9, 3) := by decide +kernel
theorem dX12_line_77 : decode cX12_line 77 = .ok (.aload_n 0, 1) := by decide +kernel
theorem dX12_line_78 : decode cX12_line 78 = .ok (.iconst 4, 1) := by decide +kernel
theorem dX12_line_79 : decode cX12_line 79 = .ok (.invokevirtual 181, 3) := by decide +kernel
theorem dX12_line_82 : decode cX12_line 82 = .ok (.ireturn, 1) := by decide +kernel
theorem dX12_line_83 : decode cX12_line 83 = .ok (.aload_n 0, 1) := by decide +kernel
theorem dX12_line_84 : decode cX12_line 84 = .ok (.invokevirtual 184, 3) := by decide +kernel
theorem dX12_line_87 : decode cX12_line 87 = .ok (.aload_n 0, 1) := by decide +kernel
theorem dX12_line_88 : decode cX12_line 88 = .ok (.bipush 26, 2) := by decide +kernel
theorem dX12_line_90 : decode cX12_line 90 = .ok (.aload_n 0, 1) := by decide +kernel
theorem dX12_line_91 : decode cX12_line 91 = .ok (.getfield 37, 3) := by decide +kernel
theorem dX12_line_94 : decode cX12_line 94 = .ok (.iconst 1, 1) := by decide +kernel
theorem dX12_line_95 : decode cX12_line 95 = .ok (.iaload, 1) := by decide +kernel
theorem dX12_line_96 : decode cX12_line 96 = .ok (.iadd, 1) := by decide +kernel
theorem dX12_line_97 : decode cX12_line 97 = .ok (.invokevirtual 217, 3) := by decide +kernel
theorem dX12_line_100 : decode cX12_line 100 = .ok (.ifCond .ne 5, 3) := by decide +kernel
theorem dX12_line_103 : decode cX12_line 103 = .ok (.iconst 0, 1) := by decide +kernel
theorem dX12_line_104 : decode cX12_line 104 = .ok (.ireturn, 1) := by decide +kernel
theorem dX12_line_105 : decode cX12_line 105 = .ok (.aload_n 0, 1) := by decide +kernel
theorem dX12_line_106 : decode cX12_line 106 = .ok (.getfield 37, 3) := by decide +kernel
theorem dX12_line_109 : decode cX12_line 109 = .ok (.iconst 1, 1) := by decide +kernel
theorem dX12_line_110 : decode cX12_line 110 = .ok (.dup2, 1) := by decide +kernel
theorem dX12_line_111 : decode cX12_line 111 = .ok (.iaload, 1) := by decide +kernel
theorem dX12_line_112 : decode cX12_line 112 = .ok (.iconst 1, 1) := by decide +kernel
theorem dX12_line_113 : decode cX12_line 113 = .ok (.iadd, 1) := by decide +kernel
theorem dX12_line_114 : decode cX12_line 114 = .ok (.iastore, 1) := by decide +kernel
theorem dX12_line_115 : decode cX12_line 115 = .ok (.iconst 1, 1) := by decide +kernel
theorem dX12_line_116 : decode cX12_line 116 = .ok (.ireturn, 1) := by decide +kernel
theorem dX12_line_117 : decode cX12_line 117 = .ok (.aload_n 0, 1) := by decide +kernel
theorem dX12_line_118 : decode cX12_line 118 = .ok (.ldc2_w 95, 3) := by decide +kernel
theorem dX12_line_121 : decode cX12_line 121 = .ok (.invokevirtual 206, 3) := by decide +kernel
theorem dX12_line_124 : decode cX12_line 124 = .ok (.ifCond .eq 148, 3) := by decide +kernel
theorem dX12_line_127 : decode cX12_line 127 = .ok (.aload_n 0, 1) := by decide +kernel
theorem dX12_line_128 : decode cX12_line 128 = .ok (.getfield 37, 3) := by decide +kernel
theorem dX12_line_131 : decode cX12_line 131 = .ok (.iconst 2, 1) := by decide +kernel
theorem dX12_line_132 : decode cX12_line 132 = .ok (.iaload, 1) := by decide +kernel
theorem dX12_line_133 : decode cX12_line 133 = .ok (.bipush 12, 2) := by decide +kernel
theorem dX12_line_135 : decode cX12_line 135 = .ok (.if_icmp .ne 9, 3) := by decide +kernel
theorem dX12_line_138 : decode cX12_line 138 = .ok (.aload_n 0, 1) := by decide +kernel
theorem dX12_line_139 : decode cX12_line 139 = .ok (.iconst 4, 1) := by decide +kernel
theorem dX12_line_140 : decode cX12_line 140 = .ok (.invokevirtual 181, 3) := by decide +kernel
theorem dX12_line_143 : decode cX12_line 143 = .ok (.ireturn, 1) := by decide +kernel
theorem dX12_line_144 : decode cX12_line 144 = .ok (.aload_n 0, 1) := by decide +kernel
theorem dX12_line_145 : decode cX12_line 145 = .ok (.invokevirtual 184, 3) := by decide +kernel
theorem dX12_line_148 : decode cX12_line 148 = .ok (.aload_n 0, 1) := by decide +kernel
theorem dX12_line_149 : decode cX12_line 149 = .ok (.bipush 26, 2) := by decide +kernel
theorem dX12_line_151 : decode cX12_line 151 = .ok (.aload_n 0, 1) := by decide +kernel
theorem dX12_line_152 : decode cX12_line 152 = .ok (.getfield 37, 3) := by decide +kernel
theorem dX12_line_155 : decode cX12_line 155 = .ok (.iconst 1, 1) := by decide +kernel
theorem dX12_line_156 : decode cX12_line 156 = .ok (.iaload, 1) := by decide +kernel
theorem dX12_line_157 : decode cX12_line 157 = .ok (.invokevirtual 220, 3) := by decide +kernel
theorem dX12_line_160 : decode cX12_line 160 = .ok (.ifCond .ne 5, 3) := by decide +kernel
theorem dX12_line_163 : decode cX12_line 163 = .ok (.iconst 0, 1) := by decide +kernel
theorem dX12_line_164 : decode cX12_line 164 = .ok (.ireturn, 1) := by decide +kernel
theorem dX12_line_165 : decode cX12_line 165 = .ok (.aload_n 0, 1) := by decide +kernel
theorem dX12_line_166 : decode cX12_line 166 = .ok (.getfield 191, 3) := by decide +kernel
theorem dX12_line_169 : decode cX12_line 169 = .ok (.istore_n 1, 1) := by decide +kernel
theorem dX12_line_170 : decode cX12_line 170 = .ok (.aload_n 0, 1) := by decide +kernel
theorem dX12_line_171 : decode cX12_line 171 = .ok (.bipush 26, 2) := by decide +kernel
theorem dX12_line_173 : decode cX12_line 173 = .ok (.aload_n 0, 1) := by decide +kernel
theorem dX12_line_174 : decode cX12_line 174 = .ok (.getfield 37, 3) := by decide +kernel
theorem dX12_line_177 : decode cX12_line 177 = .ok (.iconst 1, 1) := by decide +kernel
theorem dX12_line_178 : decode cX12_line 178 = .ok (.iaload, 1) := by decide +kernel
theorem dX12_line_179 : decode cX12_line 179 = .ok (.invokevirtual 202, 3) := by decide +kernel
theorem dX12_line_182 : decode cX12_line 182 = .ok (.ifCond .ne 5, 3) := by decide +kernel
theorem dX12_line_185 : decode cX12_line 185 = .ok (.iconst 0, 1) := by decide +kernel
theorem dX12_line_186 : decode cX12_line 186 = .ok (.ireturn, 1) := by decide +kernel
theorem dX12_line_187 : decode cX12_line 187 = .ok (.iload_n 1, 1) := by decide +kernel
theorem dX12_line_188 : decode cX12_line 188 = .ok (.aload_n 0, 1) := by decide +kernel
theorem dX12_line_189 : decode cX12_line 189 = .ok (.getfield 191, 3) := by decide +kernel
theorem dX12_line_192 : decode cX12_line 192 = .ok (.if_icmp .eq 22, 3) := by decide +kernel
theorem dX12_line_195 : decode cX12_line 195 = .ok (.aload_n 0, 1) := by decide +kernel
