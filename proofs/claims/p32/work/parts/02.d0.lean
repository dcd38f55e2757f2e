theorem dX0_init_0 : decode cX0_init 0 = .ok (.aload_n 0, 1) := by decide +kernel
theorem dX0_init_1 : decode cX0_init 1 = .ok (.invokespecial 3, 3) := by decide +kernel
theorem dX0_init_4 : decode cX0_init 4 = .ok (.aload_n 0, 1) := by decide +kernel
theorem dX0_init_5 : decode cX0_init 5 = .ok (.bipush 40, 2) := by decide +kernel
theorem dX0_init_7 : decode cX0_init 7 = .ok (.newarray .int, 2) := by decide +kernel
theorem dX0_init_9 : decode cX0_init 9 = .ok (.putfield 9, 3) := by decide +kernel
theorem dX0_init_12 : decode cX0_init 12 = .ok (.aload_n 0, 1) := by decide +kernel
theorem dX0_init_13 : decode cX0_init 13 = .ok (.bipush 40, 2) := by decide +kernel
theorem dX0_init_15 : decode cX0_init 15 = .ok (.newarray .int, 2) := by decide +kernel
theorem dX0_init_17 : decode cX0_init 17 = .ok (.putfield 15, 3) := by decide +kernel
theorem dX0_init_20 : decode cX0_init 20 = .ok (.aload_n 0, 1) := by decide +kernel
theorem dX0_init_21 : decode cX0_init 21 = .ok (.bipush 40, 2) := by decide +kernel
theorem dX0_init_23 : decode cX0_init 23 = .ok (.newarray .int, 2) := by decide +kernel
theorem dX0_init_25 : decode cX0_init 25 = .ok (.putfield 18, 3) := by decide +kernel
theorem dX0_init_28 : decode cX0_init 28 = .ok (.aload_n 0, 1) := by decide +kernel
theorem dX0_init_29 : decode cX0_init 29 = .ok (.iconst 0, 1) := by decide +kernel
theorem dX0_init_30 : decode cX0_init 30 = .ok (.putfield 21, 3) := by decide +kernel
theorem dX0_init_33 : decode cX0_init 33 = .ok (.aload_n 0, 1) := by decide +kernel
theorem dX0_init_34 : decode cX0_init 34 = .ok (.iconst 0, 1) := by decide +kernel
theorem dX0_init_35 : decode cX0_init 35 = .ok (.putfield 25, 3) := by decide +kernel
theorem dX0_init_38 : decode cX0_init 38 = .ok (.aload_n 0, 1) := by decide +kernel
theorem dX0_init_39 : decode cX0_init 39 = .ok (.iconst 0, 1) := by decide +kernel
theorem dX0_init_40 : decode cX0_init 40 = .ok (.putfield 28, 3) := by decide +kernel
theorem dX0_init_43 : decode cX0_init 43 = .ok (.aload_n 0, 1) := by decide +kernel
theorem dX0_init_44 : decode cX0_init 44 = .ok (.iconst 0, 1) := by decide +kernel
theorem dX0_init_45 : decode cX0_init 45 = .ok (.putfield 31, 3) := by decide +kernel
theorem dX0_init_48 : decode cX0_init 48 = .ok (.aload_n 0, 1) := by decide +kernel
theorem dX0_init_49 : decode cX0_init 49 = .ok (.aload_n 1, 1) := by decide +kernel
theorem dX0_init_50 : decode cX0_init 50 = .ok (.putfield 34, 3) := by decide +kernel
theorem dX0_init_53 : decode cX0_init 53 = .ok (.aload_n 0, 1) := by decide +kernel
theorem dX0_init_54 : decode cX0_init 54 = .ok (.aload_n 2, 1) := by decide +kernel
theorem dX0_init_55 : decode cX0_init 55 = .ok (.putfield 38, 3) := by decide +kernel
theorem dX0_init_58 : decode cX0_init 58 = .ok (.aload_n 0, 1) := by decide +kernel
theorem dX0_init_59 : decode cX0_init 59 = .ok (.aload_n 3, 1) := by decide +kernel
theorem dX0_init_60 : decode cX0_init 60 = .ok (.putfield 42, 3) := by decide +kernel
theorem dX0_init_63 : decode cX0_init 63 = .ok (.return_, 1) := by decide +kernel
theorem dX0_readWhole_0 : decode cX0_readWhole 0 = .ok (.aload_n 0, 1) := by decide +kernel
theorem dX0_readWhole_1 : decode cX0_readWhole 1 = .ok (.getfield 34, 3) := by decide +kernel
theorem dX0_readWhole_4 : decode cX0_readWhole 4 = .ok (.sipush 500, 3) := by decide +kernel
theorem dX0_readWhole_7 : decode cX0_readWhole 7 = .ok (.invokevirtual 46, 3) := by decide +kernel
theorem dX0_readWhole_10 : decode cX0_readWhole 10 = .ok (.aload_n 0, 1) := by decide +kernel
theorem dX0_readWhole_11 : decode cX0_readWhole 11 = .ok (.iconst 0, 1) := by decide +kernel
theorem dX0_readWhole_12 : decode cX0_readWhole 12 = .ok (.putfield 21, 3) := by decide +kernel
theorem dX0_readWhole_15 : decode cX0_readWhole 15 = .ok (.aload_n 0, 1) := by decide +kernel
theorem dX0_readWhole_16 : decode cX0_readWhole 16 = .ok (.getfield 21, 3) := by decide +kernel
theorem dX0_readWhole_19 : decode cX0_readWhole 19 = .ok (.bipush 40, 2) := by decide +kernel
theorem dX0_readWhole_21 : decode cX0_readWhole 21 = .ok (.if_icmp .gt 42, 3) := by decide +kernel
theorem dX0_readWhole_24 : decode cX0_readWhole 24 = .ok (.aload_n 0, 1) := by decide +kernel
theorem dX0_readWhole_25 : decode cX0_readWhole 25 = .ok (.getfield 34, 3) := by decide +kernel
theorem dX0_readWhole_28 : decode cX0_readWhole 28 = .ok (.getfield 52, 3) := by decide +kernel
theorem dX0_readWhole_31 : decode cX0_readWhole 31 = .ok (.ifCond .eq 32, 3) := by decide +kernel
theorem dX0_readWhole_34 : decode cX0_readWhole 34 = .ok (.aload_n 0, 1) := by decide +kernel
theorem dX0_readWhole_35 : decode cX0_readWhole 35 = .ok (.invokevirtual 55, 3) := by decide +kernel
theorem dX0_readWhole_38 : decode cX0_readWhole 38 = .ok (.ifCond .ne 5, 3) := by decide +kernel
theorem dX0_readWhole_41 : decode cX0_readWhole 41 = .ok (.iconst 0, 1) := by decide +kernel
theorem dX0_readWhole_42 : decode cX0_readWhole 42 = .ok (.ireturn, 1) := by decide +kernel
theorem dX0_readWhole_43 : decode cX0_readWhole 43 = .ok (.aload_n 0, 1) := by decide +kernel
theorem dX0_readWhole_44 : decode cX0_readWhole 44 = .ok (.getfield 34, 3) := by decide +kernel
theorem dX0_readWhole_47 : decode cX0_readWhole 47 = .ok (.invokevirtual 59, 3) := by decide +kernel
theorem dX0_readWhole_50 : decode cX0_readWhole 50 = .ok (.aload_n 0, 1) := by decide +kernel
theorem dX0_readWhole_51 : decode cX0_readWhole 51 = .ok (.dup, 1) := by decide +kernel
theorem dX0_readWhole_52 : decode cX0_readWhole 52 = .ok (.getfield 21, 3) := by decide +kernel
theorem dX0_readWhole_55 : decode cX0_readWhole 55 = .ok (.iconst 1, 1) := by decide +kernel
theorem dX0_readWhole_56 : decode cX0_readWhole 56 = .ok (.iadd, 1) := by decide +kernel
theorem dX0_readWhole_57 : decode cX0_readWhole 57 = .ok (.putfield 21, 3) := by decide +kernel
theorem dX0_readWhole_60 : decode cX0_readWhole 60 = .ok (.goto (-45), 3) := by decide +kernel
theorem dX0_readWhole_63 : decode cX0_readWhole 63 = .ok (.iconst 1, 1) := by decide +kernel
theorem dX0_readWhole_64 : decode cX0_readWhole 64 = .ok (.ireturn, 1) := by decide +kernel
theorem dX0_readLine_0 : decode cX0_readLine 0 = .ok (.aload_n 0, 1) := by decide +kernel
theorem dX0_readLine_1 : decode cX0_readLine 1 = .ok (.getfield 34, 3) := by decide +kernel
theorem dX0_readLine_4 : decode cX0_readLine 4 = .ok (.getfield 52, 3) := by decide +kernel
theorem dX0_readLine_7 : decode cX0_readLine 7 = .ok (.bipush 113, 2) := by decide +kernel
theorem dX0_readLine_9 : decode cX0_readLine 9 = .ok (.if_icmp .ne 7, 3) := by decide +kernel
theorem dX0_readLine_12 : decode cX0_readLine 12 = .ok (.iconst 1, 1) := by decide +kernel
theorem dX0_readLine_13 : decode cX0_readLine 13 = .ok (.goto 4, 3) := by decide +kernel
theorem dX0_readLine_16 : decode cX0_readLine 16 = .ok (.iconst 0, 1) := by decide +kernel
theorem dX0_readLine_17 : decode cX0_readLine 17 = .ok (.istore_n 1, 1) := by decide +kernel
theorem dX0_readLine_18 : decode cX0_readLine 18 = .ok (.iload_n 1, 1) := by decide +kernel
theorem dX0_readLine_19 : decode cX0_readLine 19 = .ok (.ifCond .ne 20, 3) := by decide +kernel
theorem dX0_readLine_22 : decode cX0_readLine 22 = .ok (.aload_n 0, 1) := by decide +kernel
theorem dX0_readLine_23 : decode cX0_readLine 23 = .ok (.getfield 34, 3) := by decide +kernel
theorem dX0_readLine_26 : decode cX0_readLine 26 = .ok (.aload_n 0, 1) := by decide +kernel
theorem dX0_readLine_27 : decode cX0_readLine 27 = .ok (.getfield 38, 3) := by decide +kernel
theorem dX0_readLine_30 : decode cX0_readLine 30 = .ok (.iconst 1, 1) := by decide +kernel
theorem dX0_readLine_31 : decode cX0_readLine 31 = .ok (.invokevirtual 62, 3) := by decide +kernel
theorem dX0_readLine_34 : decode cX0_readLine 34 = .ok (.ifCond .ne 5, 3) := by decide +kernel
theorem dX0_readLine_37 : decode cX0_readLine 37 = .ok (.iconst 0, 1) := by decide +kernel
theorem dX0_readLine_38 : decode cX0_readLine 38 = .ok (.ireturn, 1) := by decide +kernel
theorem dX0_readLine_39 : decode cX0_readLine 39 = .ok (.aload_n 0, 1) := by decide +kernel
theorem dX0_readLine_40 : decode cX0_readLine 40 = .ok (.getfield 21, 3) := by decide +kernel
theorem dX0_readLine_43 : decode cX0_readLine 43 = .ok (.bipush 40, 2) := by decide +kernel
theorem dX0_readLine_45 : decode cX0_readLine 45 = .ok (.if_icmp .lt 12, 3) := by decide +kernel
theorem dX0_readLine_48 : decode cX0_readLine 48 = .ok (.aload_n 0, 1) := by decide +kernel
theorem dX0_readLine_49 : decode cX0_readLine 49 = .ok (.getfield 34, 3) := by decide +kernel
theorem dX0_readLine_52 : decode cX0_readLine 52 = .ok (.iconst 4, 1) := by decide +kernel
theorem dX0_readLine_53 : decode cX0_readLine 53 = .ok (.invokevirtual 66, 3) := by decide +kernel
theorem dX0_readLine_56 : decode cX0_readLine 56 = .ok (.ireturn, 1) := by decide +kernel
theorem dX0_readLine_57 : decode cX0_readLine 57 = .ok (.aload_n 0, 1) := by decide +kernel
theorem dX0_readLine_58 : decode cX0_readLine 58 = .ok (.getfield 9, 3) := by decide +kernel
theorem dX0_readLine_61 : decode cX0_readLine 61 = .ok (.aload_n 0, 1) := by decide +kernel
theorem dX0_readLine_62 : decode cX0_readLine 62 = .ok (.getfield 21, 3) := by decide +kernel
theorem dX0_readLine_65 : decode cX0_readLine 65 = .ok (.iload_n 1, 1) := by decide +kernel
theorem dX0_readLine_66 : decode cX0_readLine 66 = .ok (.ifCond .eq 7, 3) := by decide +kernel
theorem dX0_readLine_69 : decode cX0_readLine 69 = .ok (.iconst (-1), 1) := by decide +kernel
theorem dX0_readLine_70 : decode cX0_readLine 70 = .ok (.goto 10, 3) := by decide +kernel
theorem dX0_readLine_73 : decode cX0_readLine 73 = .ok (.aload_n 0, 1) := by decide +kernel
theorem dX0_readLine_74 : decode cX0_readLine 74 = .ok (.getfield 34, 3) := by decide +kernel
theorem dX0_readLine_77 : decode cX0_readLine 77 = .ok (.getfield 70, 3) := by decide +kernel
theorem dX0_readLine_80 : decode cX0_readLine 80 = .ok (.iastore, 1) := by decide +kernel
theorem dX0_readLine_81 : decode cX0_readLine 81 = .ok (.iload_n 1, 1) := by decide +kernel
theorem dX0_readLine_82 : decode cX0_readLine 82 = .ok (.ifCond .eq 13, 3) := by decide +kernel
theorem dX0_readLine_85 : decode cX0_readLine 85 = .ok (.aload_n 0, 1) := by decide +kernel
theorem dX0_readLine_86 : decode cX0_readLine 86 = .ok (.invokevirtual 73, 3) := by decide +kernel
theorem dX0_readLine_89 : decode cX0_readLine 89 = .ok (.ifCond .eq 29, 3) := by decide +kernel
theorem dX0_readLine_92 : decode cX0_readLine 92 = .ok (.goto 10, 3) := by decide +kernel
theorem dX0_readLine_95 : decode cX0_readLine 95 = .ok (.aload_n 0, 1) := by decide +kernel
theorem dX0_readLine_96 : decode cX0_readLine 96 = .ok (.invokevirtual 76, 3) := by decide +kernel
theorem dX0_readLine_99 : decode cX0_readLine 99 = .ok (.ifCond .eq 19, 3) := by decide +kernel
theorem dX0_readLine_102 : decode cX0_readLine 102 = .ok (.aload_n 0, 1) := by decide +kernel
theorem dX0_readLine_103 : decode cX0_readLine 103 = .ok (.getfield 34, 3) := by decide +kernel
theorem dX0_readLine_106 : decode cX0_readLine 106 = .ok (.bipush 59, 2) := by decide +kernel
theorem dX0_readLine_108 : decode cX0_readLine 108 = .ok (.invokevirtual 79, 3) := by decide +kernel
theorem dX0_readLine_111 : decode cX0_readLine 111 = .ok (.ifCond .eq 7, 3) := by decide +kernel
theorem dX0_readLine_114 : decode cX0_readLine 114 = .ok (.iconst 1, 1) := by decide +kernel
theorem dX0_readLine_115 : decode cX0_readLine 115 = .ok (.goto 4, 3) := by decide +kernel
theorem dX0_readLine_118 : decode cX0_readLine 118 = .ok (.iconst 0, 1) := by decide +kernel
theorem dX0_readLine_119 : decode cX0_readLine 119 = .ok (.ireturn, 1) := by decide +kernel
theorem dX0_readHour_0 : decode cX0_readHour 0 = .ok (.aload_n 0, 1) := by decide +kernel
theorem dX0_readHour_1 : decode cX0_readHour 1 = .ok (.getfield 15, 3) := by decide +kernel
theorem dX0_readHour_4 : decode cX0_readHour 4 = .ok (.aload_n 0, 1) := by decide +kernel
theorem dX0_readHour_5 : decode cX0_readHour 5 = .ok (.getfield 21, 3) := by decide +kernel
theorem dX0_readHour_8 : decode cX0_readHour 8 = .ok (.bipush 113, 2) := by decide +kernel
theorem dX0_readHour_10 : decode cX0_readHour 10 = .ok (.iastore, 1) := by decide +kernel
theorem dX0_readHour_11 : decode cX0_readHour 11 = .ok (.aload_n 0, 1) := by decide +kernel
theorem dX0_readHour_12 : decode cX0_readHour 12 = .ok (.getfield 34, 3) := by decide +kernel
theorem dX0_readHour_15 : decode cX0_readHour 15 = .ok (.iconst 1, 1) := by decide +kernel
theorem dX0_readHour_16 : decode cX0_readHour 16 = .ok (.bipush 99, 2) := by decide +kernel
theorem dX0_readHour_18 : decode cX0_readHour 18 = .ok (.invokevirtual 82, 3) := by decide +kernel
theorem dX0_readHour_21 : decode cX0_readHour 21 = .ok (.ifCond .ne 5, 3) := by decide +kernel
theorem dX0_readHour_24 : decode cX0_readHour 24 = .ok (.iconst 0, 1) := by decide +kernel
theorem dX0_readHour_25 : decode cX0_readHour 25 = .ok (.ireturn, 1) := by decide +kernel
theorem dX0_readHour_26 : decode cX0_readHour 26 = .ok (.aload_n 0, 1) := by decide +kernel
theorem dX0_readHour_27 : decode cX0_readHour 27 = .ok (.getfield 18, 3) := by decide +kernel
theorem dX0_readHour_30 : decode cX0_readHour 30 = .ok (.aload_n 0, 1) := by decide +kernel
theorem dX0_readHour_31 : decode cX0_readHour 31 = .ok (.getfield 21, 3) := by decide +kernel
theorem dX0_readHour_34 : decode cX0_readHour 34 = .ok (.aload_n 0, 1) := by decide +kernel
theorem dX0_readHour_35 : decode cX0_readHour 35 = .ok (.getfield 34, 3) := by decide +kernel
theorem dX0_readHour_38 : decode cX0_readHour 38 = .ok (.getfield 86, 3) := by decide +kernel
theorem dX0_readHour_41 : decode cX0_readHour 41 = .ok (.iastore, 1) := by decide +kernel
theorem dX0_readHour_42 : decode cX0_readHour 42 = .ok (.iconst 1, 1) := by decide +kernel
theorem dX0_readHour_43 : decode cX0_readHour 43 = .ok (.ireturn, 1) := by decide +kernel
theorem dX0_readDoing_0 : decode cX0_readDoing 0 = .ok (.aload_n 0, 1) := by decide +kernel
theorem dX0_readDoing_1 : decode cX0_readDoing 1 = .ok (.getfield 34, 3) := by decide +kernel
theorem dX0_readDoing_4 : decode cX0_readDoing 4 = .ok (.invokevirtual 59, 3) := by decide +kernel
theorem dX0_readDoing_7 : decode cX0_readDoing 7 = .ok (.aload_n 0, 1) := by decide +kernel
theorem dX0_readDoing_8 : decode cX0_readDoing 8 = .ok (.getfield 15, 3) := by decide +kernel
theorem dX0_readDoing_11 : decode cX0_readDoing 11 = .ok (.aload_n 0, 1) := by decide +kernel
theorem dX0_readDoing_12 : decode cX0_readDoing 12 = .ok (.getfield 21, 3) := by decide +kernel
theorem dX0_readDoing_15 : decode cX0_readDoing 15 = .ok (.aload_n 0, 1) := by decide +kernel
theorem dX0_readDoing_16 : decode cX0_readDoing 16 = .ok (.getfield 34, 3) := by decide +kernel
theorem dX0_readDoing_19 : decode cX0_readDoing 19 = .ok (.getfield 52, 3) := by decide +kernel
theorem dX0_readDoing_22 : decode cX0_readDoing 22 = .ok (.iastore, 1) := by decide +kernel
theorem dX0_readDoing_23 : decode cX0_readDoing 23 = .ok (.aload_n 0, 1) := by decide +kernel
theorem dX0_readDoing_24 : decode cX0_readDoing 24 = .ok (.getfield 34, 3) := by decide +kernel
theorem dX0_readDoing_27 : decode cX0_readDoing 27 = .ok (.getfield 52, 3) := by decide +kernel
theorem dX0_readDoing_30 : decode cX0_readDoing 30 = .ok (.invokestatic 89, 3) := by decide +kernel
theorem dX0_readDoing_33 : decode cX0_readDoing 33 = .ok (.istore_n 1, 1) := by decide +kernel
theorem dX0_readDoing_34 : decode cX0_readDoing 34 = .ok (.iload_n 1, 1) := by decide +kernel
theorem dX0_readDoing_35 : decode cX0_readDoing 35 = .ok (.iconst (-1), 1) := by decide +kernel
theorem dX0_readDoing_36 : decode cX0_readDoing 36 = .ok (.if_icmp .ne 12, 3) := by decide +kernel
theorem dX0_readDoing_39 : decode cX0_readDoing 39 = .ok (.aload_n 0, 1) := by decide +kernel
theorem dX0_readDoing_40 : decode cX0_readDoing 40 = .ok (.getfield 34, 3) := by decide +kernel
theorem dX0_readDoing_43 : decode cX0_readDoing 43 = .ok (.iconst 1, 1) := by decide +kernel
theorem dX0_readDoing_44 : decode cX0_readDoing 44 = .ok (.invokevirtual 66, 3) := by decide +kernel
theorem dX0_readDoing_47 : decode cX0_readDoing 47 = .ok (.ireturn, 1) := by decide +kernel
theorem dX0_readDoing_48 : decode cX0_readDoing 48 = .ok (.aload_n 0, 1) := by decide +kernel
theorem dX0_readDoing_49 : decode cX0_readDoing 49 = .ok (.getfield 34, 3) := by decide +kernel
theorem dX0_readDoing_52 : decode cX0_readDoing 52 = .ok (.aload_n 0, 1) := by decide +kernel
theorem dX0_readDoing_53 : decode cX0_readDoing 53 = .ok (.getfield 38, 3) := by decide +kernel
theorem dX0_readDoing_56 : decode cX0_readDoing 56 = .ok (.iload_n 1, 1) := by decide +kernel
theorem dX0_readDoing_57 : decode cX0_readDoing 57 = .ok (.invokevirtual 93, 3) := by decide +kernel
theorem dX0_readDoing_60 : decode cX0_readDoing 60 = .ok (.ifCond .ne 5, 3) := by decide +kernel
theorem dX0_readDoing_63 : decode cX0_readDoing 63 = .ok (.iconst 0, 1) := by decide +kernel
theorem dX0_readDoing_64 : decode cX0_readDoing 64 = .ok (.ireturn, 1) := by decide +kernel
theorem dX0_readDoing_65 : decode cX0_readDoing 65 = .ok (.aload_n 0, 1) := by decide +kernel
theorem dX0_readDoing_66 : decode cX0_readDoing 66 = .ok (.getfield 18, 3) := by decide +kernel
theorem dX0_readDoing_69 : decode cX0_readDoing 69 = .ok (.aload_n 0, 1) := by decide +kernel
theorem dX0_readDoing_70 : decode cX0_readDoing 70 = .ok (.getfield 21, 3) := by decide +kernel
theorem dX0_readDoing_73 : decode cX0_readDoing 73 = .ok (.aload_n 0, 1) := by decide +kernel
theorem dX0_readDoing_74 : decode cX0_readDoing 74 = .ok (.getfield 34, 3) := by decide +kernel
theorem dX0_readDoing_77 : decode cX0_readDoing 77 = .ok (.getfield 70, 3) := by decide +kernel
theorem dX0_readDoing_80 : decode cX0_readDoing 80 = .ok (.iastore, 1) := by decide +kernel
theorem dX0_readDoing_81 : decode cX0_readDoing 81 = .ok (.iconst 1, 1) := by decide +kernel
theorem dX0_readDoing_82 : decode cX0_readDoing 82 = .ok (.ireturn, 1) := by decide +kernel
theorem dX0_sortBehind_0 : decode cX0_sortBehind 0 = .ok (.iload_n 0, 1) := by decide +kernel
theorem dX0_sortBehind_1 : decode cX0_sortBehind 1 = .ok (.tableswitch 33 110 112 #[27, 29, 31], 27) := by decide +kernel
theorem dX0_sortBehind_28 : decode cX0_sortBehind 28 = .ok (.iconst 0, 1) := by decide +kernel
theorem dX0_sortBehind_29 : decode cX0_sortBehind 29 = .ok (.ireturn, 1) := by decide +kernel
theorem dX0_sortBehind_30 : decode cX0_sortBehind 30 = .ok (.iconst 2, 1) := by decide +kernel
theorem dX0_sortBehind_31 : decode cX0_sortBehind 31 = .ok (.ireturn, 1) := by decide +kernel
theorem dX0_sortBehind_32 : decode cX0_sortBehind 32 = .ok (.iconst 3, 1) := by decide +kernel
theorem dX0_sortBehind_33 : decode cX0_sortBehind 33 = .ok (.ireturn, 1) := by decide +kernel
theorem dX0_sortBehind_34 : decode cX0_sortBehind 34 = .ok (.iconst (-1), 1) := by decide +kernel
theorem dX0_sortBehind_35 : decode cX0_sortBehind 35 = .ok (.ireturn, 1) := by decide +kernel
theorem dX0_live_0 : decode cX0_live 0 = .ok (.aload_n 0, 1) := by decide +kernel
theorem dX0_live_1 : decode cX0_live 1 = .ok (.iconst 0, 1) := by decide +kernel
theorem dX0_live_2 : decode cX0_live 2 = .ok (.putfield 25, 3) := by decide +kernel
theorem dX0_live_5 : decode cX0_live 5 = .ok (.aload_n 0, 1) := by decide +kernel
theorem dX0_live_6 : decode cX0_live 6 = .ok (.iconst 0, 1) := by decide +kernel
theorem dX0_live_7 : decode cX0_live 7 = .ok (.putfield 28, 3) := by decide +kernel
theorem dX0_live_10 : decode cX0_live 10 = .ok (.iconst 0, 1) := by decide +kernel
theorem dX0_live_11 : decode cX0_live 11 = .ok (.istore_n 1, 1) := by decide +kernel
theorem dX0_live_12 : decode cX0_live 12 = .ok (.iload_n 1, 1) := by decide +kernel
theorem dX0_live_13 : decode cX0_live 13 = .ok (.aload_n 0, 1) := by decide +kernel
theorem dX0_live_14 : decode cX0_live 14 = .ok (.getfield 21, 3) := by decide +kernel
theorem dX0_live_17 : decode cX0_live 17 = .ok (.if_icmp .ge 46, 3) := by decide +kernel
theorem dX0_live_20 : decode cX0_live 20 = .ok (.aload_n 0, 1) := by decide +kernel
theorem dX0_live_21 : decode cX0_live 21 = .ok (.getfield 25, 3) := by decide +kernel
theorem dX0_live_24 : decode cX0_live 24 = .ok (.ifCond .ne 39, 3) := by decide +kernel
theorem dX0_live_27 : decode cX0_live 27 = .ok (.aload_n 0, 1) := by decide +kernel
theorem dX0_live_28 : decode cX0_live 28 = .ok (.aload_n 0, 1) := by decide +kernel
theorem dX0_live_29 : decode cX0_live 29 = .ok (.iload_n 1, 1) := by decide +kernel
theorem dX0_live_30 : decode cX0_live 30 = .ok (.invokevirtual 96, 3) := by decide +kernel
theorem dX0_live_33 : decode cX0_live 33 = .ok (.putfield 25, 3) := by decide +kernel
theorem dX0_live_36 : decode cX0_live 36 = .ok (.aload_n 0, 1) := by decide +kernel
theorem dX0_live_37 : decode cX0_live 37 = .ok (.dup, 1) := by decide +kernel
theorem dX0_live_38 : decode cX0_live 38 = .ok (.getfield 28, 3) := by decide +kernel
theorem dX0_live_41 : decode cX0_live 41 = .ok (.aload_n 0, 1) := by decide +kernel
theorem dX0_live_42 : decode cX0_live 42 = .ok (.getfield 25, 3) := by decide +kernel
theorem dX0_live_45 : decode cX0_live 45 = .ok (.ifCond .ne 7, 3) := by decide +kernel
theorem dX0_live_48 : decode cX0_live 48 = .ok (.iconst 1, 1) := by decide +kernel
theorem dX0_live_49 : decode cX0_live 49 = .ok (.goto 4, 3) := by decide +kernel
theorem dX0_live_52 : decode cX0_live 52 = .ok (.iconst 0, 1) := by decide +kernel
theorem dX0_live_53 : decode cX0_live 53 = .ok (.iadd, 1) := by decide +kernel
theorem dX0_live_54 : decode cX0_live 54 = .ok (.putfield 28, 3) := by decide +kernel
theorem dX0_live_57 : decode cX0_live 57 = .ok (.iinc 1 1, 3) := by decide +kernel
theorem dX0_live_60 : decode cX0_live 60 = .ok (.goto (-48), 3) := by decide +kernel
theorem dX0_live_63 : decode cX0_live 63 = .ok (.aload_n 0, 1) := by decide +kernel
theorem dX0_live_64 : decode cX0_live 64 = .ok (.aload_n 0, 1) := by decide +kernel
theorem dX0_live_65 : decode cX0_live 65 = .ok (.getfield 42, 3) := by decide +kernel
theorem dX0_live_68 : decode cX0_live 68 = .ok (.getfield 99, 3) := by decide +kernel
theorem dX0_live_71 : decode cX0_live 71 = .ok (.iconst 0, 1) := by decide +kernel
theorem dX0_live_72 : decode cX0_live 72 = .ok (.iaload, 1) := by decide +kernel
theorem dX0_live_73 : decode cX0_live 73 = .ok (.putfield 31, 3) := by decide +kernel
theorem dX0_live_76 : decode cX0_live 76 = .ok (.return_, 1) := by decide +kernel
theorem dX0_liveLine_0 : decode cX0_liveLine 0 = .ok (.aload_n 0, 1) := by decide +kernel
theorem dX0_liveLine_1 : decode cX0_liveLine 1 = .ok (.getfield 15, 3) := by decide +kernel
theorem dX0_liveLine_4 : decode cX0_liveLine 4 = .ok (.iload_n 1, 1) := by decide +kernel
theorem dX0_liveLine_5 : decode cX0_liveLine 5 = .ok (.iaload, 1) := by decide +kernel
theorem dX0_liveLine_6 : decode cX0_liveLine 6 = .ok (.tableswitch 86 110 112 #[26, 46, 66], 26) := by decide +kernel
theorem dX0_liveLine_32 : decode cX0_liveLine 32 = .ok (.aload_n 0, 1) := by decide +kernel
theorem dX0_liveLine_33 : decode cX0_liveLine 33 = .ok (.getfield 42, 3) := by decide +kernel
theorem dX0_liveLine_36 : decode cX0_liveLine 36 = .ok (.aload_n 0, 1) := by decide +kernel
theorem dX0_liveLine_37 : decode cX0_liveLine 37 = .ok (.getfield 9, 3) := by decide +kernel
theorem dX0_liveLine_40 : decode cX0_liveLine 40 = .ok (.iload_n 1, 1) := by decide +kernel
theorem dX0_liveLine_41 : decode cX0_liveLine 41 = .ok (.iaload, 1) := by decide +kernel
theorem dX0_liveLine_42 : decode cX0_liveLine 42 = .ok (.aload_n 0, 1) := by decide +kernel
theorem dX0_liveLine_43 : decode cX0_liveLine 43 = .ok (.getfield 18, 3) := by decide +kernel
theorem dX0_liveLine_46 : decode cX0_liveLine 46 = .ok (.iload_n 1, 1) := by decide +kernel
theorem dX0_liveLine_47 : decode cX0_liveLine 47 = .ok (.iaload, 1) := by decide +kernel
theorem dX0_liveLine_48 : decode cX0_liveLine 48 = .ok (.invokevirtual 104, 3) := by decide +kernel
theorem dX0_liveLine_51 : decode cX0_liveLine 51 = .ok (.ireturn, 1) := by decide +kernel
theorem dX0_liveLine_52 : decode cX0_liveLine 52 = .ok (.aload_n 0, 1) := by decide +kernel
theorem dX0_liveLine_53 : decode cX0_liveLine 53 = .ok (.getfield 42, 3) := by decide +kernel
theorem dX0_liveLine_56 : decode cX0_liveLine 56 = .ok (.aload_n 0, 1) := by decide +kernel
theorem dX0_liveLine_57 : decode cX0_liveLine 57 = .ok (.getfield 9, 3) := by decide +kernel
theorem dX0_liveLine_60 : decode cX0_liveLine 60 = .ok (.iload_n 1, 1) := by decide +kernel
theorem dX0_liveLine_61 : decode cX0_liveLine 61 = .ok (.iaload, 1) := by decide +kernel
theorem dX0_liveLine_62 : decode cX0_liveLine 62 = .ok (.aload_n 0, 1) := by decide +kernel
theorem dX0_liveLine_63 : decode cX0_liveLine 63 = .ok (.getfield 18, 3) := by decide +kernel
theorem dX0_liveLine_66 : decode cX0_liveLine 66 = .ok (.iload_n 1, 1) := by decide +kernel
theorem dX0_liveLine_67 : decode cX0_liveLine 67 = .ok (.iaload, 1) := by decide +kernel
theorem dX0_liveLine_68 : decode cX0_liveLine 68 = .ok (.invokevirtual 108, 3) := by decide +kernel
theorem dX0_liveLine_71 : decode cX0_liveLine 71 = .ok (.ireturn, 1) := by decide +kernel
theorem dX0_liveLine_72 : decode cX0_liveLine 72 = .ok (.aload_n 0, 1) := by decide +kernel
theorem dX0_liveLine_73 : decode cX0_liveLine 73 = .ok (.getfield 42, 3) := by decide +kernel
theorem dX0_liveLine_76 : decode cX0_liveLine 76 = .ok (.aload_n 0, 1) := by decide +kernel
theorem dX0_liveLine_77 : decode cX0_liveLine 77 = .ok (.getfield 9, 3) := by decide +kernel
theorem dX0_liveLine_80 : decode cX0_liveLine 80 = .ok (.iload_n 1, 1) := by decide +kernel
theorem dX0_liveLine_81 : decode cX0_liveLine 81 = .ok (.iaload, 1) := by decide +kernel
theorem dX0_liveLine_82 : decode cX0_liveLine 82 = .ok (.aload_n 0, 1) := by decide +kernel
theorem dX0_liveLine_83 : decode cX0_liveLine 83 = .ok (.getfield 18, 3) := by decide +kernel
theorem dX0_liveLine_86 : decode cX0_liveLine 86 = .ok (.iload_n 1, 1) := by decide +kernel
theorem dX0_liveLine_87 : decode cX0_liveLine 87 = .ok (.iaload, 1) := by decide +kernel
theorem dX0_liveLine_88 : decode cX0_liveLine 88 = .ok (.invokevirtual 111, 3) := by decide +kernel
theorem dX0_liveLine_91 : decode cX0_liveLine 91 = .ok (.ireturn, 1) := by decide +kernel
theorem dX0_liveLine_92 : decode cX0_liveLine 92 = .ok (.aload_n 0, 1) := by decide +kernel
theorem dX0_liveLine_93 : decode cX0_liveLine 93 = .ok (.aload_n 0, 1) := by decide +kernel
theorem dX0_liveLine_94 : decode cX0_liveLine 94 = .ok (.getfield 18, 3) := by decide +kernel
theorem dX0_liveLine_97 : decode cX0_liveLine 97 = .ok (.iload_n 1, 1) := by decide +kernel
theorem dX0_liveLine_98 : decode cX0_liveLine 98 = .ok (.iaload, 1) := by decide +kernel
theorem dX0_liveLine_99 : decode cX0_liveLine 99 = .ok (.invokevirtual 114, 3) := by decide +kernel
theorem dX0_liveLine_102 : decode cX0_liveLine 102 = .ok (.ireturn, 1) := by decide +kernel
theorem dX0_liveHours_0 : decode cX0_liveHours 0 = .ok (.aload_n 0, 1) := by decide +kernel
theorem dX0_liveHours_1 : decode cX0_liveHours 1 = .ok (.getfield 42, 3) := by decide +kernel
theorem dX0_liveHours_4 : decode cX0_liveHours 4 = .ok (.invokevirtual 117, 3) := by decide +kernel
theorem dX0_liveHours_7 : decode cX0_liveHours 7 = .ok (.iload_n 1, 1) := by decide +kernel
theorem dX0_liveHours_8 : decode cX0_liveHours 8 = .ok (.if_icmp .ge 5, 3) := by decide +kernel
theorem dX0_liveHours_11 : decode cX0_liveHours 11 = .ok (.iconst 3, 1) := by decide +kernel
theorem dX0_liveHours_12 : decode cX0_liveHours 12 = .ok (.ireturn, 1) := by decide +kernel
theorem dX0_liveHours_13 : decode cX0_liveHours 13 = .ok (.aload_n 0, 1) := by decide +kernel
theorem dX0_liveHours_14 : decode cX0_liveHours 14 = .ok (.getfield 42, 3) := by decide +kernel
theorem dX0_liveHours_17 : decode cX0_liveHours 17 = .ok (.iload_n 1, 1) := by decide +kernel
theorem dX0_liveHours_18 : decode cX0_liveHours 18 = .ok (.invokevirtual 121, 3) := by decide +kernel
theorem dX0_liveHours_21 : decode cX0_liveHours 21 = .ok (.pop, 1) := by decide +kernel
theorem dX0_liveHours_22 : decode cX0_liveHours 22 = .ok (.iconst 0, 1) := by decide +kernel
theorem dX0_liveHours_23 : decode cX0_liveHours 23 = .ok (.ireturn, 1) := by decide +kernel
theorem dX1_init_0 : decode cX1_init 0 = .ok (.aload_n 0, 1) := by decide +kernel
theorem dX1_init_1 : decode cX1_init 1 = .ok (.invokespecial 1, 3) := by decide +kernel
theorem dX1_init_4 : decode cX1_init 4 = .ok (.aload_n 0, 1) := by decide +kernel
theorem dX1_init_5 : decode cX1_init 5 = .ok (.iconst 0, 1) := by decide +kernel
theorem dX1_init_6 : decode cX1_init 6 = .ok (.putfield 7, 3) := by decide +kernel
theorem dX1_init_9 : decode cX1_init 9 = .ok (.aload_n 0, 1) := by decide +kernel
theorem dX1_init_10 : decode cX1_init 10 = .ok (.aload_n 1, 1) := by decide +kernel
theorem dX1_init_11 : decode cX1_init 11 = .ok (.putfield 13, 3) := by decide +kernel
theorem dX1_init_14 : decode cX1_init 14 = .ok (.aload_n 0, 1) := by decide +kernel
theorem dX1_init_15 : decode cX1_init 15 = .ok (.aload_n 2, 1) := by decide +kernel
theorem dX1_init_16 : decode cX1_init 16 = .ok (.putfield 17, 3) := by decide +kernel
theorem dX1_init_19 : decode cX1_init 19 = .ok (.return_, 1) := by decide +kernel
theorem dX1_draw_0 : decode cX1_draw 0 = .ok (.aload_n 0, 1) := by decide +kernel
theorem dX1_draw_1 : decode cX1_draw 1 = .ok (.aload_n 0, 1) := by decide +kernel
theorem dX1_draw_2 : decode cX1_draw 2 = .ok (.getfield 7, 3) := by decide +kernel
theorem dX1_draw_5 : decode cX1_draw 5 = .ok (.ldc 21, 2) := by decide +kernel
theorem dX1_draw_7 : decode cX1_draw 7 = .ok (.imul, 1) := by decide +kernel
theorem dX1_draw_8 : decode cX1_draw 8 = .ok (.sipush 12345, 3) := by decide +kernel
theorem dX1_draw_11 : decode cX1_draw 11 = .ok (.iadd, 1) := by decide +kernel
theorem dX1_draw_12 : decode cX1_draw 12 = .ok (.putfield 7, 3) := by decide +kernel
theorem dX1_draw_15 : decode cX1_draw 15 = .ok (.iload_n 1, 1) := by decide +kernel
theorem dX1_draw_16 : decode cX1_draw 16 = .ok (.ifCond .le 15, 3) := by decide +kernel
theorem dX1_draw_19 : decode cX1_draw 19 = .ok (.aload_n 0, 1) := by decide +kernel
theorem dX1_draw_20 : decode cX1_draw 20 = .ok (.getfield 7, 3) := by decide +kernel
theorem dX1_draw_23 : decode cX1_draw 23 = .ok (.bipush 8, 2) := by decide +kernel
theorem dX1_draw_25 : decode cX1_draw 25 = .ok (.iushr, 1) := by decide +kernel
theorem dX1_draw_26 : decode cX1_draw 26 = .ok (.iload_n 1, 1) := by decide +kernel
theorem dX1_draw_27 : decode cX1_draw 27 = .ok (.irem, 1) := by decide +kernel
theorem dX1_draw_28 : decode cX1_draw 28 = .ok (.goto 4, 3) := by decide +kernel
theorem dX1_draw_31 : decode cX1_draw 31 = .ok (.iconst 0, 1) := by decide +kernel
theorem dX1_draw_32 : decode cX1_draw 32 = .ok (.ireturn, 1) := by decide +kernel
theorem dX1_passDrawn_0 : decode cX1_passDrawn 0 = .ok (.aload_n 0, 1) := by decide +kernel
theorem dX1_passDrawn_1 : decode cX1_passDrawn 1 = .ok (.iload_n 2, 1) := by decide +kernel
theorem dX1_passDrawn_2 : decode cX1_passDrawn 2 = .ok (.putfield 7, 3) := by decide +kernel
theorem dX1_passDrawn_5 : decode cX1_passDrawn 5 = .ok (.iload_n 1, 1) := by decide +kernel
theorem dX1_passDrawn_6 : decode cX1_passDrawn 6 = .ok (.aload_n 0, 1) := by decide +kernel
theorem dX1_passDrawn_7 : decode cX1_passDrawn 7 = .ok (.getfield 17, 3) := by decide +kernel
theorem dX1_passDrawn_10 : decode cX1_passDrawn 10 = .ok (.invokevirtual 22, 3) := by decide +kernel
theorem dX1_passDrawn_13 : decode cX1_passDrawn 13 = .ok (.invokestatic 28, 3) := by decide +kernel
theorem dX1_passDrawn_16 : decode cX1_passDrawn 16 = .ok (.istore_n 3, 1) := by decide +kernel
theorem dX1_passDrawn_17 : decode cX1_passDrawn 17 = .ok (.iconst 0, 1) := by decide +kernel
theorem dX1_passDrawn_18 : decode cX1_passDrawn 18 = .ok (.istore 4, 2) := by decide +kernel
theorem dX1_passDrawn_20 : decode cX1_passDrawn 20 = .ok (.iload 4, 2) := by decide +kernel
theorem dX1_passDrawn_22 : decode cX1_passDrawn 22 = .ok (.iload_n 3, 1) := by decide +kernel
theorem dX1_passDrawn_23 : decode cX1_passDrawn 23 = .ok (.if_icmp .ge 45, 3) := by decide +kernel
theorem dX1_passDrawn_26 : decode cX1_passDrawn 26 = .ok (.iconst 0, 1) := by decide +kernel
theorem dX1_passDrawn_27 : decode cX1_passDrawn 27 = .ok (.istore 5, 2) := by decide +kernel
theorem dX1_passDrawn_29 : decode cX1_passDrawn 29 = .ok (.iload 5, 2) := by decide +kernel
theorem dX1_passDrawn_31 : decode cX1_passDrawn 31 = .ok (.aload_n 0, 1) := by decide +kernel
theorem dX1_passDrawn_32 : decode cX1_passDrawn 32 = .ok (.getfield 13, 3) := by decide +kernel
theorem dX1_passDrawn_35 : decode cX1_passDrawn 35 = .ok (.getfield 34, 3) := by decide +kernel
theorem dX1_passDrawn_38 : decode cX1_passDrawn 38 = .ok (.if_icmp .ge 15, 3) := by decide +kernel
theorem dX1_passDrawn_41 : decode cX1_passDrawn 41 = .ok (.aload_n 0, 1) := by decide +kernel
theorem dX1_passDrawn_42 : decode cX1_passDrawn 42 = .ok (.iload 5, 2) := by decide +kernel
theorem dX1_passDrawn_44 : decode cX1_passDrawn 44 = .ok (.invokevirtual 39, 3) := by decide +kernel
theorem dX1_passDrawn_47 : decode cX1_passDrawn 47 = .ok (.iinc 5 1, 3) := by decide +kernel
theorem dX1_passDrawn_50 : decode cX1_passDrawn 50 = .ok (.goto (-21), 3) := by decide +kernel
theorem dX1_passDrawn_53 : decode cX1_passDrawn 53 = .ok (.aload_n 0, 1) := by decide +kernel
theorem dX1_passDrawn_54 : decode cX1_passDrawn 54 = .ok (.getfield 17, 3) := by decide +kernel
theorem dX1_passDrawn_57 : decode cX1_passDrawn 57 = .ok (.iconst 1, 1) := by decide +kernel
theorem dX1_passDrawn_58 : decode cX1_passDrawn 58 = .ok (.invokevirtual 43, 3) := by decide +kernel
theorem dX1_passDrawn_61 : decode cX1_passDrawn 61 = .ok (.pop, 1) := by decide +kernel
theorem dX1_passDrawn_62 : decode cX1_passDrawn 62 = .ok (.iinc 4 1, 3) := by decide +kernel
theorem dX1_passDrawn_65 : decode cX1_passDrawn 65 = .ok (.goto (-45), 3) := by decide +kernel
theorem dX1_passDrawn_68 : decode cX1_passDrawn 68 = .ok (.iload_n 3, 1) := by decide +kernel
theorem dX1_passDrawn_69 : decode cX1_passDrawn 69 = .ok (.ireturn, 1) := by decide +kernel
theorem dX1_drawFor_0 : decode cX1_drawFor 0 = .ok (.aload_n 0, 1) := by decide +kernel
theorem dX1_drawFor_1 : decode cX1_drawFor 1 = .ok (.iconst 3, 1) := by decide +kernel
theorem dX1_drawFor_2 : decode cX1_drawFor 2 = .ok (.invokevirtual 47, 3) := by decide +kernel
theorem dX1_drawFor_5 : decode cX1_drawFor 5 = .ok (.istore_n 2, 1) := by decide +kernel
theorem dX1_drawFor_6 : decode cX1_drawFor 6 = .ok (.iload_n 2, 1) := by decide +kernel
theorem dX1_drawFor_7 : decode cX1_drawFor 7 = .ok (.ifCond .ne 26, 3) := by decide +kernel
theorem dX1_drawFor_10 : decode cX1_drawFor 10 = .ok (.aload_n 0, 1) := by decide +kernel
theorem dX1_drawFor_11 : decode cX1_drawFor 11 = .ok (.getfield 17, 3) := by decide +kernel
theorem dX1_drawFor_14 : decode cX1_drawFor 14 = .ok (.iload_n 1, 1) := by decide +kernel
theorem dX1_drawFor_15 : decode cX1_drawFor 15 = .ok (.aload_n 0, 1) := by decide +kernel
theorem dX1_drawFor_16 : decode cX1_drawFor 16 = .ok (.aload_n 0, 1) := by decide +kernel
theorem dX1_drawFor_17 : decode cX1_drawFor 17 = .ok (.getfield 13, 3) := by decide +kernel
theorem dX1_drawFor_20 : decode cX1_drawFor 20 = .ok (.getfield 50, 3) := by decide +kernel
theorem dX1_drawFor_23 : decode cX1_drawFor 23 = .ok (.invokevirtual 47, 3) := by decide +kernel
theorem dX1_drawFor_26 : decode cX1_drawFor 26 = .ok (.invokevirtual 53, 3) := by decide +kernel
theorem dX1_drawFor_29 : decode cX1_drawFor 29 = .ok (.pop, 1) := by decide +kernel
theorem dX1_drawFor_30 : decode cX1_drawFor 30 = .ok (.goto 76, 3) := by decide +kernel
theorem dX1_drawFor_33 : decode cX1_drawFor 33 = .ok (.iload_n 2, 1) := by decide +kernel
theorem dX1_drawFor_34 : decode cX1_drawFor 34 = .ok (.iconst 1, 1) := by decide +kernel
theorem dX1_drawFor_35 : decode cX1_drawFor 35 = .ok (.if_icmp .ne 36, 3) := by decide +kernel
theorem dX1_drawFor_38 : decode cX1_drawFor 38 = .ok (.aload_n 0, 1) := by decide +kernel
theorem dX1_drawFor_39 : decode cX1_drawFor 39 = .ok (.getfield 13, 3) := by decide +kernel
theorem dX1_drawFor_42 : decode cX1_drawFor 42 = .ok (.getfield 56, 3) := by decide +kernel
theorem dX1_drawFor_45 : decode cX1_drawFor 45 = .ok (.ifCond .le 26, 3) := by decide +kernel
theorem dX1_drawFor_48 : decode cX1_drawFor 48 = .ok (.aload_n 0, 1) := by decide +kernel
theorem dX1_drawFor_49 : decode cX1_drawFor 49 = .ok (.getfield 17, 3) := by decide +kernel
theorem dX1_drawFor_52 : decode cX1_drawFor 52 = .ok (.iload_n 1, 1) := by decide +kernel
theorem dX1_drawFor_53 : decode cX1_drawFor 53 = .ok (.aload_n 0, 1) := by decide +kernel
theorem dX1_drawFor_54 : decode cX1_drawFor 54 = .ok (.aload_n 0, 1) := by decide +kernel
theorem dX1_drawFor_55 : decode cX1_drawFor 55 = .ok (.getfield 13, 3) := by decide +kernel
theorem dX1_drawFor_58 : decode cX1_drawFor 58 = .ok (.getfield 56, 3) := by decide +kernel
theorem dX1_drawFor_61 : decode cX1_drawFor 61 = .ok (.invokevirtual 47, 3) := by decide +kernel
theorem dX1_drawFor_64 : decode cX1_drawFor 64 = .ok (.invokevirtual 59, 3) := by decide +kernel
theorem dX1_drawFor_67 : decode cX1_drawFor 67 = .ok (.pop, 1) := by decide +kernel
theorem dX1_drawFor_68 : decode cX1_drawFor 68 = .ok (.goto 38, 3) := by decide +kernel
theorem dX1_drawFor_71 : decode cX1_drawFor 71 = .ok (.iload_n 2, 1) := by decide +kernel
theorem dX1_drawFor_72 : decode cX1_drawFor 72 = .ok (.iconst 2, 1) := by decide +kernel
theorem dX1_drawFor_73 : decode cX1_drawFor 73 = .ok (.if_icmp .ne 33, 3) := by decide +kernel
theorem dX1_drawFor_76 : decode cX1_drawFor 76 = .ok (.aload_n 0, 1) := by decide +kernel
theorem dX1_drawFor_77 : decode cX1_drawFor 77 = .ok (.getfield 13, 3) := by decide +kernel
theorem dX1_drawFor_80 : decode cX1_drawFor 80 = .ok (.getfield 62, 3) := by decide +kernel
theorem dX1_drawFor_83 : decode cX1_drawFor 83 = .ok (.ifCond .le 23, 3) := by decide +kernel
theorem dX1_drawFor_86 : decode cX1_drawFor 86 = .ok (.aload_n 0, 1) := by decide +kernel
theorem dX1_drawFor_87 : decode cX1_drawFor 87 = .ok (.getfield 17, 3) := by decide +kernel
theorem dX1_drawFor_90 : decode cX1_drawFor 90 = .ok (.iload_n 1, 1) := by decide +kernel
theorem dX1_drawFor_91 : decode cX1_drawFor 91 = .ok (.aload_n 0, 1) := by decide +kernel
theorem dX1_drawFor_92 : decode cX1_drawFor 92 = .ok (.aload_n 0, 1) := by decide +kernel
theorem dX1_drawFor_93 : decode cX1_drawFor 93 = .ok (.getfield 13, 3) := by decide +kernel
theorem dX1_drawFor_96 : decode cX1_drawFor 96 = .ok (.getfield 62, 3) := by decide +kernel
theorem dX1_drawFor_99 : decode cX1_drawFor 99 = .ok (.invokevirtual 47, 3) := by decide +kernel
theorem dX1_drawFor_102 : decode cX1_drawFor 102 = .ok (.invokevirtual 65, 3) := by decide +kernel
theorem dX1_drawFor_105 : decode cX1_drawFor 105 = .ok (.pop, 1) := by decide +kernel
theorem dX1_drawFor_106 : decode cX1_drawFor 106 = .ok (.return_, 1) := by decide +kernel
theorem dX2_init_0 : decode cX2_init 0 = .ok (.aload_n 0, 1) := by decide +kernel
theorem dX2_init_1 : decode cX2_init 1 = .ok (.invokespecial 3, 3) := by decide +kernel
theorem dX2_init_4 : decode cX2_init 4 = .ok (.aload_n 0, 1) := by decide +kernel
theorem dX2_init_5 : decode cX2_init 5 = .ok (.bipush 24, 2) := by decide +kernel
theorem dX2_init_7 : decode cX2_init 7 = .ok (.putfield 9, 3) := by decide +kernel
theorem dX2_init_10 : decode cX2_init 10 = .ok (.aload_n 0, 1) := by decide +kernel
theorem dX2_init_11 : decode cX2_init 11 = .ok (.iconst 0, 1) := by decide +kernel
theorem dX2_init_12 : decode cX2_init 12 = .ok (.putfield 15, 3) := by decide +kernel
theorem dX2_init_15 : decode cX2_init 15 = .ok (.aload_n 0, 1) := by decide +kernel
theorem dX2_init_16 : decode cX2_init 16 = .ok (.iconst 0, 1) := by decide +kernel
theorem dX2_init_17 : decode cX2_init 17 = .ok (.putfield 18, 3) := by decide +kernel
theorem dX2_init_20 : decode cX2_init 20 = .ok (.aload_n 0, 1) := by decide +kernel
theorem dX2_init_21 : decode cX2_init 21 = .ok (.iconst 0, 1) := by decide +kernel
theorem dX2_init_22 : decode cX2_init 22 = .ok (.putfield 21, 3) := by decide +kernel
theorem dX2_init_25 : decode cX2_init 25 = .ok (.aload_n 0, 1) := by decide +kernel
theorem dX2_init_26 : decode cX2_init 26 = .ok (.iconst 0, 1) := by decide +kernel
theorem dX2_init_27 : decode cX2_init 27 = .ok (.putfield 24, 3) := by decide +kernel
theorem dX2_init_30 : decode cX2_init 30 = .ok (.aload_n 0, 1) := by decide +kernel
theorem dX2_init_31 : decode cX2_init 31 = .ok (.iconst 0, 1) := by decide +kernel
theorem dX2_init_32 : decode cX2_init 32 = .ok (.putfield 27, 3) := by decide +kernel
theorem dX2_init_35 : decode cX2_init 35 = .ok (.aload_n 0, 1) := by decide +kernel
theorem dX2_init_36 : decode cX2_init 36 = .ok (.iconst 0, 1) := by decide +kernel
theorem dX2_init_37 : decode cX2_init 37 = .ok (.putfield 30, 3) := by decide +kernel
theorem dX2_init_40 : decode cX2_init 40 = .ok (.aload_n 0, 1) := by decide +kernel
theorem dX2_init_41 : decode cX2_init 41 = .ok (.iconst 0, 1) := by decide +kernel
theorem dX2_init_42 : decode cX2_init 42 = .ok (.putfield 33, 3) := by decide +kernel
theorem dX2_init_45 : decode cX2_init 45 = .ok (.aload_n 0, 1) := by decide +kernel
theorem dX2_init_46 : decode cX2_init 46 = .ok (.iconst 0, 1) := by decide +kernel
theorem dX2_init_47 : decode cX2_init 47 = .ok (.putfield 36, 3) := by decide +kernel
theorem dX2_init_50 : decode cX2_init 50 = .ok (.aload_n 0, 1) := by decide +kernel
theorem dX2_init_51 : decode cX2_init 51 = .ok (.bipush 8, 2) := by decide +kernel
theorem dX2_init_53 : decode cX2_init 53 = .ok (.newarray .int, 2) := by decide +kernel
theorem dX2_init_55 : decode cX2_init 55 = .ok (.putfield 39, 3) := by decide +kernel
theorem dX2_init_58 : decode cX2_init 58 = .ok (.aload_n 0, 1) := by decide +kernel
theorem dX2_init_59 : decode cX2_init 59 = .ok (.bipush 6, 2) := by decide +kernel
theorem dX2_init_61 : decode cX2_init 61 = .ok (.newarray .int, 2) := by decide +kernel
theorem dX2_init_63 : decode cX2_init 63 = .ok (.putfield 43, 3) := by decide +kernel
theorem dX2_init_66 : decode cX2_init 66 = .ok (.aload_n 0, 1) := by decide +kernel
theorem dX2_init_67 : decode cX2_init 67 = .ok (.iconst 4, 1) := by decide +kernel
theorem dX2_init_68 : decode cX2_init 68 = .ok (.newarray .int, 2) := by decide +kernel
theorem dX2_init_70 : decode cX2_init 70 = .ok (.putfield 46, 3) := by decide +kernel
theorem dX2_init_73 : decode cX2_init 73 = .ok (.aload_n 0, 1) := by decide +kernel
theorem dX2_init_74 : decode cX2_init 74 = .ok (.bipush 64, 2) := by decide +kernel
theorem dX2_init_76 : decode cX2_init 76 = .ok (.newarray .int, 2) := by decide +kernel
theorem dX2_init_78 : decode cX2_init 78 = .ok (.putfield 49, 3) := by decide +kernel
theorem dX2_init_81 : decode cX2_init 81 = .ok (.aload_n 0, 1) := by decide +kernel
theorem dX2_init_82 : decode cX2_init 82 = .ok (.bipush 8, 2) := by decide +kernel
theorem dX2_init_84 : decode cX2_init 84 = .ok (.newarray .int, 2) := by decide +kernel
theorem dX2_init_86 : decode cX2_init 86 = .ok (.putfield 52, 3) := by decide +kernel
theorem dX2_init_89 : decode cX2_init 89 = .ok (.aload_n 0, 1) := by decide +kernel
theorem dX2_init_90 : decode cX2_init 90 = .ok (.bipush 26, 2) := by decide +kernel
theorem dX2_init_92 : decode cX2_init 92 = .ok (.newarray .long, 2) := by decide +kernel
theorem dX2_init_94 : decode cX2_init 94 = .ok (.putfield 55, 3) := by decide +kernel
theorem dX2_init_97 : decode cX2_init 97 = .ok (.aload_n 0, 1) := by decide +kernel
theorem dX2_init_98 : decode cX2_init 98 = .ok (.bipush 26, 2) := by decide +kernel
theorem dX2_init_100 : decode cX2_init 100 = .ok (.newarray .int, 2) := by decide +kernel
theorem dX2_init_102 : decode cX2_init 102 = .ok (.putfield 59, 3) := by decide +kernel
theorem dX2_init_105 : decode cX2_init 105 = .ok (.aload_n 0, 1) := by decide +kernel
theorem dX2_init_106 : decode cX2_init 106 = .ok (.bipush 26, 2) := by decide +kernel
theorem dX2_init_108 : decode cX2_init 108 = .ok (.newarray .int, 2) := by decide +kernel
theorem dX2_init_110 : decode cX2_init 110 = .ok (.putfield 62, 3) := by decide +kernel
theorem dX2_init_113 : decode cX2_init 113 = .ok (.return_, 1) := by decide +kernel
theorem dX2_clear_0 : decode cX2_clear 0 = .ok (.aload_n 0, 1) := by decide +kernel
theorem dX2_clear_1 : decode cX2_clear 1 = .ok (.bipush 24, 2) := by decide +kernel
theorem dX2_clear_3 : decode cX2_clear 3 = .ok (.putfield 9, 3) := by decide +kernel
theorem dX2_clear_6 : decode cX2_clear 6 = .ok (.aload_n 0, 1) := by decide +kernel
theorem dX2_clear_7 : decode cX2_clear 7 = .ok (.iconst 0, 1) := by decide +kernel
theorem dX2_clear_8 : decode cX2_clear 8 = .ok (.putfield 15, 3) := by decide +kernel
theorem dX2_clear_11 : decode cX2_clear 11 = .ok (.aload_n 0, 1) := by decide +kernel
theorem dX2_clear_12 : decode cX2_clear 12 = .ok (.iconst 0, 1) := by decide +kernel
theorem dX2_clear_13 : decode cX2_clear 13 = .ok (.putfield 18, 3) := by decide +kernel
theorem dX2_clear_16 : decode cX2_clear 16 = .ok (.aload_n 0, 1) := by decide +kernel
theorem dX2_clear_17 : decode cX2_clear 17 = .ok (.iconst 0, 1) := by decide +kernel
theorem dX2_clear_18 : decode cX2_clear 18 = .ok (.putfield 21, 3) := by decide +kernel
theorem dX2_clear_21 : decode cX2_clear 21 = .ok (.aload_n 0, 1) := by decide +kernel
theorem dX2_clear_22 : decode cX2_clear 22 = .ok (.iconst 0, 1) := by decide +kernel
theorem dX2_clear_23 : decode cX2_clear 23 = .ok (.putfield 24, 3) := by decide +kernel
theorem dX2_clear_26 : decode cX2_clear 26 = .ok (.aload_n 0, 1) := by decide +kernel
theorem dX2_clear_27 : decode cX2_clear 27 = .ok (.iconst 0, 1) := by decide +kernel
theorem dX2_clear_28 : decode cX2_clear 28 = .ok (.putfield 27, 3) := by decide +kernel
theorem dX2_clear_31 : decode cX2_clear 31 = .ok (.aload_n 0, 1) := by decide +kernel
theorem dX2_clear_32 : decode cX2_clear 32 = .ok (.iconst 0, 1) := by decide +kernel
theorem dX2_clear_33 : decode cX2_clear 33 = .ok (.putfield 30, 3) := by decide +kernel
theorem dX2_clear_36 : decode cX2_clear 36 = .ok (.aload_n 0, 1) := by decide +kernel
theorem dX2_clear_37 : decode cX2_clear 37 = .ok (.iconst 0, 1) := by decide +kernel
theorem dX2_clear_38 : decode cX2_clear 38 = .ok (.putfield 33, 3) := by decide +kernel
theorem dX2_clear_41 : decode cX2_clear 41 = .ok (.aload_n 0, 1) := by decide +kernel
theorem dX2_clear_42 : decode cX2_clear 42 = .ok (.iconst 0, 1) := by decide +kernel
theorem dX2_clear_43 : decode cX2_clear 43 = .ok (.putfield 36, 3) := by decide +kernel
theorem dX2_clear_46 : decode cX2_clear 46 = .ok (.aload_n 0, 1) := by decide +kernel
theorem dX2_clear_47 : decode cX2_clear 47 = .ok (.getfield 39, 3) := by decide +kernel
theorem dX2_clear_50 : decode cX2_clear 50 = .ok (.iconst 0, 1) := by decide +kernel
theorem dX2_clear_51 : decode cX2_clear 51 = .ok (.invokestatic 65, 3) := by decide +kernel
theorem dX2_clear_54 : decode cX2_clear 54 = .ok (.aload_n 0, 1) := by decide +kernel
theorem dX2_clear_55 : decode cX2_clear 55 = .ok (.getfield 52, 3) := by decide +kernel
theorem dX2_clear_58 : decode cX2_clear 58 = .ok (.iconst 0, 1) := by decide +kernel
theorem dX2_clear_59 : decode cX2_clear 59 = .ok (.invokestatic 65, 3) := by decide +kernel
theorem dX2_clear_62 : decode cX2_clear 62 = .ok (.return_, 1) := by decide +kernel
theorem dX2_copyFrom_0 : decode cX2_copyFrom 0 = .ok (.aload_n 0, 1) := by decide +kernel
theorem dX2_copyFrom_1 : decode cX2_copyFrom 1 = .ok (.aload_n 1, 1) := by decide +kernel
theorem dX2_copyFrom_2 : decode cX2_copyFrom 2 = .ok (.getfield 9, 3) := by decide +kernel
theorem dX2_copyFrom_5 : decode cX2_copyFrom 5 = .ok (.putfield 9, 3) := by decide +kernel
theorem dX2_copyFrom_8 : decode cX2_copyFrom 8 = .ok (.aload_n 0, 1) := by decide +kernel
theorem dX2_copyFrom_9 : decode cX2_copyFrom 9 = .ok (.aload_n 1, 1) := by decide +kernel
theorem dX2_copyFrom_10 : decode cX2_copyFrom 10 = .ok (.getfield 15, 3) := by decide +kernel
theorem dX2_copyFrom_13 : decode cX2_copyFrom 13 = .ok (.putfield 15, 3) := by decide +kernel
theorem dX2_copyFrom_16 : decode cX2_copyFrom 16 = .ok (.aload_n 0, 1) := by decide +kernel
theorem dX2_copyFrom_17 : decode cX2_copyFrom 17 = .ok (.aload_n 1, 1) := by decide +kernel
theorem dX2_copyFrom_18 : decode cX2_copyFrom 18 = .ok (.getfield 18, 3) := by decide +kernel
theorem dX2_copyFrom_21 : decode cX2_copyFrom 21 = .ok (.putfield 18, 3) := by decide +kernel
theorem dX2_copyFrom_24 : decode cX2_copyFrom 24 = .ok (.aload_n 0, 1) := by decide +kernel
theorem dX2_copyFrom_25 : decode cX2_copyFrom 25 = .ok (.aload_n 1, 1) := by decide +kernel
theorem dX2_copyFrom_26 : decode cX2_copyFrom 26 = .ok (.getfield 21, 3) := by decide +kernel
theorem dX2_copyFrom_29 : decode cX2_copyFrom 29 = .ok (.putfield 21, 3) := by decide +kernel
theorem dX2_copyFrom_32 : decode cX2_copyFrom 32 = .ok (.aload_n 0, 1) := by decide +kernel
theorem dX2_copyFrom_33 : decode cX2_copyFrom 33 = .ok (.aload_n 1, 1) := by decide +kernel
theorem dX2_copyFrom_34 : decode cX2_copyFrom 34 = .ok (.getfield 24, 3) := by decide +kernel
theorem dX2_copyFrom_37 : decode cX2_copyFrom 37 = .ok (.putfield 24, 3) := by decide +kernel
theorem dX2_copyFrom_40 : decode cX2_copyFrom 40 = .ok (.aload_n 0, 1) := by decide +kernel
theorem dX2_copyFrom_41 : decode cX2_copyFrom 41 = .ok (.aload_n 1, 1) := by decide +kernel
theorem dX2_copyFrom_42 : decode cX2_copyFrom 42 = .ok (.getfield 27, 3) := by decide +kernel
theorem dX2_copyFrom_45 : decode cX2_copyFrom 45 = .ok (.putfield 27, 3) := by decide +kernel
theorem dX2_copyFrom_48 : decode cX2_copyFrom 48 = .ok (.aload_n 0, 1) := by decide +kernel
theorem dX2_copyFrom_49 : decode cX2_copyFrom 49 = .ok (.aload_n 1, 1) := by decide +kernel
theorem dX2_copyFrom_50 : decode cX2_copyFrom 50 = .ok (.getfield 30, 3) := by decide +kernel
theorem dX2_copyFrom_53 : decode cX2_copyFrom 53 = .ok (.putfield 30, 3) := by decide +kernel
theorem dX2_copyFrom_56 : decode cX2_copyFrom 56 = .ok (.aload_n 0, 1) := by decide +kernel
theorem dX2_copyFrom_57 : decode cX2_copyFrom 57 = .ok (.aload_n 1, 1) := by decide +kernel
theorem dX2_copyFrom_58 : decode cX2_copyFrom 58 = .ok (.getfield 33, 3) := by decide +kernel
theorem dX2_copyFrom_61 : decode cX2_copyFrom 61 = .ok (.putfield 33, 3) := by decide +kernel
theorem dX2_copyFrom_64 : decode cX2_copyFrom 64 = .ok (.aload_n 0, 1) := by decide +kernel
theorem dX2_copyFrom_65 : decode cX2_copyFrom 65 = .ok (.aload_n 1, 1) := by decide +kernel
theorem dX2_copyFrom_66 : decode cX2_copyFrom 66 = .ok (.getfield 36, 3) := by decide +kernel
theorem dX2_copyFrom_69 : decode cX2_copyFrom 69 = .ok (.putfield 36, 3) := by decide +kernel
theorem dX2_copyFrom_72 : decode cX2_copyFrom 72 = .ok (.aload_n 1, 1) := by decide +kernel
theorem dX2_copyFrom_73 : decode cX2_copyFrom 73 = .ok (.getfield 39, 3) := by decide +kernel
theorem dX2_copyFrom_76 : decode cX2_copyFrom 76 = .ok (.iconst 0, 1) := by decide +kernel
theorem dX2_copyFrom_77 : decode cX2_copyFrom 77 = .ok (.aload_n 0, 1) := by decide +kernel
theorem dX2_copyFrom_78 : decode cX2_copyFrom 78 = .ok (.getfield 39, 3) := by decide +kernel
theorem dX2_copyFrom_81 : decode cX2_copyFrom 81 = .ok (.iconst 0, 1) := by decide +kernel
theorem dX2_copyFrom_82 : decode cX2_copyFrom 82 = .ok (.bipush 8, 2) := by decide +kernel
theorem dX2_copyFrom_84 : decode cX2_copyFrom 84 = .ok (.invokestatic 71, 3) := by decide +kernel
theorem dX2_copyFrom_87 : decode cX2_copyFrom 87 = .ok (.aload_n 1, 1) := by decide +kernel
theorem dX2_copyFrom_88 : decode cX2_copyFrom 88 = .ok (.getfield 43, 3) := by decide +kernel
theorem dX2_copyFrom_91 : decode cX2_copyFrom 91 = .ok (.iconst 0, 1) := by decide +kernel
theorem dX2_copyFrom_92 : decode cX2_copyFrom 92 = .ok (.aload_n 0, 1) := by decide +kernel
theorem dX2_copyFrom_93 : decode cX2_copyFrom 93 = .ok (.getfield 43, 3) := by decide +kernel
theorem dX2_copyFrom_96 : decode cX2_copyFrom 96 = .ok (.iconst 0, 1) := by decide +kernel
theorem dX2_copyFrom_97 : decode cX2_copyFrom 97 = .ok (.bipush 6, 2) := by decide +kernel
theorem dX2_copyFrom_99 : decode cX2_copyFrom 99 = .ok (.invokestatic 71, 3) := by decide +kernel
theorem dX2_copyFrom_102 : decode cX2_copyFrom 102 = .ok (.aload_n 1, 1) := by decide +kernel
theorem dX2_copyFrom_103 : decode cX2_copyFrom 103 = .ok (.getfield 46, 3) := by decide +kernel
theorem dX2_copyFrom_106 : decode cX2_copyFrom 106 = .ok (.iconst 0, 1) := by decide +kernel
theorem dX2_copyFrom_107 : decode cX2_copyFrom 107 = .ok (.aload_n 0, 1) := by decide +kernel
theorem dX2_copyFrom_108 : decode cX2_copyFrom 108 = .ok (.getfield 46, 3) := by decide +kernel
theorem dX2_copyFrom_111 : decode cX2_copyFrom 111 = .ok (.iconst 0, 1) := by decide +kernel
theorem dX2_copyFrom_112 : decode cX2_copyFrom 112 = .ok (.iconst 4, 1) := by decide +kernel
theorem dX2_copyFrom_113 : decode cX2_copyFrom 113 = .ok (.invokestatic 71, 3) := by decide +kernel
theorem dX2_copyFrom_116 : decode cX2_copyFrom 116 = .ok (.aload_n 1, 1) := by decide +kernel
theorem dX2_copyFrom_117 : decode cX2_copyFrom 117 = .ok (.getfield 49, 3) := by decide +kernel
theorem dX2_copyFrom_120 : decode cX2_copyFrom 120 = .ok (.iconst 0, 1) := by decide +kernel
theorem dX2_copyFrom_121 : decode cX2_copyFrom 121 = .ok (.aload_n 0, 1) := by decide +kernel
theorem dX2_copyFrom_122 : decode cX2_copyFrom 122 = .ok (.getfield 49, 3) := by decide +kernel
theorem dX2_copyFrom_125 : decode cX2_copyFrom 125 = .ok (.iconst 0, 1) := by decide +kernel
theorem dX2_copyFrom_126 : decode cX2_copyFrom 126 = .ok (.bipush 64, 2) := by decide +kernel
theorem dX2_copyFrom_128 : decode cX2_copyFrom 128 = .ok (.invokestatic 71, 3) := by decide +kernel
theorem dX2_copyFrom_131 : decode cX2_copyFrom 131 = .ok (.aload_n 1, 1) := by decide +kernel
theorem dX2_copyFrom_132 : decode cX2_copyFrom 132 = .ok (.getfield 52, 3) := by decide +kernel
theorem dX2_copyFrom_135 : decode cX2_copyFrom 135 = .ok (.iconst 0, 1) := by decide +kernel
theorem dX2_copyFrom_136 : decode cX2_copyFrom 136 = .ok (.aload_n 0, 1) := by decide +kernel
theorem dX2_copyFrom_137 : decode cX2_copyFrom 137 = .ok (.getfield 52, 3) := by decide +kernel
theorem dX2_copyFrom_140 : decode cX2_copyFrom 140 = .ok (.iconst 0, 1) := by decide +kernel
theorem dX2_copyFrom_141 : decode cX2_copyFrom 141 = .ok (.bipush 8, 2) := by decide +kernel
theorem dX2_copyFrom_143 : decode cX2_copyFrom 143 = .ok (.invokestatic 71, 3) := by decide +kernel
theorem dX2_copyFrom_146 : decode cX2_copyFrom 146 = .ok (.aload_n 1, 1) := by decide +kernel
theorem dX2_copyFrom_147 : decode cX2_copyFrom 147 = .ok (.getfield 55, 3) := by decide +kernel
theorem dX2_copyFrom_150 : decode cX2_copyFrom 150 = .ok (.iconst 0, 1) := by decide +kernel
theorem dX2_copyFrom_151 : decode cX2_copyFrom 151 = .ok (.aload_n 0, 1) := by decide +kernel
theorem dX2_copyFrom_152 : decode cX2_copyFrom 152 = .ok (.getfield 55, 3) := by decide +kernel
theorem dX2_copyFrom_155 : decode cX2_copyFrom 155 = .ok (.iconst 0, 1) := by decide +kernel
theorem dX2_copyFrom_156 : decode cX2_copyFrom 156 = .ok (.bipush 26, 2) := by decide +kernel
theorem dX2_copyFrom_158 : decode cX2_copyFrom 158 = .ok (.invokestatic 71, 3) := by decide +kernel
theorem dX2_copyFrom_161 : decode cX2_copyFrom 161 = .ok (.aload_n 1, 1) := by decide +kernel
theorem dX2_copyFrom_162 : decode cX2_copyFrom 162 = .ok (.getfield 59, 3) := by decide +kernel
theorem dX2_copyFrom_165 : decode cX2_copyFrom 165 = .ok (.iconst 0, 1) := by decide +kernel
theorem dX2_copyFrom_166 : decode cX2_copyFrom 166 = .ok (.aload_n 0, 1) := by decide +kernel
theorem dX2_copyFrom_167 : decode cX2_copyFrom 167 = .ok (.getfield 59, 3) := by decide +kernel
theorem dX2_copyFrom_170 : decode cX2_copyFrom 170 = .ok (.iconst 0, 1) := by decide +kernel
theorem dX2_copyFrom_171 : decode cX2_copyFrom 171 = .ok (.bipush 26, 2) := by decide +kernel
theorem dX2_copyFrom_173 : decode cX2_copyFrom 173 = .ok (.invokestatic 71, 3) := by decide +kernel
theorem dX2_copyFrom_176 : decode cX2_copyFrom 176 = .ok (.aload_n 1, 1) := by decide +kernel
theorem dX2_copyFrom_177 : decode cX2_copyFrom 177 = .ok (.getfield 62, 3) := by decide +kernel
theorem dX2_copyFrom_180 : decode cX2_copyFrom 180 = .ok (.iconst 0, 1) := by decide +kernel
theorem dX2_copyFrom_181 : decode cX2_copyFrom 181 = .ok (.aload_n 0, 1) := by decide +kernel
theorem dX2_copyFrom_182 : decode cX2_copyFrom 182 = .ok (.getfield 62, 3) := by decide +kernel
theorem dX2_copyFrom_185 : decode cX2_copyFrom 185 = .ok (.iconst 0, 1) := by decide +kernel
theorem dX2_copyFrom_186 : decode cX2_copyFrom 186 = .ok (.bipush 26, 2) := by decide +kernel
theorem dX2_copyFrom_188 : decode cX2_copyFrom 188 = .ok (.invokestatic 71, 3) := by decide +kernel
theorem dX2_copyFrom_191 : decode cX2_copyFrom 191 = .ok (.return_, 1) := by decide +kernel
theorem dX2_isPlace_0 : decode cX2_isPlace 0 = .ok (.iload_n 1, 1) := by decide +kernel
theorem dX2_isPlace_1 : decode cX2_isPlace 1 = .ok (.ifCond .lt 15, 3) := by decide +kernel
theorem dX2_isPlace_4 : decode cX2_isPlace 4 = .ok (.iload_n 1, 1) := by decide +kernel
theorem dX2_isPlace_5 : decode cX2_isPlace 5 = .ok (.aload_n 0, 1) := by decide +kernel
theorem dX2_isPlace_6 : decode cX2_isPlace 6 = .ok (.getfield 15, 3) := by decide +kernel
theorem dX2_isPlace_9 : decode cX2_isPlace 9 = .ok (.if_icmp .ge 7, 3) := by decide +kernel
theorem dX2_isPlace_12 : decode cX2_isPlace 12 = .ok (.iconst 1, 1) := by decide +kernel
theorem dX2_isPlace_13 : decode cX2_isPlace 13 = .ok (.goto 4, 3) := by decide +kernel
theorem dX2_isPlace_16 : decode cX2_isPlace 16 = .ok (.iconst 0, 1) := by decide +kernel
theorem dX2_isPlace_17 : decode cX2_isPlace 17 = .ok (.ireturn, 1) := by decide +kernel
theorem dX2_isFrog_0 : decode cX2_isFrog 0 = .ok (.iload_n 1, 1) := by decide +kernel
theorem dX2_isFrog_1 : decode cX2_isFrog 1 = .ok (.ifCond .lt 15, 3) := by decide +kernel
theorem dX2_isFrog_4 : decode cX2_isFrog 4 = .ok (.iload_n 1, 1) := by decide +kernel
theorem dX2_isFrog_5 : decode cX2_isFrog 5 = .ok (.aload_n 0, 1) := by decide +kernel
theorem dX2_isFrog_6 : decode cX2_isFrog 6 = .ok (.getfield 21, 3) := by decide +kernel
theorem dX2_isFrog_9 : decode cX2_isFrog 9 = .ok (.if_icmp .ge 7, 3) := by decide +kernel
theorem dX2_isFrog_12 : decode cX2_isFrog 12 = .ok (.iconst 1, 1) := by decide +kernel
theorem dX2_isFrog_13 : decode cX2_isFrog 13 = .ok (.goto 4, 3) := by decide +kernel
theorem dX2_isFrog_16 : decode cX2_isFrog 16 = .ok (.iconst 0, 1) := by decide +kernel
theorem dX2_isFrog_17 : decode cX2_isFrog 17 = .ok (.ireturn, 1) := by decide +kernel
theorem dX2_isPerson_0 : decode cX2_isPerson 0 = .ok (.iload_n 1, 1) := by decide +kernel
theorem dX2_isPerson_1 : decode cX2_isPerson 1 = .ok (.ifCond .lt 15, 3) := by decide +kernel
theorem dX2_isPerson_4 : decode cX2_isPerson 4 = .ok (.iload_n 1, 1) := by decide +kernel
theorem dX2_isPerson_5 : decode cX2_isPerson 5 = .ok (.aload_n 0, 1) := by decide +kernel
theorem dX2_isPerson_6 : decode cX2_isPerson 6 = .ok (.getfield 24, 3) := by decide +kernel
theorem dX2_isPerson_9 : decode cX2_isPerson 9 = .ok (.if_icmp .ge 7, 3) := by decide +kernel
theorem dX2_isPerson_12 : decode cX2_isPerson 12 = .ok (.iconst 1, 1) := by decide +kernel
theorem dX2_isPerson_13 : decode cX2_isPerson 13 = .ok (.goto 4, 3) := by decide +kernel
theorem dX2_isPerson_16 : decode cX2_isPerson 16 = .ok (.iconst 0, 1) := by decide +kernel
theorem dX2_isPerson_17 : decode cX2_isPerson 17 = .ok (.ireturn, 1) := by decide +kernel
theorem dX2_isDeed_0 : decode cX2_isDeed 0 = .ok (.iload_n 1, 1) := by decide +kernel
theorem dX2_isDeed_1 : decode cX2_isDeed 1 = .ok (.ifCond .lt 15, 3) := by decide +kernel
theorem dX2_isDeed_4 : decode cX2_isDeed 4 = .ok (.iload_n 1, 1) := by decide +kernel
theorem dX2_isDeed_5 : decode cX2_isDeed 5 = .ok (.aload_n 0, 1) := by decide +kernel
theorem dX2_isDeed_6 : decode cX2_isDeed 6 = .ok (.getfield 27, 3) := by decide +kernel
theorem dX2_isDeed_9 : decode cX2_isDeed 9 = .ok (.if_icmp .ge 7, 3) := by decide +kernel
theorem dX2_isDeed_12 : decode cX2_isDeed 12 = .ok (.iconst 1, 1) := by decide +kernel
theorem dX2_isDeed_13 : decode cX2_isDeed 13 = .ok (.goto 4, 3) := by decide +kernel
theorem dX2_isDeed_16 : decode cX2_isDeed 16 = .ok (.iconst 0, 1) := by decide +kernel
theorem dX2_isDeed_17 : decode cX2_isDeed 17 = .ok (.ireturn, 1) := by decide +kernel
theorem dX2_isPromise_0 : decode cX2_isPromise 0 = .ok (.iload_n 1, 1) := by decide +kernel
theorem dX2_isPromise_1 : decode cX2_isPromise 1 = .ok (.ifCond .lt 15, 3) := by decide +kernel
theorem dX2_isPromise_4 : decode cX2_isPromise 4 = .ok (.iload_n 1, 1) := by decide +kernel
theorem dX2_isPromise_5 : decode cX2_isPromise 5 = .ok (.aload_n 0, 1) := by decide +kernel
theorem dX2_isPromise_6 : decode cX2_isPromise 6 = .ok (.getfield 30, 3) := by decide +kernel
theorem dX2_isPromise_9 : decode cX2_isPromise 9 = .ok (.if_icmp .ge 7, 3) := by decide +kernel
theorem dX2_isPromise_12 : decode cX2_isPromise 12 = .ok (.iconst 1, 1) := by decide +kernel
theorem dX2_isPromise_13 : decode cX2_isPromise 13 = .ok (.goto 4, 3) := by decide +kernel
theorem dX2_isPromise_16 : decode cX2_isPromise 16 = .ok (.iconst 0, 1) := by decide +kernel
theorem dX2_isPromise_17 : decode cX2_isPromise 17 = .ok (.ireturn, 1) := by decide +kernel
theorem dX2_isNear_0 : decode cX2_isNear 0 = .ok (.aload_n 0, 1) := by decide +kernel
theorem dX2_isNear_1 : decode cX2_isNear 1 = .ok (.getfield 39, 3) := by decide +kernel
theorem dX2_isNear_4 : decode cX2_isNear 4 = .ok (.iload_n 1, 1) := by decide +kernel
theorem dX2_isNear_5 : decode cX2_isNear 5 = .ok (.iaload, 1) := by decide +kernel
theorem dX2_isNear_6 : decode cX2_isNear 6 = .ok (.iload_n 2, 1) := by decide +kernel
theorem dX2_isNear_7 : decode cX2_isNear 7 = .ok (.ishr, 1) := by decide +kernel
theorem dX2_isNear_8 : decode cX2_isNear 8 = .ok (.iconst 1, 1) := by decide +kernel
theorem dX2_isNear_9 : decode cX2_isNear 9 = .ok (.iand, 1) := by decide +kernel
theorem dX2_isNear_10 : decode cX2_isNear 10 = .ok (.iconst 1, 1) := by decide +kernel
theorem dX2_isNear_11 : decode cX2_isNear 11 = .ok (.if_icmp .ne 7, 3) := by decide +kernel
theorem dX2_isNear_14 : decode cX2_isNear 14 = .ok (.iconst 1, 1) := by decide +kernel
theorem dX2_isNear_15 : decode cX2_isNear 15 = .ok (.goto 4, 3) := by decide +kernel
theorem dX2_isNear_18 : decode cX2_isNear 18 = .ok (.iconst 0, 1) := by decide +kernel
theorem dX2_isNear_19 : decode cX2_isNear 19 = .ok (.ireturn, 1) := by decide +kernel
theorem dX2_term_0 : decode cX2_term 0 = .ok (.aload_n 0, 1) := by decide +kernel
theorem dX2_term_1 : decode cX2_term 1 = .ok (.getfield 49, 3) := by decide +kernel
theorem dX2_term_4 : decode cX2_term 4 = .ok (.iload_n 1, 1) := by decide +kernel
theorem dX2_term_5 : decode cX2_term 5 = .ok (.bipush 8, 2) := by decide +kernel
theorem dX2_term_7 : decode cX2_term 7 = .ok (.imul, 1) := by decide +kernel
theorem dX2_term_8 : decode cX2_term 8 = .ok (.iload_n 2, 1) := by decide +kernel
theorem dX2_term_9 : decode cX2_term 9 = .ok (.iadd, 1) := by decide +kernel
theorem dX2_term_10 : decode cX2_term 10 = .ok (.iaload, 1) := by decide +kernel
theorem dX2_term_11 : decode cX2_term 11 = .ok (.ireturn, 1) := by decide +kernel
theorem dX2_dayOf_0 : decode cX2_dayOf 0 = .ok (.aload_n 0, 1) := by decide +kernel
theorem dX2_dayOf_1 : decode cX2_dayOf 1 = .ok (.getfield 9, 3) := by decide +kernel
theorem dX2_dayOf_4 : decode cX2_dayOf 4 = .ok (.ifCond .le 12, 3) := by decide +kernel
theorem dX2_dayOf_7 : decode cX2_dayOf 7 = .ok (.iload_n 1, 1) := by decide +kernel
theorem dX2_dayOf_8 : decode cX2_dayOf 8 = .ok (.aload_n 0, 1) := by decide +kernel
theorem dX2_dayOf_9 : decode cX2_dayOf 9 = .ok (.getfield 9, 3) := by decide +kernel
theorem dX2_dayOf_12 : decode cX2_dayOf 12 = .ok (.idiv, 1) := by decide +kernel
theorem dX2_dayOf_13 : decode cX2_dayOf 13 = .ok (.goto 4, 3) := by decide +kernel
theorem dX2_dayOf_17 : decode cX2_dayOf 17 = .ok (.ireturn, 1) := by decide +kernel
theorem dX2_hourOf_0 : decode cX2_hourOf 0 = .ok (.aload_n 0, 1) := by decide +kernel
theorem dX2_hourOf_1 : decode cX2_hourOf 1 = .ok (.getfield 9, 3) := by decide +kernel
theorem dX2_hourOf_4 : decode cX2_hourOf 4 = .ok (.ifCond .le 12, 3) := by decide +kernel
theorem dX2_hourOf_7 : decode cX2_hourOf 7 = .ok (.iload_n 1, 1) := by decide +kernel
theorem dX2_hourOf_8 : decode cX2_hourOf 8 = .ok (.aload_n 0, 1) := by decide +kernel
theorem dX2_hourOf_9 : decode cX2_hourOf 9 = .ok (.getfield 9, 3) := by decide +kernel
theorem dX2_hourOf_12 : decode cX2_hourOf 12 = .ok (.irem, 1) := by decide +kernel
theorem dX2_hourOf_13 : decode cX2_hourOf 13 = .ok (.goto 4, 3) := by decide +kernel
theorem dX2_hourOf_17 : decode cX2_hourOf 17 = .ok (.ireturn, 1) := by decide +kernel
theorem dX2_nameIndex_0 : decode cX2_nameIndex 0 = .ok (.iconst 0, 1) := by decide +kernel
theorem dX2_nameIndex_1 : decode cX2_nameIndex 1 = .ok (.istore_n 3, 1) := by decide +kernel
theorem dX2_nameIndex_2 : decode cX2_nameIndex 2 = .ok (.iload_n 3, 1) := by decide +kernel
theorem dX2_nameIndex_3 : decode cX2_nameIndex 3 = .ok (.aload_n 0, 1) := by decide +kernel
theorem dX2_nameIndex_4 : decode cX2_nameIndex 4 = .ok (.getfield 36, 3) := by decide +kernel
theorem dX2_nameIndex_7 : decode cX2_nameIndex 7 = .ok (.if_icmp .ge 22, 3) := by decide +kernel
theorem dX2_nameIndex_10 : decode cX2_nameIndex 10 = .ok (.aload_n 0, 1) := by decide +kernel
theorem dX2_nameIndex_11 : decode cX2_nameIndex 11 = .ok (.getfield 55, 3) := by decide +kernel
theorem dX2_nameIndex_14 : decode cX2_nameIndex 14 = .ok (.iload_n 3, 1) := by decide +kernel
theorem dX2_nameIndex_15 : decode cX2_nameIndex 15 = .ok (.laload, 1) := by decide +kernel
theorem dX2_nameIndex_16 : decode cX2_nameIndex 16 = .ok (.lload_n 1, 1) := by decide +kernel
theorem dX2_nameIndex_17 : decode cX2_nameIndex 17 = .ok (.lcmp, 1) := by decide +kernel
theorem dX2_nameIndex_18 : decode cX2_nameIndex 18 = .ok (.ifCond .ne 5, 3) := by decide +kernel
theorem dX2_nameIndex_21 : decode cX2_nameIndex 21 = .ok (.iload_n 3, 1) := by decide +kernel
theorem dX2_nameIndex_22 : decode cX2_nameIndex 22 = .ok (.ireturn, 1) := by decide +kernel
theorem dX2_nameIndex_23 : decode cX2_nameIndex 23 = .ok (.iinc 3 1, 3) := by decide +kernel
theorem dX2_nameIndex_26 : decode cX2_nameIndex 26 = .ok (.goto (-24), 3) := by decide +kernel
theorem dX2_nameIndex_29 : decode cX2_nameIndex 29 = .ok (.iconst (-1), 1) := by decide +kernel
theorem dX2_nameIndex_30 : decode cX2_nameIndex 30 = .ok (.ireturn, 1) := by decide +kernel
theorem dX2_addName_0 : decode cX2_addName 0 = .ok (.aload_n 0, 1) := by decide +kernel
theorem dX2_addName_1 : decode cX2_addName 1 = .ok (.getfield 36, 3) := by decide +kernel
theorem dX2_addName_4 : decode cX2_addName 4 = .ok (.bipush 26, 2) := by decide +kernel
theorem dX2_addName_6 : decode cX2_addName 6 = .ok (.if_icmp .ge 44, 3) := by decide +kernel
theorem dX2_addName_9 : decode cX2_addName 9 = .ok (.aload_n 0, 1) := by decide +kernel
theorem dX2_addName_10 : decode cX2_addName 10 = .ok (.getfield 55, 3) := by decide +kernel
theorem dX2_addName_13 : decode cX2_addName 13 = .ok (.aload_n 0, 1) := by decide +kernel
theorem dX2_addName_14 : decode cX2_addName 14 = .ok (.getfield 36, 3) := by decide +kernel
theorem dX2_addName_17 : decode cX2_addName 17 = .ok (.lload_n 1, 1) := by decide +kernel
theorem dX2_addName_18 : decode cX2_addName 18 = .ok (.lastore, 1) := by decide +kernel
theorem dX2_addName_19 : decode cX2_addName 19 = .ok (.aload_n 0, 1) := by decide +kernel
theorem dX2_addName_20 : decode cX2_addName 20 = .ok (.getfield 59, 3) := by decide +kernel
theorem dX2_addName_23 : decode cX2_addName 23 = .ok (.aload_n 0, 1) := by decide +kernel
theorem dX2_addName_24 : decode cX2_addName 24 = .ok (.getfield 36, 3) := by decide +kernel
theorem dX2_addName_27 : decode cX2_addName 27 = .ok (.iload_n 3, 1) := by decide +kernel
theorem dX2_addName_28 : decode cX2_addName 28 = .ok (.iastore, 1) := by decide +kernel
theorem dX2_addName_29 : decode cX2_addName 29 = .ok (.aload_n 0, 1) := by decide +kernel
theorem dX2_addName_30 : decode cX2_addName 30 = .ok (.getfield 62, 3) := by decide +kernel
theorem dX2_addName_33 : decode cX2_addName 33 = .ok (.aload_n 0, 1) := by decide +kernel
theorem dX2_addName_34 : decode cX2_addName 34 = .ok (.getfield 36, 3) := by decide +kernel
theorem dX2_addName_37 : decode cX2_addName 37 = .ok (.iload 4, 2) := by decide +kernel
theorem dX2_addName_39 : decode cX2_addName 39 = .ok (.iastore, 1) := by decide +kernel
theorem dX2_addName_40 : decode cX2_addName 40 = .ok (.aload_n 0, 1) := by decide +kernel
theorem dX2_addName_41 : decode cX2_addName 41 = .ok (.dup, 1) := by decide +kernel
theorem dX2_addName_42 : decode cX2_addName 42 = .ok (.getfield 36, 3) := by decide +kernel
theorem dX2_addName_45 : decode cX2_addName 45 = .ok (.iconst 1, 1) := by decide +kernel
theorem dX2_addName_46 : decode cX2_addName 46 = .ok (.iadd, 1) := by decide +kernel
theorem dX2_addName_47 : decode cX2_addName 47 = .ok (.putfield 36, 3) := by decide +kernel
theorem dX2_addName_50 : decode cX2_addName 50 = .ok (.return_, 1) := by decide +kernel
theorem dX2_addPlace_0 : decode cX2_addPlace 0 = .ok (.aload_n 0, 1) := by decide +kernel
theorem dX2_addPlace_1 : decode cX2_addPlace 1 = .ok (.lload_n 1, 1) := by decide +kernel
theorem dX2_addPlace_2 : decode cX2_addPlace 2 = .ok (.iconst 0, 1) := by decide +kernel
theorem dX2_addPlace_3 : decode cX2_addPlace 3 = .ok (.aload_n 0, 1) := by decide +kernel
theorem dX2_addPlace_4 : decode cX2_addPlace 4 = .ok (.getfield 15, 3) := by decide +kernel
theorem dX2_addPlace_7 : decode cX2_addPlace 7 = .ok (.invokevirtual 77, 3) := by decide +kernel
theorem dX2_addPlace_10 : decode cX2_addPlace 10 = .ok (.aload_n 0, 1) := by decide +kernel
theorem dX2_addPlace_11 : decode cX2_addPlace 11 = .ok (.dup, 1) := by decide +kernel
theorem dX2_addPlace_12 : decode cX2_addPlace 12 = .ok (.getfield 15, 3) := by decide +kernel
theorem dX2_addPlace_15 : decode cX2_addPlace 15 = .ok (.iconst 1, 1) := by decide +kernel
theorem dX2_addPlace_16 : decode cX2_addPlace 16 = .ok (.iadd, 1) := by decide +kernel
theorem dX2_addPlace_17 : decode cX2_addPlace 17 = .ok (.putfield 15, 3) := by decide +kernel
theorem dX2_addPlace_20 : decode cX2_addPlace 20 = .ok (.return_, 1) := by decide +kernel
theorem dX2_addDeed_0 : decode cX2_addDeed 0 = .ok (.aload_n 0, 1) := by decide +kernel
theorem dX2_addDeed_1 : decode cX2_addDeed 1 = .ok (.lload_n 1, 1) := by decide +kernel
theorem dX2_addDeed_2 : decode cX2_addDeed 2 = .ok (.iconst 2, 1) := by decide +kernel
theorem dX2_addDeed_3 : decode cX2_addDeed 3 = .ok (.aload_n 0, 1) := by decide +kernel
theorem dX2_addDeed_4 : decode cX2_addDeed 4 = .ok (.getfield 27, 3) := by decide +kernel
theorem dX2_addDeed_7 : decode cX2_addDeed 7 = .ok (.invokevirtual 77, 3) := by decide +kernel
theorem dX2_addDeed_10 : decode cX2_addDeed 10 = .ok (.aload_n 0, 1) := by decide +kernel
theorem dX2_addDeed_11 : decode cX2_addDeed 11 = .ok (.dup, 1) := by decide +kernel
theorem dX2_addDeed_12 : decode cX2_addDeed 12 = .ok (.getfield 27, 3) := by decide +kernel
theorem dX2_addDeed_15 : decode cX2_addDeed 15 = .ok (.iconst 1, 1) := by decide +kernel
theorem dX2_addDeed_16 : decode cX2_addDeed 16 = .ok (.iadd, 1) := by decide +kernel
theorem dX2_addDeed_17 : decode cX2_addDeed 17 = .ok (.putfield 27, 3) := by decide +kernel
theorem dX2_addDeed_20 : decode cX2_addDeed 20 = .ok (.return_, 1) := by decide +kernel
theorem dX2_addWay_0 : decode cX2_addWay 0 = .ok (.aload_n 0, 1) := by decide +kernel
theorem dX2_addWay_1 : decode cX2_addWay 1 = .ok (.getfield 39, 3) := by decide +kernel
theorem dX2_addWay_4 : decode cX2_addWay 4 = .ok (.iload_n 1, 1) := by decide +kernel
theorem dX2_addWay_5 : decode cX2_addWay 5 = .ok (.dup2, 1) := by decide +kernel
theorem dX2_addWay_6 : decode cX2_addWay 6 = .ok (.iaload, 1) := by decide +kernel
theorem dX2_addWay_7 : decode cX2_addWay 7 = .ok (.iconst 1, 1) := by decide +kernel
theorem dX2_addWay_8 : decode cX2_addWay 8 = .ok (.iload_n 2, 1) := by decide +kernel
theorem dX2_addWay_9 : decode cX2_addWay 9 = .ok (.ishl, 1) := by decide +kernel
theorem dX2_addWay_10 : decode cX2_addWay 10 = .ok (.ior, 1) := by decide +kernel
theorem dX2_addWay_11 : decode cX2_addWay 11 = .ok (.iastore, 1) := by decide +kernel
theorem dX2_addWay_12 : decode cX2_addWay 12 = .ok (.aload_n 0, 1) := by decide +kernel
theorem dX2_addWay_13 : decode cX2_addWay 13 = .ok (.getfield 39, 3) := by decide +kernel
theorem dX2_addWay_16 : decode cX2_addWay 16 = .ok (.iload_n 2, 1) := by decide +kernel
theorem dX2_addWay_17 : decode cX2_addWay 17 = .ok (.dup2, 1) := by decide +kernel
theorem dX2_addWay_18 : decode cX2_addWay 18 = .ok (.iaload, 1) := by decide +kernel
theorem dX2_addWay_19 : decode cX2_addWay 19 = .ok (.iconst 1, 1) := by decide +kernel
theorem dX2_addWay_20 : decode cX2_addWay 20 = .ok (.iload_n 1, 1) := by decide +kernel
theorem dX2_addWay_21 : decode cX2_addWay 21 = .ok (.ishl, 1) := by decide +kernel
theorem dX2_addWay_22 : decode cX2_addWay 22 = .ok (.ior, 1) := by decide +kernel
theorem dX2_addWay_23 : decode cX2_addWay 23 = .ok (.iastore, 1) := by decide +kernel
theorem dX2_addWay_24 : decode cX2_addWay 24 = .ok (.aload_n 0, 1) := by decide +kernel
theorem dX2_addWay_25 : decode cX2_addWay 25 = .ok (.dup, 1) := by decide +kernel
theorem dX2_addWay_26 : decode cX2_addWay 26 = .ok (.getfield 18, 3) := by decide +kernel
theorem dX2_addWay_29 : decode cX2_addWay 29 = .ok (.iconst 1, 1) := by decide +kernel
theorem dX2_addWay_30 : decode cX2_addWay 30 = .ok (.iadd, 1) := by decide +kernel
theorem dX2_addWay_31 : decode cX2_addWay 31 = .ok (.putfield 18, 3) := by decide +kernel
theorem dX2_addWay_34 : decode cX2_addWay 34 = .ok (.return_, 1) := by decide +kernel
theorem dX2_addFrog_0 : decode cX2_addFrog 0 = .ok (.aload_n 0, 1) := by decide +kernel
theorem dX2_addFrog_1 : decode cX2_addFrog 1 = .ok (.getfield 21, 3) := by decide +kernel
theorem dX2_addFrog_4 : decode cX2_addFrog 4 = .ok (.bipush 6, 2) := by decide +kernel
theorem dX2_addFrog_6 : decode cX2_addFrog 6 = .ok (.if_icmp .ge 23, 3) := by decide +kernel
theorem dX2_addFrog_9 : decode cX2_addFrog 9 = .ok (.aload_n 0, 1) := by decide +kernel
theorem dX2_addFrog_10 : decode cX2_addFrog 10 = .ok (.getfield 43, 3) := by decide +kernel
theorem dX2_addFrog_13 : decode cX2_addFrog 13 = .ok (.aload_n 0, 1) := by decide +kernel
theorem dX2_addFrog_14 : decode cX2_addFrog 14 = .ok (.getfield 21, 3) := by decide +kernel
theorem dX2_addFrog_17 : decode cX2_addFrog 17 = .ok (.iload_n 1, 1) := by decide +kernel
theorem dX2_addFrog_18 : decode cX2_addFrog 18 = .ok (.iastore, 1) := by decide +kernel
theorem dX2_addFrog_19 : decode cX2_addFrog 19 = .ok (.aload_n 0, 1) := by decide +kernel
theorem dX2_addFrog_20 : decode cX2_addFrog 20 = .ok (.dup, 1) := by decide +kernel
theorem dX2_addFrog_21 : decode cX2_addFrog 21 = .ok (.getfield 21, 3) := by decide +kernel
theorem dX2_addFrog_24 : decode cX2_addFrog 24 = .ok (.iconst 1, 1) := by decide +kernel
theorem dX2_addFrog_25 : decode cX2_addFrog 25 = .ok (.iadd, 1) := by decide +kernel
theorem dX2_addFrog_26 : decode cX2_addFrog 26 = .ok (.putfield 21, 3) := by decide +kernel
theorem dX2_addFrog_29 : decode cX2_addFrog 29 = .ok (.return_, 1) := by decide +kernel
theorem dX2_addPerson_0 : decode cX2_addPerson 0 = .ok (.aload_n 0, 1) := by decide +kernel
theorem dX2_addPerson_1 : decode cX2_addPerson 1 = .ok (.getfield 24, 3) := by decide +kernel
theorem dX2_addPerson_4 : decode cX2_addPerson 4 = .ok (.iconst 4, 1) := by decide +kernel
theorem dX2_addPerson_5 : decode cX2_addPerson 5 = .ok (.if_icmp .ge 33, 3) := by decide +kernel
theorem dX2_addPerson_8 : decode cX2_addPerson 8 = .ok (.aload_n 0, 1) := by decide +kernel
theorem dX2_addPerson_9 : decode cX2_addPerson 9 = .ok (.lload_n 1, 1) := by decide +kernel
theorem dX2_addPerson_10 : decode cX2_addPerson 10 = .ok (.iconst 1, 1) := by decide +kernel
theorem dX2_addPerson_11 : decode cX2_addPerson 11 = .ok (.aload_n 0, 1) := by decide +kernel
theorem dX2_addPerson_12 : decode cX2_addPerson 12 = .ok (.getfield 24, 3) := by decide +kernel
theorem dX2_addPerson_15 : decode cX2_addPerson 15 = .ok (.invokevirtual 77, 3) := by decide +kernel
theorem dX2_addPerson_18 : decode cX2_addPerson 18 = .ok (.aload_n 0, 1) := by decide +kernel
theorem dX2_addPerson_19 : decode cX2_addPerson 19 = .ok (.getfield 46, 3) := by decide +kernel
theorem dX2_addPerson_22 : decode cX2_addPerson 22 = .ok (.aload_n 0, 1) := by decide +kernel
theorem dX2_addPerson_23 : decode cX2_addPerson 23 = .ok (.getfield 24, 3) := by decide +kernel
theorem dX2_addPerson_26 : decode cX2_addPerson 26 = .ok (.iload_n 3, 1) := by decide +kernel
theorem dX2_addPerson_27 : decode cX2_addPerson 27 = .ok (.iastore, 1) := by decide +kernel
theorem dX2_addPerson_28 : decode cX2_addPerson 28 = .ok (.aload_n 0, 1) := by decide +kernel
theorem dX2_addPerson_29 : decode cX2_addPerson 29 = .ok (.dup, 1) := by decide +kernel
theorem dX2_addPerson_30 : decode cX2_addPerson 30 = .ok (.getfield 24, 3) := by decide +kernel
theorem dX2_addPerson_33 : decode cX2_addPerson 33 = .ok (.iconst 1, 1) := by decide +kernel
theorem dX2_addPerson_34 : decode cX2_addPerson 34 = .ok (.iadd, 1) := by decide +kernel
theorem dX2_addPerson_35 : decode cX2_addPerson 35 = .ok (.putfield 24, 3) := by decide +kernel
theorem dX2_addPerson_38 : decode cX2_addPerson 38 = .ok (.return_, 1) := by decide +kernel
theorem dX2_addPromise_0 : decode cX2_addPromise 0 = .ok (.aload_n 0, 1) := by decide +kernel
theorem dX2_addPromise_1 : decode cX2_addPromise 1 = .ok (.getfield 30, 3) := by decide +kernel
theorem dX2_addPromise_4 : decode cX2_addPromise 4 = .ok (.bipush 8, 2) := by decide +kernel
theorem dX2_addPromise_6 : decode cX2_addPromise 6 = .ok (.if_icmp .ge 41, 3) := by decide +kernel
theorem dX2_addPromise_9 : decode cX2_addPromise 9 = .ok (.aload_n 0, 1) := by decide +kernel
theorem dX2_addPromise_10 : decode cX2_addPromise 10 = .ok (.lload_n 1, 1) := by decide +kernel
theorem dX2_addPromise_11 : decode cX2_addPromise 11 = .ok (.iconst 3, 1) := by decide +kernel
theorem dX2_addPromise_12 : decode cX2_addPromise 12 = .ok (.aload_n 0, 1) := by decide +kernel
theorem dX2_addPromise_13 : decode cX2_addPromise 13 = .ok (.getfield 30, 3) := by decide +kernel
theorem dX2_addPromise_16 : decode cX2_addPromise 16 = .ok (.invokevirtual 77, 3) := by decide +kernel
theorem dX2_addPromise_19 : decode cX2_addPromise 19 = .ok (.aload_n 3, 1) := by decide +kernel
theorem dX2_addPromise_20 : decode cX2_addPromise 20 = .ok (.iconst 0, 1) := by decide +kernel
theorem dX2_addPromise_21 : decode cX2_addPromise 21 = .ok (.aload_n 0, 1) := by decide +kernel
theorem dX2_addPromise_22 : decode cX2_addPromise 22 = .ok (.getfield 49, 3) := by decide +kernel
theorem dX2_addPromise_25 : decode cX2_addPromise 25 = .ok (.aload_n 0, 1) := by decide +kernel
theorem dX2_addPromise_26 : decode cX2_addPromise 26 = .ok (.getfield 30, 3) := by decide +kernel
theorem dX2_addPromise_29 : decode cX2_addPromise 29 = .ok (.bipush 8, 2) := by decide +kernel
theorem dX2_addPromise_31 : decode cX2_addPromise 31 = .ok (.imul, 1) := by decide +kernel
theorem dX2_addPromise_32 : decode cX2_addPromise 32 = .ok (.bipush 8, 2) := by decide +kernel
theorem dX2_addPromise_34 : decode cX2_addPromise 34 = .ok (.invokestatic 71, 3) := by decide +kernel
theorem dX2_addPromise_37 : decode cX2_addPromise 37 = .ok (.aload_n 0, 1) := by decide +kernel
theorem dX2_addPromise_38 : decode cX2_addPromise 38 = .ok (.dup, 1) := by decide +kernel
theorem dX2_addPromise_39 : decode cX2_addPromise 39 = .ok (.getfield 30, 3) := by decide +kernel
theorem dX2_addPromise_42 : decode cX2_addPromise 42 = .ok (.iconst 1, 1) := by decide +kernel
theorem dX2_addPromise_43 : decode cX2_addPromise 43 = .ok (.iadd, 1) := by decide +kernel
theorem dX2_addPromise_44 : decode cX2_addPromise 44 = .ok (.putfield 30, 3) := by decide +kernel
theorem dX2_addPromise_47 : decode cX2_addPromise 47 = .ok (.return_, 1) := by decide +kernel
theorem dX2_isVow_0 : decode cX2_isVow 0 = .ok (.aload_n 0, 1) := by decide +kernel
theorem dX2_isVow_1 : decode cX2_isVow 1 = .ok (.getfield 52, 3) := by decide +kernel
theorem dX2_isVow_4 : decode cX2_isVow 4 = .ok (.iload_n 2, 1) := by decide +kernel
theorem dX2_isVow_5 : decode cX2_isVow 5 = .ok (.iaload, 1) := by decide +kernel
theorem dX2_isVow_6 : decode cX2_isVow 6 = .ok (.iload_n 1, 1) := by decide +kernel
theorem dX2_isVow_7 : decode cX2_isVow 7 = .ok (.ishr, 1) := by decide +kernel
theorem dX2_isVow_8 : decode cX2_isVow 8 = .ok (.iconst 1, 1) := by decide +kernel
theorem dX2_isVow_9 : decode cX2_isVow 9 = .ok (.iand, 1) := by decide +kernel
theorem dX2_isVow_10 : decode cX2_isVow 10 = .ok (.iconst 1, 1) := by decide +kernel
theorem dX2_isVow_11 : decode cX2_isVow 11 = .ok (.if_icmp .ne 7, 3) := by decide +kernel
theorem dX2_isVow_14 : decode cX2_isVow 14 = .ok (.iconst 1, 1) := by decide +kernel
theorem dX2_isVow_15 : decode cX2_isVow 15 = .ok (.goto 4, 3) := by decide +kernel
theorem dX2_isVow_18 : decode cX2_isVow 18 = .ok (.iconst 0, 1) := by decide +kernel
theorem dX2_isVow_19 : decode cX2_isVow 19 = .ok (.ireturn, 1) := by decide +kernel
theorem dX2_addVow_0 : decode cX2_addVow 0 = .ok (.aload_n 0, 1) := by decide +kernel
theorem dX2_addVow_1 : decode cX2_addVow 1 = .ok (.getfield 52, 3) := by decide +kernel
theorem dX2_addVow_4 : decode cX2_addVow 4 = .ok (.iload_n 2, 1) := by decide +kernel
theorem dX2_addVow_5 : decode cX2_addVow 5 = .ok (.dup2, 1) := by decide +kernel
theorem dX2_addVow_6 : decode cX2_addVow 6 = .ok (.iaload, 1) := by decide +kernel
theorem dX2_addVow_7 : decode cX2_addVow 7 = .ok (.iconst 1, 1) := by decide +kernel
theorem dX2_addVow_8 : decode cX2_addVow 8 = .ok (.iload_n 1, 1) := by decide +kernel
theorem dX2_addVow_9 : decode cX2_addVow 9 = .ok (.ishl, 1) := by decide +kernel
theorem dX2_addVow_10 : decode cX2_addVow 10 = .ok (.ior, 1) := by decide +kernel
theorem dX2_addVow_11 : decode cX2_addVow 11 = .ok (.iastore, 1) := by decide +kernel
theorem dX2_addVow_12 : decode cX2_addVow 12 = .ok (.aload_n 0, 1) := by decide +kernel
theorem dX2_addVow_13 : decode cX2_addVow 13 = .ok (.dup, 1) := by decide +kernel
theorem dX2_addVow_14 : decode cX2_addVow 14 = .ok (.getfield 33, 3) := by decide +kernel
theorem dX2_addVow_17 : decode cX2_addVow 17 = .ok (.iconst 1, 1) := by decide +kernel
theorem dX2_addVow_18 : decode cX2_addVow 18 = .ok (.iadd, 1) := by decide +kernel
theorem dX2_addVow_19 : decode cX2_addVow 19 = .ok (.putfield 33, 3) := by decide +kernel
theorem dX2_addVow_22 : decode cX2_addVow 22 = .ok (.return_, 1) := by decide +kernel
theorem dX2_spread_0 : decode cX2_spread 0 = .ok (.iload_n 1, 1) := by decide +kernel
theorem dX2_spread_1 : decode cX2_spread 1 = .ok (.istore_n 2, 1) := by decide +kernel
theorem dX2_spread_2 : decode cX2_spread 2 = .ok (.iconst 0, 1) := by decide +kernel
theorem dX2_spread_3 : decode cX2_spread 3 = .ok (.istore_n 3, 1) := by decide +kernel
theorem dX2_spread_4 : decode cX2_spread 4 = .ok (.iload_n 3, 1) := by decide +kernel
theorem dX2_spread_5 : decode cX2_spread 5 = .ok (.aload_n 0, 1) := by decide +kernel
theorem dX2_spread_6 : decode cX2_spread 6 = .ok (.getfield 15, 3) := by decide +kernel
theorem dX2_spread_9 : decode cX2_spread 9 = .ok (.if_icmp .ge 27, 3) := by decide +kernel
theorem dX2_spread_12 : decode cX2_spread 12 = .ok (.iload_n 1, 1) := by decide +kernel
theorem dX2_spread_13 : decode cX2_spread 13 = .ok (.iload_n 3, 1) := by decide +kernel
theorem dX2_spread_14 : decode cX2_spread 14 = .ok (.ishr, 1) := by decide +kernel
theorem dX2_spread_15 : decode cX2_spread 15 = .ok (.iconst 1, 1) := by decide +kernel
theorem dX2_spread_16 : decode cX2_spread 16 = .ok (.iand, 1) := by decide +kernel
theorem dX2_spread_17 : decode cX2_spread 17 = .ok (.iconst 1, 1) := by decide +kernel
theorem dX2_spread_18 : decode cX2_spread 18 = .ok (.if_icmp .ne 12, 3) := by decide +kernel
theorem dX2_spread_21 : decode cX2_spread 21 = .ok (.iload_n 2, 1) := by decide +kernel
theorem dX2_spread_22 : decode cX2_spread 22 = .ok (.aload_n 0, 1) := by decide +kernel
theorem dX2_spread_23 : decode cX2_spread 23 = .ok (.getfield 39, 3) := by decide +kernel
theorem dX2_spread_26 : decode cX2_spread 26 = .ok (.iload_n 3, 1) := by decide +kernel
theorem dX2_spread_27 : decode cX2_spread 27 = .ok (.iaload, 1) := by decide +kernel
theorem dX2_spread_28 : decode cX2_spread 28 = .ok (.ior, 1) := by decide +kernel
theorem dX2_spread_29 : decode cX2_spread 29 = .ok (.istore_n 2, 1) := by decide +kernel
theorem dX2_spread_30 : decode cX2_spread 30 = .ok (.iinc 3 1, 3) := by decide +kernel
theorem dX2_spread_33 : decode cX2_spread 33 = .ok (.goto (-29), 3) := by decide +kernel
theorem dX2_spread_36 : decode cX2_spread 36 = .ok (.iload_n 2, 1) := by decide +kernel
theorem dX2_spread_37 : decode cX2_spread 37 = .ok (.ireturn, 1) := by decide +kernel
theorem dX2_stepsBetween_0 : decode cX2_stepsBetween 0 = .ok (.iconst 1, 1) := by decide +kernel
theorem dX2_stepsBetween_1 : decode cX2_stepsBetween 1 = .ok (.iload_n 1, 1) := by decide +kernel
theorem dX2_stepsBetween_2 : decode cX2_stepsBetween 2 = .ok (.ishl, 1) := by decide +kernel
theorem dX2_stepsBetween_3 : decode cX2_stepsBetween 3 = .ok (.istore_n 3, 1) := by decide +kernel
theorem dX2_stepsBetween_4 : decode cX2_stepsBetween 4 = .ok (.iconst 0, 1) := by decide +kernel
theorem dX2_stepsBetween_5 : decode cX2_stepsBetween 5 = .ok (.istore 4, 2) := by decide +kernel
theorem dX2_stepsBetween_7 : decode cX2_stepsBetween 7 = .ok (.iload 4, 2) := by decide +kernel
theorem dX2_stepsBetween_9 : decode cX2_stepsBetween 9 = .ok (.bipush 8, 2) := by decide +kernel
theorem dX2_stepsBetween_11 : decode cX2_stepsBetween 11 = .ok (.if_icmp .ge 27, 3) := by decide +kernel
theorem dX2_stepsBetween_14 : decode cX2_stepsBetween 14 = .ok (.iload_n 3, 1) := by decide +kernel
theorem dX2_stepsBetween_15 : decode cX2_stepsBetween 15 = .ok (.iload_n 2, 1) := by decide +kernel
theorem dX2_stepsBetween_16 : decode cX2_stepsBetween 16 = .ok (.ishr, 1) := by decide +kernel
theorem dX2_stepsBetween_17 : decode cX2_stepsBetween 17 = .ok (.iconst 1, 1) := by decide +kernel
theorem dX2_stepsBetween_18 : decode cX2_stepsBetween 18 = .ok (.iand, 1) := by decide +kernel
theorem dX2_stepsBetween_19 : decode cX2_stepsBetween 19 = .ok (.iconst 1, 1) := by decide +kernel
theorem dX2_stepsBetween_20 : decode cX2_stepsBetween 20 = .ok (.if_icmp .ne 6, 3) := by decide +kernel
theorem dX2_stepsBetween_23 : decode cX2_stepsBetween 23 = .ok (.iload 4, 2) := by decide +kernel
theorem dX2_stepsBetween_25 : decode cX2_stepsBetween 25 = .ok (.ireturn, 1) := by decide +kernel
theorem dX2_stepsBetween_26 : decode cX2_stepsBetween 26 = .ok (.aload_n 0, 1) := by decide +kernel
theorem dX2_stepsBetween_27 : decode cX2_stepsBetween 27 = .ok (.iload_n 3, 1) := by decide +kernel
theorem dX2_stepsBetween_28 : decode cX2_stepsBetween 28 = .ok (.invokevirtual 81, 3) := by decide +kernel
theorem dX2_stepsBetween_31 : decode cX2_stepsBetween 31 = .ok (.istore_n 3, 1) := by decide +kernel
theorem dX2_stepsBetween_32 : decode cX2_stepsBetween 32 = .ok (.iinc 4 1, 3) := by decide +kernel
theorem dX2_stepsBetween_35 : decode cX2_stepsBetween 35 = .ok (.goto (-28), 3) := by decide +kernel
theorem dX2_stepsBetween_38 : decode cX2_stepsBetween 38 = .ok (.iconst (-1), 1) := by decide +kernel
theorem dX2_stepsBetween_39 : decode cX2_stepsBetween 39 = .ok (.ireturn, 1) := by decide +kernel
theorem dX2_frogPlaces_0 : decode cX2_frogPlaces 0 = .ok (.iconst 0, 1) := by decide +kernel
theorem dX2_frogPlaces_1 : decode cX2_frogPlaces 1 = .ok (.istore_n 1, 1) := by decide +kernel
theorem dX2_frogPlaces_2 : decode cX2_frogPlaces 2 = .ok (.iconst 0, 1) := by decide +kernel
theorem dX2_frogPlaces_3 : decode cX2_frogPlaces 3 = .ok (.istore_n 2, 1) := by decide +kernel
theorem dX2_frogPlaces_4 : decode cX2_frogPlaces 4 = .ok (.iload_n 2, 1) := by decide +kernel
theorem dX2_frogPlaces_5 : decode cX2_frogPlaces 5 = .ok (.aload_n 0, 1) := by decide +kernel
theorem dX2_frogPlaces_6 : decode cX2_frogPlaces 6 = .ok (.getfield 21, 3) := by decide +kernel
theorem dX2_frogPlaces_9 : decode cX2_frogPlaces 9 = .ok (.if_icmp .ge 20, 3) := by decide +kernel
theorem dX2_frogPlaces_12 : decode cX2_frogPlaces 12 = .ok (.iload_n 1, 1) := by decide +kernel
theorem dX2_frogPlaces_13 : decode cX2_frogPlaces 13 = .ok (.iconst 1, 1) := by decide +kernel
theorem dX2_frogPlaces_14 : decode cX2_frogPlaces 14 = .ok (.aload_n 0, 1) := by decide +kernel
theorem dX2_frogPlaces_15 : decode cX2_frogPlaces 15 = .ok (.getfield 43, 3) := by decide +kernel
theorem dX2_frogPlaces_18 : decode cX2_frogPlaces 18 = .ok (.iload_n 2, 1) := by decide +kernel
theorem dX2_frogPlaces_19 : decode cX2_frogPlaces 19 = .ok (.iaload, 1) := by decide +kernel
theorem dX2_frogPlaces_20 : decode cX2_frogPlaces 20 = .ok (.ishl, 1) := by decide +kernel
theorem dX2_frogPlaces_21 : decode cX2_frogPlaces 21 = .ok (.ior, 1) := by decide +kernel
theorem dX2_frogPlaces_22 : decode cX2_frogPlaces 22 = .ok (.istore_n 1, 1) := by decide +kernel
theorem dX2_frogPlaces_23 : decode cX2_frogPlaces 23 = .ok (.iinc 2 1, 3) := by decide +kernel
theorem dX2_frogPlaces_26 : decode cX2_frogPlaces 26 = .ok (.goto (-22), 3) := by decide +kernel
theorem dX2_frogPlaces_29 : decode cX2_frogPlaces 29 = .ok (.iload_n 1, 1) := by decide +kernel
theorem dX2_frogPlaces_30 : decode cX2_frogPlaces 30 = .ok (.ireturn, 1) := by decide +kernel
theorem dX2_dryBits_0 : decode cX2_dryBits 0 = .ok (.iconst 1, 1) := by decide +kernel
theorem dX2_dryBits_1 : decode cX2_dryBits 1 = .ok (.aload_n 0, 1) := by decide +kernel
theorem dX2_dryBits_2 : decode cX2_dryBits 2 = .ok (.getfield 15, 3) := by decide +kernel
theorem dX2_dryBits_5 : decode cX2_dryBits 5 = .ok (.ishl, 1) := by decide +kernel
theorem dX2_dryBits_6 : decode cX2_dryBits 6 = .ok (.iconst 1, 1) := by decide +kernel
theorem dX2_dryBits_7 : decode cX2_dryBits 7 = .ok (.isub, 1) := by decide +kernel
theorem dX2_dryBits_8 : decode cX2_dryBits 8 = .ok (.aload_n 0, 1) := by decide +kernel
theorem dX2_dryBits_9 : decode cX2_dryBits 9 = .ok (.invokevirtual 85, 3) := by decide +kernel
theorem dX2_dryBits_12 : decode cX2_dryBits 12 = .ok (.iconst (-1), 1) := by decide +kernel
theorem dX2_dryBits_13 : decode cX2_dryBits 13 = .ok (.ixor, 1) := by decide +kernel
theorem dX2_dryBits_14 : decode cX2_dryBits 14 = .ok (.iand, 1) := by decide +kernel
theorem dX2_dryBits_15 : decode cX2_dryBits 15 = .ok (.ireturn, 1) := by decide +kernel
theorem dX2_brokenWith_0 : decode cX2_brokenWith 0 = .ok (.iconst 0, 1) := by decide +kernel
theorem dX2_brokenWith_1 : decode cX2_brokenWith 1 = .ok (.istore_n 2, 1) := by decide +kernel
theorem dX2_brokenWith_2 : decode cX2_brokenWith 2 = .ok (.iconst 0, 1) := by decide +kernel
theorem dX2_brokenWith_3 : decode cX2_brokenWith 3 = .ok (.istore_n 3, 1) := by decide +kernel
theorem dX2_brokenWith_4 : decode cX2_brokenWith 4 = .ok (.iload_n 3, 1) := by decide +kernel
theorem dX2_brokenWith_5 : decode cX2_brokenWith 5 = .ok (.bipush 8, 2) := by decide +kernel
theorem dX2_brokenWith_7 : decode cX2_brokenWith 7 = .ok (.if_icmp .ge 53, 3) := by decide +kernel
theorem dX2_brokenWith_10 : decode cX2_brokenWith 10 = .ok (.iload_n 1, 1) := by decide +kernel
theorem dX2_brokenWith_11 : decode cX2_brokenWith 11 = .ok (.iload_n 2, 1) := by decide +kernel
theorem dX2_brokenWith_12 : decode cX2_brokenWith 12 = .ok (.ior, 1) := by decide +kernel
theorem dX2_brokenWith_13 : decode cX2_brokenWith 13 = .ok (.istore 4, 2) := by decide +kernel
theorem dX2_brokenWith_15 : decode cX2_brokenWith 15 = .ok (.iconst 0, 1) := by decide +kernel
theorem dX2_brokenWith_16 : decode cX2_brokenWith 16 = .ok (.istore 5, 2) := by decide +kernel
theorem dX2_brokenWith_18 : decode cX2_brokenWith 18 = .ok (.iload 5, 2) := by decide +kernel
theorem dX2_brokenWith_20 : decode cX2_brokenWith 20 = .ok (.aload_n 0, 1) := by decide +kernel
theorem dX2_brokenWith_21 : decode cX2_brokenWith 21 = .ok (.getfield 30, 3) := by decide +kernel
theorem dX2_brokenWith_24 : decode cX2_brokenWith 24 = .ok (.if_icmp .ge 30, 3) := by decide +kernel
theorem dX2_brokenWith_27 : decode cX2_brokenWith 27 = .ok (.iload 4, 2) := by decide +kernel
theorem dX2_brokenWith_29 : decode cX2_brokenWith 29 = .ok (.iload 5, 2) := by decide +kernel
theorem dX2_brokenWith_31 : decode cX2_brokenWith 31 = .ok (.ishr, 1) := by decide +kernel
theorem dX2_brokenWith_32 : decode cX2_brokenWith 32 = .ok (.iconst 1, 1) := by decide +kernel
theorem dX2_brokenWith_33 : decode cX2_brokenWith 33 = .ok (.iand, 1) := by decide +kernel
theorem dX2_brokenWith_34 : decode cX2_brokenWith 34 = .ok (.iconst 1, 1) := by decide +kernel
theorem dX2_brokenWith_35 : decode cX2_brokenWith 35 = .ok (.if_icmp .ne 13, 3) := by decide +kernel
theorem dX2_brokenWith_38 : decode cX2_brokenWith 38 = .ok (.iload_n 2, 1) := by decide +kernel
theorem dX2_brokenWith_39 : decode cX2_brokenWith 39 = .ok (.aload_n 0, 1) := by decide +kernel
theorem dX2_brokenWith_40 : decode cX2_brokenWith 40 = .ok (.getfield 52, 3) := by decide +kernel
theorem dX2_brokenWith_43 : decode cX2_brokenWith 43 = .ok (.iload 5, 2) := by decide +kernel
theorem dX2_brokenWith_45 : decode cX2_brokenWith 45 = .ok (.iaload, 1) := by decide +kernel
theorem dX2_brokenWith_46 : decode cX2_brokenWith 46 = .ok (.ior, 1) := by decide +kernel
theorem dX2_brokenWith_47 : decode cX2_brokenWith 47 = .ok (.istore_n 2, 1) := by decide +kernel
theorem dX2_brokenWith_48 : decode cX2_brokenWith 48 = .ok (.iinc 5 1, 3) := by decide +kernel
theorem dX2_brokenWith_51 : decode cX2_brokenWith 51 = .ok (.goto (-33), 3) := by decide +kernel
theorem dX2_brokenWith_54 : decode cX2_brokenWith 54 = .ok (.iinc 3 1, 3) := by decide +kernel
theorem dX2_brokenWith_57 : decode cX2_brokenWith 57 = .ok (.goto (-53), 3) := by decide +kernel
theorem dX2_brokenWith_60 : decode cX2_brokenWith 60 = .ok (.iload_n 2, 1) := by decide +kernel
theorem dX2_brokenWith_61 : decode cX2_brokenWith 61 = .ok (.ireturn, 1) := by decide +kernel
theorem dX2_chainOf_0 : decode cX2_chainOf 0 = .ok (.iconst 1, 1) := by decide +kernel
theorem dX2_chainOf_1 : decode cX2_chainOf 1 = .ok (.iload_n 1, 1) := by decide +kernel
theorem dX2_chainOf_2 : decode cX2_chainOf 2 = .ok (.ishl, 1) := by decide +kernel
theorem dX2_chainOf_3 : decode cX2_chainOf 3 = .ok (.aload_n 0, 1) := by decide +kernel
theorem dX2_chainOf_4 : decode cX2_chainOf 4 = .ok (.iconst 1, 1) := by decide +kernel
theorem dX2_chainOf_5 : decode cX2_chainOf 5 = .ok (.iload_n 1, 1) := by decide +kernel
theorem dX2_chainOf_6 : decode cX2_chainOf 6 = .ok (.ishl, 1) := by decide +kernel
theorem dX2_chainOf_7 : decode cX2_chainOf 7 = .ok (.invokevirtual 89, 3) := by decide +kernel
theorem dX2_chainOf_10 : decode cX2_chainOf 10 = .ok (.ior, 1) := by decide +kernel
theorem dX2_chainOf_11 : decode cX2_chainOf 11 = .ok (.ireturn, 1) := by decide +kernel
theorem dX2_ringBits_0 : decode cX2_ringBits 0 = .ok (.iconst 0, 1) := by decide +kernel
theorem dX2_ringBits_1 : decode cX2_ringBits 1 = .ok (.istore_n 1, 1) := by decide +kernel
theorem dX2_ringBits_2 : decode cX2_ringBits 2 = .ok (.iconst 0, 1) := by decide +kernel
theorem dX2_ringBits_3 : decode cX2_ringBits 3 = .ok (.istore_n 2, 1) := by decide +kernel
theorem dX2_ringBits_4 : decode cX2_ringBits 4 = .ok (.iload_n 2, 1) := by decide +kernel
theorem dX2_ringBits_5 : decode cX2_ringBits 5 = .ok (.aload_n 0, 1) := by decide +kernel
theorem dX2_ringBits_6 : decode cX2_ringBits 6 = .ok (.getfield 30, 3) := by decide +kernel
theorem dX2_ringBits_9 : decode cX2_ringBits 9 = .ok (.if_icmp .ge 23, 3) := by decide +kernel
theorem dX2_ringBits_12 : decode cX2_ringBits 12 = .ok (.iload_n 1, 1) := by decide +kernel
theorem dX2_ringBits_13 : decode cX2_ringBits 13 = .ok (.aload_n 0, 1) := by decide +kernel
theorem dX2_ringBits_14 : decode cX2_ringBits 14 = .ok (.iconst 1, 1) := by decide +kernel
theorem dX2_ringBits_15 : decode cX2_ringBits 15 = .ok (.iload_n 2, 1) := by decide +kernel
theorem dX2_ringBits_16 : decode cX2_ringBits 16 = .ok (.ishl, 1) := by decide +kernel
theorem dX2_ringBits_17 : decode cX2_ringBits 17 = .ok (.invokevirtual 89, 3) := by decide +kernel
theorem dX2_ringBits_20 : decode cX2_ringBits 20 = .ok (.iconst 1, 1) := by decide +kernel
theorem dX2_ringBits_21 : decode cX2_ringBits 21 = .ok (.iload_n 2, 1) := by decide +kernel
theorem dX2_ringBits_22 : decode cX2_ringBits 22 = .ok (.ishl, 1) := by decide +kernel
theorem dX2_ringBits_23 : decode cX2_ringBits 23 = .ok (.iand, 1) := by decide +kernel
theorem dX2_ringBits_24 : decode cX2_ringBits 24 = .ok (.ior, 1) := by decide +kernel
theorem dX2_ringBits_25 : decode cX2_ringBits 25 = .ok (.istore_n 1, 1) := by decide +kernel
theorem dX2_ringBits_26 : decode cX2_ringBits 26 = .ok (.iinc 2 1, 3) := by decide +kernel
theorem dX2_ringBits_29 : decode cX2_ringBits 29 = .ok (.goto (-25), 3) := by decide +kernel
theorem dX2_ringBits_32 : decode cX2_ringBits 32 = .ok (.iload_n 1, 1) := by decide +kernel
theorem dX2_ringBits_33 : decode cX2_ringBits 33 = .ok (.ireturn, 1) := by decide +kernel
theorem dX2_rootBits_0 : decode cX2_rootBits 0 = .ok (.iconst 1, 1) := by decide +kernel
theorem dX2_rootBits_1 : decode cX2_rootBits 1 = .ok (.aload_n 0, 1) := by decide +kernel
theorem dX2_rootBits_2 : decode cX2_rootBits 2 = .ok (.getfield 30, 3) := by decide +kernel
theorem dX2_rootBits_5 : decode cX2_rootBits 5 = .ok (.ishl, 1) := by decide +kernel
theorem dX2_rootBits_6 : decode cX2_rootBits 6 = .ok (.iconst 1, 1) := by decide +kernel
theorem dX2_rootBits_7 : decode cX2_rootBits 7 = .ok (.isub, 1) := by decide +kernel
theorem dX2_rootBits_8 : decode cX2_rootBits 8 = .ok (.istore_n 1, 1) := by decide +kernel
theorem dX2_rootBits_9 : decode cX2_rootBits 9 = .ok (.iload_n 1, 1) := by decide +kernel
theorem dX2_rootBits_10 : decode cX2_rootBits 10 = .ok (.istore_n 2, 1) := by decide +kernel
theorem dX2_rootBits_11 : decode cX2_rootBits 11 = .ok (.iconst 0, 1) := by decide +kernel
theorem dX2_rootBits_12 : decode cX2_rootBits 12 = .ok (.istore_n 3, 1) := by decide +kernel
theorem dX2_rootBits_13 : decode cX2_rootBits 13 = .ok (.iload_n 3, 1) := by decide +kernel
theorem dX2_rootBits_14 : decode cX2_rootBits 14 = .ok (.iload_n 1, 1) := by decide +kernel
theorem dX2_rootBits_15 : decode cX2_rootBits 15 = .ok (.if_icmp .gt 33, 3) := by decide +kernel
theorem dX2_rootBits_18 : decode cX2_rootBits 18 = .ok (.iload_n 3, 1) := by decide +kernel
theorem dX2_rootBits_19 : decode cX2_rootBits 19 = .ok (.invokestatic 92, 3) := by decide +kernel
theorem dX2_rootBits_22 : decode cX2_rootBits 22 = .ok (.iload_n 2, 1) := by decide +kernel
theorem dX2_rootBits_23 : decode cX2_rootBits 23 = .ok (.invokestatic 92, 3) := by decide +kernel
theorem dX2_rootBits_26 : decode cX2_rootBits 26 = .ok (.if_icmp .ge 16, 3) := by decide +kernel
theorem dX2_rootBits_29 : decode cX2_rootBits 29 = .ok (.iload_n 3, 1) := by decide +kernel
theorem dX2_rootBits_30 : decode cX2_rootBits 30 = .ok (.aload_n 0, 1) := by decide +kernel
theorem dX2_rootBits_31 : decode cX2_rootBits 31 = .ok (.iload_n 3, 1) := by decide +kernel
theorem dX2_rootBits_32 : decode cX2_rootBits 32 = .ok (.invokevirtual 89, 3) := by decide +kernel
theorem dX2_rootBits_35 : decode cX2_rootBits 35 = .ok (.ior, 1) := by decide +kernel
theorem dX2_rootBits_36 : decode cX2_rootBits 36 = .ok (.iload_n 1, 1) := by decide +kernel
theorem dX2_rootBits_37 : decode cX2_rootBits 37 = .ok (.if_icmp .ne 5, 3) := by decide +kernel
theorem dX2_rootBits_40 : decode cX2_rootBits 40 = .ok (.iload_n 3, 1) := by decide +kernel
theorem dX2_rootBits_41 : decode cX2_rootBits 41 = .ok (.istore_n 2, 1) := by decide +kernel
theorem dX2_rootBits_42 : decode cX2_rootBits 42 = .ok (.iinc 3 1, 3) := by decide +kernel
theorem dX2_rootBits_45 : decode cX2_rootBits 45 = .ok (.goto (-32), 3) := by decide +kernel
theorem dX2_rootBits_48 : decode cX2_rootBits 48 = .ok (.iload_n 2, 1) := by decide +kernel
theorem dX2_rootBits_49 : decode cX2_rootBits 49 = .ok (.ireturn, 1) := by decide +kernel
theorem dX3_init_0 : decode cX3_init 0 = .ok (.aload_n 0, 1) := by decide +kernel
theorem dX3_init_1 : decode cX3_init 1 = .ok (.invokespecial 3, 3) := by decide +kernel
theorem dX3_init_4 : decode cX3_init 4 = .ok (.aload_n 0, 1) := by decide +kernel
theorem dX3_init_5 : decode cX3_init 5 = .ok (.bipush 8, 2) := by decide +kernel
theorem dX3_init_7 : decode cX3_init 7 = .ok (.newarray .int, 2) := by decide +kernel
theorem dX3_init_9 : decode cX3_init 9 = .ok (.putfield 9, 3) := by decide +kernel
theorem dX3_init_12 : decode cX3_init 12 = .ok (.aload_n 0, 1) := by decide +kernel
theorem dX3_init_13 : decode cX3_init 13 = .ok (.iconst 0, 1) := by decide +kernel
theorem dX3_init_14 : decode cX3_init 14 = .ok (.putfield 15, 3) := by decide +kernel
theorem dX3_init_17 : decode cX3_init 17 = .ok (.aload_n 0, 1) := by decide +kernel
theorem dX3_init_18 : decode cX3_init 18 = .ok (.iconst 0, 1) := by decide +kernel
theorem dX3_init_19 : decode cX3_init 19 = .ok (.putfield 19, 3) := by decide +kernel
theorem dX3_init_22 : decode cX3_init 22 = .ok (.aload_n 0, 1) := by decide +kernel
theorem dX3_init_23 : decode cX3_init 23 = .ok (.aload_n 1, 1) := by decide +kernel
theorem dX3_init_24 : decode cX3_init 24 = .ok (.putfield 23, 3) := by decide +kernel
theorem dX3_init_27 : decode cX3_init 27 = .ok (.aload_n 0, 1) := by decide +kernel
theorem dX3_init_28 : decode cX3_init 28 = .ok (.aload_n 2, 1) := by decide +kernel
theorem dX3_init_29 : decode cX3_init 29 = .ok (.putfield 27, 3) := by decide +kernel
theorem dX3_init_32 : decode cX3_init 32 = .ok (.return_, 1) := by decide +kernel
theorem dX3_readWhole_0 : decode cX3_readWhole 0 = .ok (.aload_n 0, 1) := by decide +kernel
theorem dX3_readWhole_1 : decode cX3_readWhole 1 = .ok (.getfield 27, 3) := by decide +kernel
theorem dX3_readWhole_4 : decode cX3_readWhole 4 = .ok (.invokevirtual 31, 3) := by decide +kernel
theorem dX3_readWhole_7 : decode cX3_readWhole 7 = .ok (.aload_n 0, 1) := by decide +kernel
theorem dX3_readWhole_8 : decode cX3_readWhole 8 = .ok (.iconst 0, 1) := by decide +kernel
theorem dX3_readWhole_9 : decode cX3_readWhole 9 = .ok (.putfield 19, 3) := by decide +kernel
theorem dX3_readWhole_12 : decode cX3_readWhole 12 = .ok (.aload_n 0, 1) := by decide +kernel
theorem dX3_readWhole_13 : decode cX3_readWhole 13 = .ok (.getfield 23, 3) := by decide +kernel
theorem dX3_readWhole_16 : decode cX3_readWhole 16 = .ok (.sipush 900, 3) := by decide +kernel
theorem dX3_readWhole_19 : decode cX3_readWhole 19 = .ok (.invokevirtual 36, 3) := by decide +kernel
theorem dX3_readWhole_22 : decode cX3_readWhole 22 = .ok (.iconst 1, 1) := by decide +kernel
theorem dX3_readWhole_23 : decode cX3_readWhole 23 = .ok (.istore_n 1, 1) := by decide +kernel
theorem dX3_readWhole_24 : decode cX3_readWhole 24 = .ok (.aload_n 0, 1) := by decide +kernel
theorem dX3_readWhole_25 : decode cX3_readWhole 25 = .ok (.iconst 0, 1) := by decide +kernel
theorem dX3_readWhole_26 : decode cX3_readWhole 26 = .ok (.putfield 15, 3) := by decide +kernel
theorem dX3_readWhole_29 : decode cX3_readWhole 29 = .ok (.aload_n 0, 1) := by decide +kernel
theorem dX3_readWhole_30 : decode cX3_readWhole 30 = .ok (.getfield 15, 3) := by decide +kernel
theorem dX3_readWhole_33 : decode cX3_readWhole 33 = .ok (.sipush 940, 3) := by decide +kernel
theorem dX3_readWhole_36 : decode cX3_readWhole 36 = .ok (.if_icmp .ge 173, 3) := by decide +kernel
theorem dX3_readWhole_39 : decode cX3_readWhole 39 = .ok (.iload_n 1, 1) := by decide +kernel
theorem dX3_readWhole_40 : decode cX3_readWhole 40 = .ok (.ifCond .eq 169, 3) := by decide +kernel
theorem dX3_readWhole_43 : decode cX3_readWhole 43 = .ok (.aload_n 0, 1) := by decide +kernel
theorem dX3_readWhole_44 : decode cX3_readWhole 44 = .ok (.getfield 23, 3) := by decide +kernel
theorem dX3_readWhole_47 : decode cX3_readWhole 47 = .ok (.getfield 42, 3) := by decide +kernel
theorem dX3_readWhole_50 : decode cX3_readWhole 50 = .ok (.ifCond .eq 159, 3) := by decide +kernel
theorem dX3_readWhole_53 : decode cX3_readWhole 53 = .ok (.aload_n 0, 1) := by decide +kernel
theorem dX3_readWhole_54 : decode cX3_readWhole 54 = .ok (.getfield 23, 3) := by decide +kernel
theorem dX3_readWhole_57 : decode cX3_readWhole 57 = .ok (.getfield 42, 3) := by decide +kernel
theorem dX3_readWhole_60 : decode cX3_readWhole 60 = .ok (.tableswitch 120 100 109 #[56, 64, 72, 80, 88, 96, 104, 120, 120, 112], 56) := by decide +kernel
theorem dX3_readWhole_116 : decode cX3_readWhole 116 = .ok (.aload_n 0, 1) := by decide +kernel
theorem dX3_readWhole_117 : decode cX3_readWhole 117 = .ok (.invokevirtual 45, 3) := by decide +kernel
theorem dX3_readWhole_120 : decode cX3_readWhole 120 = .ok (.istore_n 1, 1) := by decide +kernel
theorem dX3_readWhole_121 : decode cX3_readWhole 121 = .ok (.goto 68, 3) := by decide +kernel
theorem dX3_readWhole_124 : decode cX3_readWhole 124 = .ok (.aload_n 0, 1) := by decide +kernel
theorem dX3_readWhole_125 : decode cX3_readWhole 125 = .ok (.invokevirtual 49, 3) := by decide +kernel
theorem dX3_readWhole_128 : decode cX3_readWhole 128 = .ok (.istore_n 1, 1) := by decide +kernel
theorem dX3_readWhole_129 : decode cX3_readWhole 129 = .ok (.goto 60, 3) := by decide +kernel
theorem dX3_readWhole_132 : decode cX3_readWhole 132 = .ok (.aload_n 0, 1) := by decide +kernel
theorem dX3_readWhole_133 : decode cX3_readWhole 133 = .ok (.invokevirtual 52, 3) := by decide +kernel
theorem dX3_readWhole_136 : decode cX3_readWhole 136 = .ok (.istore_n 1, 1) := by decide +kernel
theorem dX3_readWhole_137 : decode cX3_readWhole 137 = .ok (.goto 52, 3) := by decide +kernel
theorem dX3_readWhole_140 : decode cX3_readWhole 140 = .ok (.aload_n 0, 1) := by decide +kernel
theorem dX3_readWhole_141 : decode cX3_readWhole 141 = .ok (.invokevirtual 55, 3) := by decide +kernel
theorem dX3_readWhole_144 : decode cX3_readWhole 144 = .ok (.istore_n 1, 1) := by decide +kernel
theorem dX3_readWhole_145 : decode cX3_readWhole 145 = .ok (.goto 44, 3) := by decide +kernel
theorem dX3_readWhole_148 : decode cX3_readWhole 148 = .ok (.aload_n 0, 1) := by decide +kernel
theorem dX3_readWhole_149 : decode cX3_readWhole 149 = .ok (.invokevirtual 58, 3) := by decide +kernel
theorem dX3_readWhole_152 : decode cX3_readWhole 152 = .ok (.istore_n 1, 1) := by decide +kernel
theorem dX3_readWhole_153 : decode cX3_readWhole 153 = .ok (.goto 36, 3) := by decide +kernel
theorem dX3_readWhole_156 : decode cX3_readWhole 156 = .ok (.aload_n 0, 1) := by decide +kernel
theorem dX3_readWhole_157 : decode cX3_readWhole 157 = .ok (.invokevirtual 61, 3) := by decide +kernel
theorem dX3_readWhole_160 : decode cX3_readWhole 160 = .ok (.istore_n 1, 1) := by decide +kernel
theorem dX3_readWhole_161 : decode cX3_readWhole 161 = .ok (.goto 28, 3) := by decide +kernel
theorem dX3_readWhole_164 : decode cX3_readWhole 164 = .ok (.aload_n 0, 1) := by decide +kernel
theorem dX3_readWhole_165 : decode cX3_readWhole 165 = .ok (.invokevirtual 64, 3) := by decide +kernel
theorem dX3_readWhole_168 : decode cX3_readWhole 168 = .ok (.istore_n 1, 1) := by decide +kernel
theorem dX3_readWhole_169 : decode cX3_readWhole 169 = .ok (.goto 20, 3) := by decide +kernel
theorem dX3_readWhole_172 : decode cX3_readWhole 172 = .ok (.aload_n 0, 1) := by decide +kernel
theorem dX3_readWhole_173 : decode cX3_readWhole 173 = .ok (.invokevirtual 67, 3) := by decide +kernel
theorem dX3_readWhole_176 : decode cX3_readWhole 176 = .ok (.istore_n 1, 1) := by decide +kernel
theorem dX3_readWhole_177 : decode cX3_readWhole 177 = .ok (.goto 12, 3) := by decide +kernel
theorem dX3_readWhole_180 : decode cX3_readWhole 180 = .ok (.aload_n 0, 1) := by decide +kernel
theorem dX3_readWhole_181 : decode cX3_readWhole 181 = .ok (.getfield 23, 3) := by decide +kernel
theorem dX3_readWhole_184 : decode cX3_readWhole 184 = .ok (.iconst 1, 1) := by decide +kernel
theorem dX3_readWhole_185 : decode cX3_readWhole 185 = .ok (.invokevirtual 70, 3) := by decide +kernel
theorem dX3_readWhole_188 : decode cX3_readWhole 188 = .ok (.istore_n 1, 1) := by decide +kernel
theorem dX3_readWhole_189 : decode cX3_readWhole 189 = .ok (.aload_n 0, 1) := by decide +kernel
theorem dX3_readWhole_190 : decode cX3_readWhole 190 = .ok (.getfield 23, 3) := by decide +kernel
theorem dX3_readWhole_193 : decode cX3_readWhole 193 = .ok (.invokevirtual 74, 3) := by decide +kernel
theorem dX3_readWhole_196 : decode cX3_readWhole 196 = .ok (.aload_n 0, 1) := by decide +kernel
theorem dX3_readWhole_197 : decode cX3_readWhole 197 = .ok (.dup, 1) := by decide +kernel
theorem dX3_readWhole_198 : decode cX3_readWhole 198 = .ok (.getfield 15, 3) := by decide +kernel
theorem dX3_readWhole_201 : decode cX3_readWhole 201 = .ok (.iconst 1, 1) := by decide +kernel
theorem dX3_readWhole_202 : decode cX3_readWhole 202 = .ok (.iadd, 1) := by decide +kernel
theorem dX3_readWhole_203 : decode cX3_readWhole 203 = .ok (.putfield 15, 3) := by decide +kernel
theorem dX3_readWhole_206 : decode cX3_readWhole 206 = .ok (.goto (-177), 3) := by decide +kernel
theorem dX3_readWhole_209 : decode cX3_readWhole 209 = .ok (.iload_n 1, 1) := by decide +kernel
theorem dX3_readWhole_210 : decode cX3_readWhole 210 = .ok (.ireturn, 1) := by decide +kernel
theorem dX3_readHours_0 : decode cX3_readHours 0 = .ok (.aload_n 0, 1) := by decide +kernel
theorem dX3_readHours_1 : decode cX3_readHours 1 = .ok (.getfield 19, 3) := by decide +kernel
theorem dX3_readHours_4 : decode cX3_readHours 4 = .ok (.ifCond .eq 12, 3) := by decide +kernel
theorem dX3_readHours_7 : decode cX3_readHours 7 = .ok (.aload_n 0, 1) := by decide +kernel
theorem dX3_readHours_8 : decode cX3_readHours 8 = .ok (.getfield 23, 3) := by decide +kernel
theorem dX3_readHours_11 : decode cX3_readHours 11 = .ok (.iconst 3, 1) := by decide +kernel
theorem dX3_readHours_12 : decode cX3_readHours 12 = .ok (.invokevirtual 70, 3) := by decide +kernel
theorem dX3_readHours_15 : decode cX3_readHours 15 = .ok (.ireturn, 1) := by decide +kernel
theorem dX3_readHours_16 : decode cX3_readHours 16 = .ok (.aload_n 0, 1) := by decide +kernel
theorem dX3_readHours_17 : decode cX3_readHours 17 = .ok (.iconst 1, 1) := by decide +kernel
theorem dX3_readHours_18 : decode cX3_readHours 18 = .ok (.putfield 19, 3) := by decide +kernel
theorem dX3_readHours_21 : decode cX3_readHours 21 = .ok (.aload_n 0, 1) := by decide +kernel
theorem dX3_readHours_22 : decode cX3_readHours 22 = .ok (.getfield 23, 3) := by decide +kernel
theorem dX3_readHours_25 : decode cX3_readHours 25 = .ok (.iconst 4, 1) := by decide +kernel
theorem dX3_readHours_26 : decode cX3_readHours 26 = .ok (.bipush 24, 2) := by decide +kernel
theorem dX3_readHours_28 : decode cX3_readHours 28 = .ok (.invokevirtual 77, 3) := by decide +kernel
theorem dX3_readHours_31 : decode cX3_readHours 31 = .ok (.ifCond .ne 5, 3) := by decide +kernel
theorem dX3_readHours_34 : decode cX3_readHours 34 = .ok (.iconst 0, 1) := by decide +kernel
theorem dX3_readHours_35 : decode cX3_readHours 35 = .ok (.ireturn, 1) := by decide +kernel
theorem dX3_readHours_36 : decode cX3_readHours 36 = .ok (.aload_n 0, 1) := by decide +kernel
theorem dX3_readHours_37 : decode cX3_readHours 37 = .ok (.getfield 27, 3) := by decide +kernel
theorem dX3_readHours_40 : decode cX3_readHours 40 = .ok (.aload_n 0, 1) := by decide +kernel
theorem dX3_readHours_41 : decode cX3_readHours 41 = .ok (.getfield 23, 3) := by decide +kernel
theorem dX3_readHours_44 : decode cX3_readHours 44 = .ok (.getfield 81, 3) := by decide +kernel
theorem dX3_readHours_47 : decode cX3_readHours 47 = .ok (.putfield 84, 3) := by decide +kernel
theorem dX3_readHours_50 : decode cX3_readHours 50 = .ok (.aload_n 0, 1) := by decide +kernel
theorem dX3_readHours_51 : decode cX3_readHours 51 = .ok (.getfield 23, 3) := by decide +kernel
theorem dX3_readHours_54 : decode cX3_readHours 54 = .ok (.bipush 59, 2) := by decide +kernel
theorem dX3_readHours_56 : decode cX3_readHours 56 = .ok (.invokevirtual 87, 3) := by decide +kernel
theorem dX3_readHours_59 : decode cX3_readHours 59 = .ok (.ireturn, 1) := by decide +kernel
theorem dX3_readPlace_0 : decode cX3_readPlace 0 = .ok (.aload_n 0, 1) := by decide +kernel
theorem dX3_readPlace_1 : decode cX3_readPlace 1 = .ok (.getfield 27, 3) := by decide +kernel
theorem dX3_readPlace_4 : decode cX3_readPlace 4 = .ok (.getfield 90, 3) := by decide +kernel
theorem dX3_readPlace_7 : decode cX3_readPlace 7 = .ok (.bipush 8, 2) := by decide +kernel
theorem dX3_readPlace_9 : decode cX3_readPlace 9 = .ok (.if_icmp .lt 12, 3) := by decide +kernel
theorem dX3_readPlace_12 : decode cX3_readPlace 12 = .ok (.aload_n 0, 1) := by decide +kernel
theorem dX3_readPlace_13 : decode cX3_readPlace 13 = .ok (.getfield 23, 3) := by decide +kernel
theorem dX3_readPlace_16 : decode cX3_readPlace 16 = .ok (.iconst 4, 1) := by decide +kernel
theorem dX3_readPlace_17 : decode cX3_readPlace 17 = .ok (.invokevirtual 70, 3) := by decide +kernel
theorem dX3_readPlace_20 : decode cX3_readPlace 20 = .ok (.ireturn, 1) := by decide +kernel
theorem dX3_readPlace_21 : decode cX3_readPlace 21 = .ok (.aload_n 0, 1) := by decide +kernel
theorem dX3_readPlace_22 : decode cX3_readPlace 22 = .ok (.getfield 23, 3) := by decide +kernel
theorem dX3_readPlace_25 : decode cX3_readPlace 25 = .ok (.aload_n 0, 1) := by decide +kernel
theorem dX3_readPlace_26 : decode cX3_readPlace 26 = .ok (.getfield 27, 3) := by decide +kernel
theorem dX3_readPlace_29 : decode cX3_readPlace 29 = .ok (.invokevirtual 93, 3) := by decide +kernel
theorem dX3_readPlace_32 : decode cX3_readPlace 32 = .ok (.ifCond .ne 5, 3) := by decide +kernel
theorem dX3_readPlace_35 : decode cX3_readPlace 35 = .ok (.iconst 0, 1) := by decide +kernel
theorem dX3_readPlace_36 : decode cX3_readPlace 36 = .ok (.ireturn, 1) := by decide +kernel
theorem dX3_readPlace_37 : decode cX3_readPlace 37 = .ok (.aload_n 0, 1) := by decide +kernel
theorem dX3_readPlace_38 : decode cX3_readPlace 38 = .ok (.getfield 27, 3) := by decide +kernel
theorem dX3_readPlace_41 : decode cX3_readPlace 41 = .ok (.aload_n 0, 1) := by decide +kernel
theorem dX3_readPlace_42 : decode cX3_readPlace 42 = .ok (.getfield 23, 3) := by decide +kernel
theorem dX3_readPlace_45 : decode cX3_readPlace 45 = .ok (.getfield 97, 3) := by decide +kernel
theorem dX3_readPlace_48 : decode cX3_readPlace 48 = .ok (.invokevirtual 101, 3) := by decide +kernel
theorem dX3_readPlace_51 : decode cX3_readPlace 51 = .ok (.aload_n 0, 1) := by decide +kernel
theorem dX3_readPlace_52 : decode cX3_readPlace 52 = .ok (.getfield 23, 3) := by decide +kernel
theorem dX3_readPlace_55 : decode cX3_readPlace 55 = .ok (.bipush 59, 2) := by decide +kernel
theorem dX3_readPlace_57 : decode cX3_readPlace 57 = .ok (.invokevirtual 87, 3) := by decide +kernel
theorem dX3_readPlace_60 : decode cX3_readPlace 60 = .ok (.ireturn, 1) := by decide +kernel
theorem dX3_readDeed_0 : decode cX3_readDeed 0 = .ok (.aload_n 0, 1) := by decide +kernel
theorem dX3_readDeed_1 : decode cX3_readDeed 1 = .ok (.getfield 27, 3) := by decide +kernel
theorem dX3_readDeed_4 : decode cX3_readDeed 4 = .ok (.getfield 105, 3) := by decide +kernel
theorem dX3_readDeed_7 : decode cX3_readDeed 7 = .ok (.bipush 6, 2) := by decide +kernel
theorem dX3_readDeed_9 : decode cX3_readDeed 9 = .ok (.if_icmp .lt 12, 3) := by decide +kernel
theorem dX3_readDeed_12 : decode cX3_readDeed 12 = .ok (.aload_n 0, 1) := by decide +kernel
theorem dX3_readDeed_13 : decode cX3_readDeed 13 = .ok (.getfield 23, 3) := by decide +kernel
theorem dX3_readDeed_16 : decode cX3_readDeed 16 = .ok (.iconst 4, 1) := by decide +kernel
theorem dX3_readDeed_17 : decode cX3_readDeed 17 = .ok (.invokevirtual 70, 3) := by decide +kernel
theorem dX3_readDeed_20 : decode cX3_readDeed 20 = .ok (.ireturn, 1) := by decide +kernel
theorem dX3_readDeed_21 : decode cX3_readDeed 21 = .ok (.aload_n 0, 1) := by decide +kernel
theorem dX3_readDeed_22 : decode cX3_readDeed 22 = .ok (.getfield 23, 3) := by decide +kernel
theorem dX3_readDeed_25 : decode cX3_readDeed 25 = .ok (.aload_n 0, 1) := by decide +kernel
theorem dX3_readDeed_26 : decode cX3_readDeed 26 = .ok (.getfield 27, 3) := by decide +kernel
theorem dX3_readDeed_29 : decode cX3_readDeed 29 = .ok (.invokevirtual 93, 3) := by decide +kernel
theorem dX3_readDeed_32 : decode cX3_readDeed 32 = .ok (.ifCond .ne 5, 3) := by decide +kernel
theorem dX3_readDeed_35 : decode cX3_readDeed 35 = .ok (.iconst 0, 1) := by decide +kernel
theorem dX3_readDeed_36 : decode cX3_readDeed 36 = .ok (.ireturn, 1) := by decide +kernel
theorem dX3_readDeed_37 : decode cX3_readDeed 37 = .ok (.aload_n 0, 1) := by decide +kernel
theorem dX3_readDeed_38 : decode cX3_readDeed 38 = .ok (.getfield 27, 3) := by decide +kernel
theorem dX3_readDeed_41 : decode cX3_readDeed 41 = .ok (.aload_n 0, 1) := by decide +kernel
theorem dX3_readDeed_42 : decode cX3_readDeed 42 = .ok (.getfield 23, 3) := by decide +kernel
theorem dX3_readDeed_45 : decode cX3_readDeed 45 = .ok (.getfield 97, 3) := by decide +kernel
theorem dX3_readDeed_48 : decode cX3_readDeed 48 = .ok (.invokevirtual 108, 3) := by decide +kernel
theorem dX3_readDeed_51 : decode cX3_readDeed 51 = .ok (.aload_n 0, 1) := by decide +kernel
theorem dX3_readDeed_52 : decode cX3_readDeed 52 = .ok (.getfield 23, 3) := by decide +kernel
theorem dX3_readDeed_55 : decode cX3_readDeed 55 = .ok (.bipush 59, 2) := by decide +kernel
theorem dX3_readDeed_57 : decode cX3_readDeed 57 = .ok (.invokevirtual 87, 3) := by decide +kernel
theorem dX3_readDeed_60 : decode cX3_readDeed 60 = .ok (.ireturn, 1) := by decide +kernel
theorem dX3_readWay_0 : decode cX3_readWay 0 = .ok (.aload_n 0, 1) := by decide +kernel
theorem dX3_readWay_1 : decode cX3_readWay 1 = .ok (.getfield 27, 3) := by decide +kernel
theorem dX3_readWay_4 : decode cX3_readWay 4 = .ok (.getfield 111, 3) := by decide +kernel
theorem dX3_readWay_7 : decode cX3_readWay 7 = .ok (.bipush 12, 2) := by decide +kernel
theorem dX3_readWay_9 : decode cX3_readWay 9 = .ok (.if_icmp .lt 12, 3) := by decide +kernel
theorem dX3_readWay_12 : decode cX3_readWay 12 = .ok (.aload_n 0, 1) := by decide +kernel
theorem dX3_readWay_13 : decode cX3_readWay 13 = .ok (.getfield 23, 3) := by decide +kernel
theorem dX3_readWay_16 : decode cX3_readWay 16 = .ok (.iconst 4, 1) := by decide +kernel
theorem dX3_readWay_17 : decode cX3_readWay 17 = .ok (.invokevirtual 70, 3) := by decide +kernel
theorem dX3_readWay_20 : decode cX3_readWay 20 = .ok (.ireturn, 1) := by decide +kernel
theorem dX3_readWay_21 : decode cX3_readWay 21 = .ok (.aload_n 0, 1) := by decide +kernel
theorem dX3_readWay_22 : decode cX3_readWay 22 = .ok (.getfield 23, 3) := by decide +kernel
theorem dX3_readWay_25 : decode cX3_readWay 25 = .ok (.aload_n 0, 1) := by decide +kernel
theorem dX3_readWay_26 : decode cX3_readWay 26 = .ok (.getfield 27, 3) := by decide +kernel
theorem dX3_readWay_29 : decode cX3_readWay 29 = .ok (.iconst 0, 1) := by decide +kernel
theorem dX3_readWay_30 : decode cX3_readWay 30 = .ok (.invokevirtual 114, 3) := by decide +kernel
theorem dX3_readWay_33 : decode cX3_readWay 33 = .ok (.ifCond .ne 5, 3) := by decide +kernel
theorem dX3_readWay_36 : decode cX3_readWay 36 = .ok (.iconst 0, 1) := by decide +kernel
theorem dX3_readWay_37 : decode cX3_readWay 37 = .ok (.ireturn, 1) := by decide +kernel
theorem dX3_readWay_38 : decode cX3_readWay 38 = .ok (.aload_n 0, 1) := by decide +kernel
theorem dX3_readWay_39 : decode cX3_readWay 39 = .ok (.getfield 23, 3) := by decide +kernel
theorem dX3_readWay_42 : decode cX3_readWay 42 = .ok (.getfield 118, 3) := by decide +kernel
theorem dX3_readWay_45 : decode cX3_readWay 45 = .ok (.istore_n 1, 1) := by decide +kernel
theorem dX3_readWay_46 : decode cX3_readWay 46 = .ok (.aload_n 0, 1) := by decide +kernel
theorem dX3_readWay_47 : decode cX3_readWay 47 = .ok (.getfield 23, 3) := by decide +kernel
theorem dX3_readWay_50 : decode cX3_readWay 50 = .ok (.aload_n 0, 1) := by decide +kernel
theorem dX3_readWay_51 : decode cX3_readWay 51 = .ok (.getfield 27, 3) := by decide +kernel
theorem dX3_readWay_54 : decode cX3_readWay 54 = .ok (.iconst 0, 1) := by decide +kernel
theorem dX3_readWay_55 : decode cX3_readWay 55 = .ok (.invokevirtual 114, 3) := by decide +kernel
theorem dX3_readWay_58 : decode cX3_readWay 58 = .ok (.ifCond .ne 5, 3) := by decide +kernel
theorem dX3_readWay_61 : decode cX3_readWay 61 = .ok (.iconst 0, 1) := by decide +kernel
theorem dX3_readWay_62 : decode cX3_readWay 62 = .ok (.ireturn, 1) := by decide +kernel
theorem dX3_readWay_63 : decode cX3_readWay 63 = .ok (.aload_n 0, 1) := by decide +kernel
theorem dX3_readWay_64 : decode cX3_readWay 64 = .ok (.getfield 23, 3) := by decide +kernel
theorem dX3_readWay_67 : decode cX3_readWay 67 = .ok (.getfield 118, 3) := by decide +kernel
theorem dX3_readWay_70 : decode cX3_readWay 70 = .ok (.istore_n 2, 1) := by decide +kernel
theorem dX3_readWay_71 : decode cX3_readWay 71 = .ok (.iload_n 1, 1) := by decide +kernel
theorem dX3_readWay_72 : decode cX3_readWay 72 = .ok (.iload_n 2, 1) := by decide +kernel
theorem dX3_readWay_73 : decode cX3_readWay 73 = .ok (.if_icmp .eq 15, 3) := by decide +kernel
theorem dX3_readWay_76 : decode cX3_readWay 76 = .ok (.aload_n 0, 1) := by decide +kernel
theorem dX3_readWay_77 : decode cX3_readWay 77 = .ok (.getfield 27, 3) := by decide +kernel
theorem dX3_readWay_80 : decode cX3_readWay 80 = .ok (.iload_n 1, 1) := by decide +kernel
theorem dX3_readWay_81 : decode cX3_readWay 81 = .ok (.iload_n 2, 1) := by decide +kernel
theorem dX3_readWay_82 : decode cX3_readWay 82 = .ok (.invokevirtual 121, 3) := by decide +kernel
theorem dX3_readWay_85 : decode cX3_readWay 85 = .ok (.ifCond .eq 12, 3) := by decide +kernel
theorem dX3_readWay_88 : decode cX3_readWay 88 = .ok (.aload_n 0, 1) := by decide +kernel
theorem dX3_readWay_89 : decode cX3_readWay 89 = .ok (.getfield 23, 3) := by decide +kernel
theorem dX3_readWay_92 : decode cX3_readWay 92 = .ok (.iconst 3, 1) := by decide +kernel
theorem dX3_readWay_93 : decode cX3_readWay 93 = .ok (.invokevirtual 70, 3) := by decide +kernel
theorem dX3_readWay_96 : decode cX3_readWay 96 = .ok (.ireturn, 1) := by decide +kernel
theorem dX3_readWay_97 : decode cX3_readWay 97 = .ok (.aload_n 0, 1) := by decide +kernel
theorem dX3_readWay_98 : decode cX3_readWay 98 = .ok (.getfield 27, 3) := by decide +kernel
theorem dX3_readWay_101 : decode cX3_readWay 101 = .ok (.iload_n 1, 1) := by decide +kernel
theorem dX3_readWay_102 : decode cX3_readWay 102 = .ok (.iload_n 2, 1) := by decide +kernel
theorem dX3_readWay_103 : decode cX3_readWay 103 = .ok (.invokevirtual 124, 3) := by decide +kernel
theorem dX3_readWay_106 : decode cX3_readWay 106 = .ok (.aload_n 0, 1) := by decide +kernel
theorem dX3_readWay_107 : decode cX3_readWay 107 = .ok (.getfield 23, 3) := by decide +kernel
theorem dX3_readWay_110 : decode cX3_readWay 110 = .ok (.bipush 59, 2) := by decide +kernel
theorem dX3_readWay_112 : decode cX3_readWay 112 = .ok (.invokevirtual 87, 3) := by decide +kernel
theorem dX3_readWay_115 : decode cX3_readWay 115 = .ok (.ireturn, 1) := by decide +kernel
theorem dX3_readFrog_0 : decode cX3_readFrog 0 = .ok (.aload_n 0, 1) := by decide +kernel
theorem dX3_readFrog_1 : decode cX3_readFrog 1 = .ok (.getfield 27, 3) := by decide +kernel
theorem dX3_readFrog_4 : decode cX3_readFrog 4 = .ok (.getfield 128, 3) := by decide +kernel
theorem dX3_readFrog_7 : decode cX3_readFrog 7 = .ok (.bipush 6, 2) := by decide +kernel
theorem dX3_readFrog_9 : decode cX3_readFrog 9 = .ok (.if_icmp .lt 12, 3) := by decide +kernel
theorem dX3_readFrog_12 : decode cX3_readFrog 12 = .ok (.aload_n 0, 1) := by decide +kernel
theorem dX3_readFrog_13 : decode cX3_readFrog 13 = .ok (.getfield 23, 3) := by decide +kernel
theorem dX3_readFrog_16 : decode cX3_readFrog 16 = .ok (.iconst 4, 1) := by decide +kernel
theorem dX3_readFrog_17 : decode cX3_readFrog 17 = .ok (.invokevirtual 70, 3) := by decide +kernel
theorem dX3_readFrog_20 : decode cX3_readFrog 20 = .ok (.ireturn, 1) := by decide +kernel
theorem dX3_readFrog_21 : decode cX3_readFrog 21 = .ok (.aload_n 0, 1) := by decide +kernel
theorem dX3_readFrog_22 : decode cX3_readFrog 22 = .ok (.getfield 23, 3) := by decide +kernel
theorem dX3_readFrog_25 : decode cX3_readFrog 25 = .ok (.aload_n 0, 1) := by decide +kernel
theorem dX3_readFrog_26 : decode cX3_readFrog 26 = .ok (.getfield 27, 3) := by decide +kernel
theorem dX3_readFrog_29 : decode cX3_readFrog 29 = .ok (.iconst 0, 1) := by decide +kernel
theorem dX3_readFrog_30 : decode cX3_readFrog 30 = .ok (.invokevirtual 114, 3) := by decide +kernel
theorem dX3_readFrog_33 : decode cX3_readFrog 33 = .ok (.ifCond .ne 5, 3) := by decide +kernel
theorem dX3_readFrog_36 : decode cX3_readFrog 36 = .ok (.iconst 0, 1) := by decide +kernel
theorem dX3_readFrog_37 : decode cX3_readFrog 37 = .ok (.ireturn, 1) := by decide +kernel
theorem dX3_readFrog_38 : decode cX3_readFrog 38 = .ok (.aload_n 0, 1) := by decide +kernel
theorem dX3_readFrog_39 : decode cX3_readFrog 39 = .ok (.getfield 27, 3) := by decide +kernel
theorem dX3_readFrog_42 : decode cX3_readFrog 42 = .ok (.aload_n 0, 1) := by decide +kernel
theorem dX3_readFrog_43 : decode cX3_readFrog 43 = .ok (.getfield 23, 3) := by decide +kernel
theorem dX3_readFrog_46 : decode cX3_readFrog 46 = .ok (.getfield 118, 3) := by decide +kernel
theorem dX3_readFrog_49 : decode cX3_readFrog 49 = .ok (.invokevirtual 131, 3) := by decide +kernel
theorem dX3_readFrog_52 : decode cX3_readFrog 52 = .ok (.aload_n 0, 1) := by decide +kernel
theorem dX3_readFrog_53 : decode cX3_readFrog 53 = .ok (.getfield 23, 3) := by decide +kernel
theorem dX3_readFrog_56 : decode cX3_readFrog 56 = .ok (.bipush 59, 2) := by decide +kernel
theorem dX3_readFrog_58 : decode cX3_readFrog 58 = .ok (.invokevirtual 87, 3) := by decide +kernel
theorem dX3_readFrog_61 : decode cX3_readFrog 61 = .ok (.ireturn, 1) := by decide +kernel
theorem dX3_readPerson_0 : decode cX3_readPerson 0 = .ok (.aload_n 0, 1) := by decide +kernel
theorem dX3_readPerson_1 : decode cX3_readPerson 1 = .ok (.getfield 27, 3) := by decide +kernel
theorem dX3_readPerson_4 : decode cX3_readPerson 4 = .ok (.getfield 134, 3) := by decide +kernel
theorem dX3_readPerson_7 : decode cX3_readPerson 7 = .ok (.iconst 4, 1) := by decide +kernel
theorem dX3_readPerson_8 : decode cX3_readPerson 8 = .ok (.if_icmp .lt 12, 3) := by decide +kernel
theorem dX3_readPerson_11 : decode cX3_readPerson 11 = .ok (.aload_n 0, 1) := by decide +kernel
theorem dX3_readPerson_12 : decode cX3_readPerson 12 = .ok (.getfield 23, 3) := by decide +kernel
theorem dX3_readPerson_15 : decode cX3_readPerson 15 = .ok (.iconst 4, 1) := by decide +kernel
theorem dX3_readPerson_16 : decode cX3_readPerson 16 = .ok (.invokevirtual 70, 3) := by decide +kernel
theorem dX3_readPerson_19 : decode cX3_readPerson 19 = .ok (.ireturn, 1) := by decide +kernel
theorem dX3_readPerson_20 : decode cX3_readPerson 20 = .ok (.aload_n 0, 1) := by decide +kernel
theorem dX3_readPerson_21 : decode cX3_readPerson 21 = .ok (.getfield 23, 3) := by decide +kernel
theorem dX3_readPerson_24 : decode cX3_readPerson 24 = .ok (.aload_n 0, 1) := by decide +kernel
theorem dX3_readPerson_25 : decode cX3_readPerson 25 = .ok (.getfield 27, 3) := by decide +kernel
theorem dX3_readPerson_28 : decode cX3_readPerson 28 = .ok (.invokevirtual 93, 3) := by decide +kernel
theorem dX3_readPerson_31 : decode cX3_readPerson 31 = .ok (.ifCond .ne 5, 3) := by decide +kernel
theorem dX3_readPerson_34 : decode cX3_readPerson 34 = .ok (.iconst 0, 1) := by decide +kernel
theorem dX3_readPerson_35 : decode cX3_readPerson 35 = .ok (.ireturn, 1) := by decide +kernel
theorem dX3_readPerson_36 : decode cX3_readPerson 36 = .ok (.aload_n 0, 1) := by decide +kernel
theorem dX3_readPerson_37 : decode cX3_readPerson 37 = .ok (.getfield 23, 3) := by decide +kernel
theorem dX3_readPerson_40 : decode cX3_readPerson 40 = .ok (.getfield 97, 3) := by decide +kernel
theorem dX3_readPerson_43 : decode cX3_readPerson 43 = .ok (.lstore_n 1, 1) := by decide +kernel
theorem dX3_readPerson_44 : decode cX3_readPerson 44 = .ok (.aload_n 0, 1) := by decide +kernel
theorem dX3_readPerson_45 : decode cX3_readPerson 45 = .ok (.getfield 23, 3) := by decide +kernel
theorem dX3_readPerson_48 : decode cX3_readPerson 48 = .ok (.aload_n 0, 1) := by decide +kernel
theorem dX3_readPerson_49 : decode cX3_readPerson 49 = .ok (.getfield 27, 3) := by decide +kernel
theorem dX3_readPerson_52 : decode cX3_readPerson 52 = .ok (.iconst 0, 1) := by decide +kernel
theorem dX3_readPerson_53 : decode cX3_readPerson 53 = .ok (.invokevirtual 114, 3) := by decide +kernel
theorem dX3_readPerson_56 : decode cX3_readPerson 56 = .ok (.ifCond .ne 5, 3) := by decide +kernel
theorem dX3_readPerson_59 : decode cX3_readPerson 59 = .ok (.iconst 0, 1) := by decide +kernel
theorem dX3_readPerson_60 : decode cX3_readPerson 60 = .ok (.ireturn, 1) := by decide +kernel
theorem dX3_readPerson_61 : decode cX3_readPerson 61 = .ok (.aload_n 0, 1) := by decide +kernel
theorem dX3_readPerson_62 : decode cX3_readPerson 62 = .ok (.getfield 27, 3) := by decide +kernel
theorem dX3_readPerson_65 : decode cX3_readPerson 65 = .ok (.lload_n 1, 1) := by decide +kernel
theorem dX3_readPerson_66 : decode cX3_readPerson 66 = .ok (.aload_n 0, 1) := by decide +kernel
theorem dX3_readPerson_67 : decode cX3_readPerson 67 = .ok (.getfield 23, 3) := by decide +kernel
theorem dX3_readPerson_70 : decode cX3_readPerson 70 = .ok (.getfield 118, 3) := by decide +kernel
theorem dX3_readPerson_73 : decode cX3_readPerson 73 = .ok (.invokevirtual 137, 3) := by decide +kernel
theorem dX3_readPerson_76 : decode cX3_readPerson 76 = .ok (.aload_n 0, 1) := by decide +kernel
theorem dX3_readPerson_77 : decode cX3_readPerson 77 = .ok (.getfield 23, 3) := by decide +kernel
theorem dX3_readPerson_80 : decode cX3_readPerson 80 = .ok (.bipush 59, 2) := by decide +kernel
theorem dX3_readPerson_82 : decode cX3_readPerson 82 = .ok (.invokevirtual 87, 3) := by decide +kernel
theorem dX3_readPerson_85 : decode cX3_readPerson 85 = .ok (.ireturn, 1) := by decide +kernel
theorem dX3_readPromise_0 : decode cX3_readPromise 0 = .ok (.aload_n 0, 1) := by decide +kernel
theorem dX3_readPromise_1 : decode cX3_readPromise 1 = .ok (.getfield 27, 3) := by decide +kernel
theorem dX3_readPromise_4 : decode cX3_readPromise 4 = .ok (.getfield 141, 3) := by decide +kernel
theorem dX3_readPromise_7 : decode cX3_readPromise 7 = .ok (.bipush 8, 2) := by decide +kernel
theorem dX3_readPromise_9 : decode cX3_readPromise 9 = .ok (.if_icmp .lt 12, 3) := by decide +kernel
theorem dX3_readPromise_12 : decode cX3_readPromise 12 = .ok (.aload_n 0, 1) := by decide +kernel
theorem dX3_readPromise_13 : decode cX3_readPromise 13 = .ok (.getfield 23, 3) := by decide +kernel
theorem dX3_readPromise_16 : decode cX3_readPromise 16 = .ok (.iconst 4, 1) := by decide +kernel
theorem dX3_readPromise_17 : decode cX3_readPromise 17 = .ok (.invokevirtual 70, 3) := by decide +kernel
theorem dX3_readPromise_20 : decode cX3_readPromise 20 = .ok (.ireturn, 1) := by decide +kernel
theorem dX3_readPromise_21 : decode cX3_readPromise 21 = .ok (.aload_n 0, 1) := by decide +kernel
theorem dX3_readPromise_22 : decode cX3_readPromise 22 = .ok (.getfield 23, 3) := by decide +kernel
theorem dX3_readPromise_25 : decode cX3_readPromise 25 = .ok (.aload_n 0, 1) := by decide +kernel
theorem dX3_readPromise_26 : decode cX3_readPromise 26 = .ok (.getfield 27, 3) := by decide +kernel
theorem dX3_readPromise_29 : decode cX3_readPromise 29 = .ok (.invokevirtual 93, 3) := by decide +kernel
theorem dX3_readPromise_32 : decode cX3_readPromise 32 = .ok (.ifCond .ne 5, 3) := by decide +kernel
theorem dX3_readPromise_35 : decode cX3_readPromise 35 = .ok (.iconst 0, 1) := by decide +kernel
theorem dX3_readPromise_36 : decode cX3_readPromise 36 = .ok (.ireturn, 1) := by decide +kernel
theorem dX3_readPromise_37 : decode cX3_readPromise 37 = .ok (.aload_n 0, 1) := by decide +kernel
theorem dX3_readPromise_38 : decode cX3_readPromise 38 = .ok (.getfield 23, 3) := by decide +kernel
theorem dX3_readPromise_41 : decode cX3_readPromise 41 = .ok (.getfield 97, 3) := by decide +kernel
theorem dX3_readPromise_44 : decode cX3_readPromise 44 = .ok (.lstore_n 1, 1) := by decide +kernel
theorem dX3_readPromise_45 : decode cX3_readPromise 45 = .ok (.aload_n 0, 1) := by decide +kernel
theorem dX3_readPromise_46 : decode cX3_readPromise 46 = .ok (.invokevirtual 144, 3) := by decide +kernel
theorem dX3_readPromise_49 : decode cX3_readPromise 49 = .ok (.ifCond .eq 17, 3) := by decide +kernel
theorem dX3_readPromise_52 : decode cX3_readPromise 52 = .ok (.aload_n 0, 1) := by decide +kernel
theorem dX3_readPromise_53 : decode cX3_readPromise 53 = .ok (.invokevirtual 147, 3) := by decide +kernel
theorem dX3_readPromise_56 : decode cX3_readPromise 56 = .ok (.ifCond .eq 10, 3) := by decide +kernel
theorem dX3_readPromise_59 : decode cX3_readPromise 59 = .ok (.aload_n 0, 1) := by decide +kernel
theorem dX3_readPromise_60 : decode cX3_readPromise 60 = .ok (.invokevirtual 150, 3) := by decide +kernel
theorem dX3_readPromise_63 : decode cX3_readPromise 63 = .ok (.ifCond .ne 5, 3) := by decide +kernel
theorem dX3_readPromise_66 : decode cX3_readPromise 66 = .ok (.iconst 0, 1) := by decide +kernel
theorem dX3_readPromise_67 : decode cX3_readPromise 67 = .ok (.ireturn, 1) := by decide +kernel
theorem dX3_readPromise_68 : decode cX3_readPromise 68 = .ok (.aload_n 0, 1) := by decide +kernel
theorem dX3_readPromise_69 : decode cX3_readPromise 69 = .ok (.getfield 27, 3) := by decide +kernel
theorem dX3_readPromise_72 : decode cX3_readPromise 72 = .ok (.lload_n 1, 1) := by decide +kernel
theorem dX3_readPromise_73 : decode cX3_readPromise 73 = .ok (.aload_n 0, 1) := by decide +kernel
theorem dX3_readPromise_74 : decode cX3_readPromise 74 = .ok (.getfield 9, 3) := by decide +kernel
theorem dX3_readPromise_77 : decode cX3_readPromise 77 = .ok (.invokevirtual 153, 3) := by decide +kernel
theorem dX3_readPromise_80 : decode cX3_readPromise 80 = .ok (.iconst 1, 1) := by decide +kernel
theorem dX3_readPromise_81 : decode cX3_readPromise 81 = .ok (.ireturn, 1) := by decide +kernel
theorem dX3_readWhoWhatWhere_0 : decode cX3_readWhoWhatWhere 0 = .ok (.aload_n 0, 1) := by decide +kernel
theorem dX3_readWhoWhatWhere_1 : decode cX3_readWhoWhatWhere 1 = .ok (.getfield 23, 3) := by decide +kernel
theorem dX3_readWhoWhatWhere_4 : decode cX3_readWhoWhatWhere 4 = .ok (.aload_n 0, 1) := by decide +kernel
theorem dX3_readWhoWhatWhere_5 : decode cX3_readWhoWhatWhere 5 = .ok (.getfield 27, 3) := by decide +kernel
theorem dX3_readWhoWhatWhere_8 : decode cX3_readWhoWhatWhere 8 = .ok (.iconst 1, 1) := by decide +kernel
theorem dX3_readWhoWhatWhere_9 : decode cX3_readWhoWhatWhere 9 = .ok (.invokevirtual 114, 3) := by decide +kernel
theorem dX3_readWhoWhatWhere_12 : decode cX3_readWhoWhatWhere 12 = .ok (.ifCond .ne 5, 3) := by decide +kernel
theorem dX3_readWhoWhatWhere_15 : decode cX3_readWhoWhatWhere 15 = .ok (.iconst 0, 1) := by decide +kernel
theorem dX3_readWhoWhatWhere_16 : decode cX3_readWhoWhatWhere 16 = .ok (.ireturn, 1) := by decide +kernel
theorem dX3_readWhoWhatWhere_17 : decode cX3_readWhoWhatWhere 17 = .ok (.aload_n 0, 1) := by decide +kernel
theorem dX3_readWhoWhatWhere_18 : decode cX3_readWhoWhatWhere 18 = .ok (.getfield 9, 3) := by decide +kernel
theorem dX3_readWhoWhatWhere_21 : decode cX3_readWhoWhatWhere 21 = .ok (.iconst 0, 1) := by decide +kernel
theorem dX3_readWhoWhatWhere_22 : decode cX3_readWhoWhatWhere 22 = .ok (.aload_n 0, 1) := by decide +kernel
theorem dX3_readWhoWhatWhere_23 : decode cX3_readWhoWhatWhere 23 = .ok (.getfield 23, 3) := by decide +kernel
theorem dX3_readWhoWhatWhere_26 : decode cX3_readWhoWhatWhere 26 = .ok (.getfield 118, 3) := by decide +kernel
theorem dX3_readWhoWhatWhere_29 : decode cX3_readWhoWhatWhere 29 = .ok (.iastore, 1) := by decide +kernel
theorem dX3_readWhoWhatWhere_30 : decode cX3_readWhoWhatWhere 30 = .ok (.aload_n 0, 1) := by decide +kernel
theorem dX3_readWhoWhatWhere_31 : decode cX3_readWhoWhatWhere 31 = .ok (.getfield 23, 3) := by decide +kernel
theorem dX3_readWhoWhatWhere_34 : decode cX3_readWhoWhatWhere 34 = .ok (.aload_n 0, 1) := by decide +kernel
theorem dX3_readWhoWhatWhere_35 : decode cX3_readWhoWhatWhere 35 = .ok (.getfield 27, 3) := by decide +kernel
theorem dX3_readWhoWhatWhere_38 : decode cX3_readWhoWhatWhere 38 = .ok (.iconst 2, 1) := by decide +kernel
theorem dX3_readWhoWhatWhere_39 : decode cX3_readWhoWhatWhere 39 = .ok (.invokevirtual 114, 3) := by decide +kernel
theorem dX3_readWhoWhatWhere_42 : decode cX3_readWhoWhatWhere 42 = .ok (.ifCond .ne 5, 3) := by decide +kernel
theorem dX3_readWhoWhatWhere_45 : decode cX3_readWhoWhatWhere 45 = .ok (.iconst 0, 1) := by decide +kernel
theorem dX3_readWhoWhatWhere_46 : decode cX3_readWhoWhatWhere 46 = .ok (.ireturn, 1) := by decide +kernel
theorem dX3_readWhoWhatWhere_47 : decode cX3_readWhoWhatWhere 47 = .ok (.aload_n 0, 1) := by decide +kernel
theorem dX3_readWhoWhatWhere_48 : decode cX3_readWhoWhatWhere 48 = .ok (.getfield 9, 3) := by decide +kernel
theorem dX3_readWhoWhatWhere_51 : decode cX3_readWhoWhatWhere 51 = .ok (.iconst 1, 1) := by decide +kernel
theorem dX3_readWhoWhatWhere_52 : decode cX3_readWhoWhatWhere 52 = .ok (.aload_n 0, 1) := by decide +kernel
theorem dX3_readWhoWhatWhere_53 : decode cX3_readWhoWhatWhere 53 = .ok (.getfield 23, 3) := by decide +kernel
theorem dX3_readWhoWhatWhere_56 : decode cX3_readWhoWhatWhere 56 = .ok (.getfield 118, 3) := by decide +kernel
theorem dX3_readWhoWhatWhere_59 : decode cX3_readWhoWhatWhere 59 = .ok (.iastore, 1) := by decide +kernel
theorem dX3_readWhoWhatWhere_60 : decode cX3_readWhoWhatWhere 60 = .ok (.aload_n 0, 1) := by decide +kernel
theorem dX3_readWhoWhatWhere_61 : decode cX3_readWhoWhatWhere 61 = .ok (.getfield 23, 3) := by decide +kernel
theorem dX3_readWhoWhatWhere_64 : decode cX3_readWhoWhatWhere 64 = .ok (.aload_n 0, 1) := by decide +kernel
theorem dX3_readWhoWhatWhere_65 : decode cX3_readWhoWhatWhere 65 = .ok (.getfield 27, 3) := by decide +kernel
theorem dX3_readWhoWhatWhere_68 : decode cX3_readWhoWhatWhere 68 = .ok (.iconst 0, 1) := by decide +kernel
theorem dX3_readWhoWhatWhere_69 : decode cX3_readWhoWhatWhere 69 = .ok (.invokevirtual 114, 3) := by decide +kernel
theorem dX3_readWhoWhatWhere_72 : decode cX3_readWhoWhatWhere 72 = .ok (.ifCond .ne 5, 3) := by decide +kernel
theorem dX3_readWhoWhatWhere_75 : decode cX3_readWhoWhatWhere 75 = .ok (.iconst 0, 1) := by decide +kernel
theorem dX3_readWhoWhatWhere_76 : decode cX3_readWhoWhatWhere 76 = .ok (.ireturn, 1) := by decide +kernel
theorem dX3_readWhoWhatWhere_77 : decode cX3_readWhoWhatWhere 77 = .ok (.aload_n 0, 1) := by decide +kernel
theorem dX3_readWhoWhatWhere_78 : decode cX3_readWhoWhatWhere 78 = .ok (.getfield 9, 3) := by decide +kernel
theorem dX3_readWhoWhatWhere_81 : decode cX3_readWhoWhatWhere 81 = .ok (.iconst 2, 1) := by decide +kernel
theorem dX3_readWhoWhatWhere_82 : decode cX3_readWhoWhatWhere 82 = .ok (.aload_n 0, 1) := by decide +kernel
theorem dX3_readWhoWhatWhere_83 : decode cX3_readWhoWhatWhere 83 = .ok (.getfield 23, 3) := by decide +kernel
theorem dX3_readWhoWhatWhere_86 : decode cX3_readWhoWhatWhere 86 = .ok (.getfield 118, 3) := by decide +kernel
theorem dX3_readWhoWhatWhere_89 : decode cX3_readWhoWhatWhere 89 = .ok (.iastore, 1) := by decide +kernel
theorem dX3_readWhoWhatWhere_90 : decode cX3_readWhoWhatWhere 90 = .ok (.iconst 1, 1) := by decide +kernel
theorem dX3_readWhoWhatWhere_91 : decode cX3_readWhoWhatWhere 91 = .ok (.ireturn, 1) := by decide +kernel
theorem dX3_readWhenHowOften_0 : decode cX3_readWhenHowOften 0 = .ok (.aload_n 0, 1) := by decide +kernel
theorem dX3_readWhenHowOften_1 : decode cX3_readWhenHowOften 1 = .ok (.getfield 23, 3) := by decide +kernel
theorem dX3_readWhenHowOften_4 : decode cX3_readWhenHowOften 4 = .ok (.iconst 0, 1) := by decide +kernel
theorem dX3_readWhenHowOften_5 : decode cX3_readWhenHowOften 5 = .ok (.bipush 23, 2) := by decide +kernel
theorem dX3_readWhenHowOften_7 : decode cX3_readWhenHowOften 7 = .ok (.invokevirtual 77, 3) := by decide +kernel
theorem dX3_readWhenHowOften_10 : decode cX3_readWhenHowOften 10 = .ok (.ifCond .ne 5, 3) := by decide +kernel
theorem dX3_readWhenHowOften_13 : decode cX3_readWhenHowOften 13 = .ok (.iconst 0, 1) := by decide +kernel
theorem dX3_readWhenHowOften_14 : decode cX3_readWhenHowOften 14 = .ok (.ireturn, 1) := by decide +kernel
theorem dX3_readWhenHowOften_15 : decode cX3_readWhenHowOften 15 = .ok (.aload_n 0, 1) := by decide +kernel
theorem dX3_readWhenHowOften_16 : decode cX3_readWhenHowOften 16 = .ok (.getfield 9, 3) := by decide +kernel
theorem dX3_readWhenHowOften_19 : decode cX3_readWhenHowOften 19 = .ok (.iconst 3, 1) := by decide +kernel
theorem dX3_readWhenHowOften_20 : decode cX3_readWhenHowOften 20 = .ok (.aload_n 0, 1) := by decide +kernel
theorem dX3_readWhenHowOften_21 : decode cX3_readWhenHowOften 21 = .ok (.getfield 23, 3) := by decide +kernel
theorem dX3_readWhenHowOften_24 : decode cX3_readWhenHowOften 24 = .ok (.getfield 81, 3) := by decide +kernel
theorem dX3_readWhenHowOften_27 : decode cX3_readWhenHowOften 27 = .ok (.iastore, 1) := by decide +kernel
theorem dX3_readWhenHowOften_28 : decode cX3_readWhenHowOften 28 = .ok (.aload_n 0, 1) := by decide +kernel
theorem dX3_readWhenHowOften_29 : decode cX3_readWhenHowOften 29 = .ok (.getfield 23, 3) := by decide +kernel
theorem dX3_readWhenHowOften_32 : decode cX3_readWhenHowOften 32 = .ok (.aload_n 0, 1) := by decide +kernel
theorem dX3_readWhenHowOften_33 : decode cX3_readWhenHowOften 33 = .ok (.getfield 9, 3) := by decide +kernel
theorem dX3_readWhenHowOften_36 : decode cX3_readWhenHowOften 36 = .ok (.iconst 3, 1) := by decide +kernel
theorem dX3_readWhenHowOften_37 : decode cX3_readWhenHowOften 37 = .ok (.iaload, 1) := by decide +kernel
theorem dX3_readWhenHowOften_38 : decode cX3_readWhenHowOften 38 = .ok (.bipush 23, 2) := by decide +kernel
theorem dX3_readWhenHowOften_40 : decode cX3_readWhenHowOften 40 = .ok (.invokevirtual 77, 3) := by decide +kernel
theorem dX3_readWhenHowOften_43 : decode cX3_readWhenHowOften 43 = .ok (.ifCond .ne 5, 3) := by decide +kernel
theorem dX3_readWhenHowOften_46 : decode cX3_readWhenHowOften 46 = .ok (.iconst 0, 1) := by decide +kernel
theorem dX3_readWhenHowOften_47 : decode cX3_readWhenHowOften 47 = .ok (.ireturn, 1) := by decide +kernel
theorem dX3_readWhenHowOften_48 : decode cX3_readWhenHowOften 48 = .ok (.aload_n 0, 1) := by decide +kernel
theorem dX3_readWhenHowOften_49 : decode cX3_readWhenHowOften 49 = .ok (.getfield 9, 3) := by decide +kernel
theorem dX3_readWhenHowOften_52 : decode cX3_readWhenHowOften 52 = .ok (.iconst 4, 1) := by decide +kernel
theorem dX3_readWhenHowOften_53 : decode cX3_readWhenHowOften 53 = .ok (.aload_n 0, 1) := by decide +kernel
theorem dX3_readWhenHowOften_54 : decode cX3_readWhenHowOften 54 = .ok (.getfield 23, 3) := by decide +kernel
theorem dX3_readWhenHowOften_57 : decode cX3_readWhenHowOften 57 = .ok (.getfield 81, 3) := by decide +kernel
theorem dX3_readWhenHowOften_60 : decode cX3_readWhenHowOften 60 = .ok (.iastore, 1) := by decide +kernel
theorem dX3_readWhenHowOften_61 : decode cX3_readWhenHowOften 61 = .ok (.aload_n 0, 1) := by decide +kernel
theorem dX3_readWhenHowOften_62 : decode cX3_readWhenHowOften 62 = .ok (.getfield 23, 3) := by decide +kernel
theorem dX3_readWhenHowOften_65 : decode cX3_readWhenHowOften 65 = .ok (.iconst 1, 1) := by decide +kernel
theorem dX3_readWhenHowOften_66 : decode cX3_readWhenHowOften 66 = .ok (.iconst 3, 1) := by decide +kernel
theorem dX3_readWhenHowOften_67 : decode cX3_readWhenHowOften 67 = .ok (.invokevirtual 77, 3) := by decide +kernel
theorem dX3_readWhenHowOften_70 : decode cX3_readWhenHowOften 70 = .ok (.ifCond .ne 5, 3) := by decide +kernel
theorem dX3_readWhenHowOften_73 : decode cX3_readWhenHowOften 73 = .ok (.iconst 0, 1) := by decide +kernel
theorem dX3_readWhenHowOften_74 : decode cX3_readWhenHowOften 74 = .ok (.ireturn, 1) := by decide +kernel
theorem dX3_readWhenHowOften_75 : decode cX3_readWhenHowOften 75 = .ok (.aload_n 0, 1) := by decide +kernel
theorem dX3_readWhenHowOften_76 : decode cX3_readWhenHowOften 76 = .ok (.getfield 9, 3) := by decide +kernel
theorem dX3_readWhenHowOften_79 : decode cX3_readWhenHowOften 79 = .ok (.iconst 5, 1) := by decide +kernel
theorem dX3_readWhenHowOften_80 : decode cX3_readWhenHowOften 80 = .ok (.aload_n 0, 1) := by decide +kernel
theorem dX3_readWhenHowOften_81 : decode cX3_readWhenHowOften 81 = .ok (.getfield 23, 3) := by decide +kernel
theorem dX3_readWhenHowOften_84 : decode cX3_readWhenHowOften 84 = .ok (.getfield 81, 3) := by decide +kernel
theorem dX3_readWhenHowOften_87 : decode cX3_readWhenHowOften 87 = .ok (.iastore, 1) := by decide +kernel
theorem dX3_readWhenHowOften_88 : decode cX3_readWhenHowOften 88 = .ok (.iconst 1, 1) := by decide +kernel
theorem dX3_readWhenHowOften_89 : decode cX3_readWhenHowOften 89 = .ok (.ireturn, 1) := by decide +kernel
theorem dX3_readEachUnless_0 : decode cX3_readEachUnless 0 = .ok (.aload_n 0, 1) := by decide +kernel
theorem dX3_readEachUnless_1 : decode cX3_readEachUnless 1 = .ok (.getfield 9, 3) := by decide +kernel
theorem dX3_readEachUnless_4 : decode cX3_readEachUnless 4 = .ok (.bipush 6, 2) := by decide +kernel
theorem dX3_readEachUnless_6 : decode cX3_readEachUnless 6 = .ok (.iconst 0, 1) := by decide +kernel
theorem dX3_readEachUnless_7 : decode cX3_readEachUnless 7 = .ok (.iastore, 1) := by decide +kernel
theorem dX3_readEachUnless_8 : decode cX3_readEachUnless 8 = .ok (.aload_n 0, 1) := by decide +kernel
theorem dX3_readEachUnless_9 : decode cX3_readEachUnless 9 = .ok (.getfield 9, 3) := by decide +kernel
theorem dX3_readEachUnless_12 : decode cX3_readEachUnless 12 = .ok (.bipush 7, 2) := by decide +kernel
theorem dX3_readEachUnless_14 : decode cX3_readEachUnless 14 = .ok (.iconst (-1), 1) := by decide +kernel
theorem dX3_readEachUnless_15 : decode cX3_readEachUnless 15 = .ok (.iastore, 1) := by decide +kernel
theorem dX3_readEachUnless_16 : decode cX3_readEachUnless 16 = .ok (.aload_n 0, 1) := by decide +kernel
theorem dX3_readEachUnless_17 : decode cX3_readEachUnless 17 = .ok (.getfield 23, 3) := by decide +kernel
theorem dX3_readEachUnless_20 : decode cX3_readEachUnless 20 = .ok (.invokevirtual 74, 3) := by decide +kernel
theorem dX3_readEachUnless_23 : decode cX3_readEachUnless 23 = .ok (.aload_n 0, 1) := by decide +kernel
theorem dX3_readEachUnless_24 : decode cX3_readEachUnless 24 = .ok (.getfield 23, 3) := by decide +kernel
theorem dX3_readEachUnless_27 : decode cX3_readEachUnless 27 = .ok (.getfield 42, 3) := by decide +kernel
theorem dX3_readEachUnless_30 : decode cX3_readEachUnless 30 = .ok (.bipush 107, 2) := by decide +kernel
theorem dX3_readEachUnless_32 : decode cX3_readEachUnless 32 = .ok (.if_icmp .ne 18, 3) := by decide +kernel
theorem dX3_readEachUnless_35 : decode cX3_readEachUnless 35 = .ok (.aload_n 0, 1) := by decide +kernel
theorem dX3_readEachUnless_36 : decode cX3_readEachUnless 36 = .ok (.getfield 9, 3) := by decide +kernel
theorem dX3_readEachUnless_39 : decode cX3_readEachUnless 39 = .ok (.bipush 6, 2) := by decide +kernel
theorem dX3_readEachUnless_41 : decode cX3_readEachUnless 41 = .ok (.iconst 1, 1) := by decide +kernel
theorem dX3_readEachUnless_42 : decode cX3_readEachUnless 42 = .ok (.iastore, 1) := by decide +kernel
theorem dX3_readEachUnless_43 : decode cX3_readEachUnless 43 = .ok (.aload_n 0, 1) := by decide +kernel
theorem dX3_readEachUnless_44 : decode cX3_readEachUnless 44 = .ok (.getfield 23, 3) := by decide +kernel
theorem dX3_readEachUnless_47 : decode cX3_readEachUnless 47 = .ok (.invokevirtual 74, 3) := by decide +kernel
theorem dX3_readEachUnless_50 : decode cX3_readEachUnless 50 = .ok (.aload_n 0, 1) := by decide +kernel
theorem dX3_readEachUnless_51 : decode cX3_readEachUnless 51 = .ok (.getfield 23, 3) := by decide +kernel
theorem dX3_readEachUnless_54 : decode cX3_readEachUnless 54 = .ok (.getfield 42, 3) := by decide +kernel
theorem dX3_readEachUnless_57 : decode cX3_readEachUnless 57 = .ok (.bipush 108, 2) := by decide +kernel
theorem dX3_readEachUnless_59 : decode cX3_readEachUnless 59 = .ok (.if_icmp .ne 41, 3) := by decide +kernel
theorem dX3_readEachUnless_62 : decode cX3_readEachUnless 62 = .ok (.aload_n 0, 1) := by decide +kernel
theorem dX3_readEachUnless_63 : decode cX3_readEachUnless 63 = .ok (.getfield 23, 3) := by decide +kernel
theorem dX3_readEachUnless_66 : decode cX3_readEachUnless 66 = .ok (.aload_n 0, 1) := by decide +kernel
theorem dX3_readEachUnless_67 : decode cX3_readEachUnless 67 = .ok (.getfield 27, 3) := by decide +kernel
theorem dX3_readEachUnless_70 : decode cX3_readEachUnless 70 = .ok (.iconst 2, 1) := by decide +kernel
theorem dX3_readEachUnless_71 : decode cX3_readEachUnless 71 = .ok (.invokevirtual 114, 3) := by decide +kernel
theorem dX3_readEachUnless_74 : decode cX3_readEachUnless 74 = .ok (.ifCond .ne 5, 3) := by decide +kernel
theorem dX3_readEachUnless_77 : decode cX3_readEachUnless 77 = .ok (.iconst 0, 1) := by decide +kernel
theorem dX3_readEachUnless_78 : decode cX3_readEachUnless 78 = .ok (.ireturn, 1) := by decide +kernel
theorem dX3_readEachUnless_79 : decode cX3_readEachUnless 79 = .ok (.aload_n 0, 1) := by decide +kernel
theorem dX3_readEachUnless_80 : decode cX3_readEachUnless 80 = .ok (.getfield 9, 3) := by decide +kernel
theorem dX3_readEachUnless_83 : decode cX3_readEachUnless 83 = .ok (.bipush 7, 2) := by decide +kernel
theorem dX3_readEachUnless_85 : decode cX3_readEachUnless 85 = .ok (.aload_n 0, 1) := by decide +kernel
theorem dX3_readEachUnless_86 : decode cX3_readEachUnless 86 = .ok (.getfield 23, 3) := by decide +kernel
theorem dX3_readEachUnless_89 : decode cX3_readEachUnless 89 = .ok (.getfield 118, 3) := by decide +kernel
theorem dX3_readEachUnless_92 : decode cX3_readEachUnless 92 = .ok (.iastore, 1) := by decide +kernel
theorem dX3_readEachUnless_93 : decode cX3_readEachUnless 93 = .ok (.aload_n 0, 1) := by decide +kernel
theorem dX3_readEachUnless_94 : decode cX3_readEachUnless 94 = .ok (.getfield 23, 3) := by decide +kernel
theorem dX3_readEachUnless_97 : decode cX3_readEachUnless 97 = .ok (.invokevirtual 74, 3) := by decide +kernel
theorem dX3_readEachUnless_100 : decode cX3_readEachUnless 100 = .ok (.aload_n 0, 1) := by decide +kernel
theorem dX3_readEachUnless_101 : decode cX3_readEachUnless 101 = .ok (.getfield 23, 3) := by decide +kernel
theorem dX3_readEachUnless_104 : decode cX3_readEachUnless 104 = .ok (.getfield 42, 3) := by decide +kernel
theorem dX3_readEachUnless_107 : decode cX3_readEachUnless 107 = .ok (.bipush 59, 2) := by decide +kernel
theorem dX3_readEachUnless_109 : decode cX3_readEachUnless 109 = .ok (.if_icmp .eq 14, 3) := by decide +kernel
theorem dX3_readEachUnless_112 : decode cX3_readEachUnless 112 = .ok (.aload_n 0, 1) := by decide +kernel
theorem dX3_readEachUnless_113 : decode cX3_readEachUnless 113 = .ok (.getfield 23, 3) := by decide +kernel
theorem dX3_readEachUnless_116 : decode cX3_readEachUnless 116 = .ok (.iconst 1, 1) := by decide +kernel
theorem dX3_readEachUnless_117 : decode cX3_readEachUnless 117 = .ok (.invokevirtual 70, 3) := by decide +kernel
theorem dX3_readEachUnless_120 : decode cX3_readEachUnless 120 = .ok (.ifCond .eq 7, 3) := by decide +kernel
theorem dX3_readEachUnless_123 : decode cX3_readEachUnless 123 = .ok (.iconst 1, 1) := by decide +kernel
theorem dX3_readEachUnless_124 : decode cX3_readEachUnless 124 = .ok (.goto 4, 3) := by decide +kernel
theorem dX3_readEachUnless_127 : decode cX3_readEachUnless 127 = .ok (.iconst 0, 1) := by decide +kernel
theorem dX3_readEachUnless_128 : decode cX3_readEachUnless 128 = .ok (.ireturn, 1) := by decide +kernel
theorem dX3_readVow_0 : decode cX3_readVow 0 = .ok (.aload_n 0, 1) := by decide +kernel
theorem dX3_readVow_1 : decode cX3_readVow 1 = .ok (.getfield 27, 3) := by decide +kernel
theorem dX3_readVow_4 : decode cX3_readVow 4 = .ok (.getfield 157, 3) := by decide +kernel
theorem dX3_readVow_7 : decode cX3_readVow 7 = .ok (.bipush 8, 2) := by decide +kernel
theorem dX3_readVow_9 : decode cX3_readVow 9 = .ok (.if_icmp .lt 12, 3) := by decide +kernel
theorem dX3_readVow_12 : decode cX3_readVow 12 = .ok (.aload_n 0, 1) := by decide +kernel
theorem dX3_readVow_13 : decode cX3_readVow 13 = .ok (.getfield 23, 3) := by decide +kernel
theorem dX3_readVow_16 : decode cX3_readVow 16 = .ok (.iconst 4, 1) := by decide +kernel
theorem dX3_readVow_17 : decode cX3_readVow 17 = .ok (.invokevirtual 70, 3) := by decide +kernel
theorem dX3_readVow_20 : decode cX3_readVow 20 = .ok (.ireturn, 1) := by decide +kernel
theorem dX3_readVow_21 : decode cX3_readVow 21 = .ok (.aload_n 0, 1) := by decide +kernel
theorem dX3_readVow_22 : decode cX3_readVow 22 = .ok (.getfield 23, 3) := by decide +kernel
theorem dX3_readVow_25 : decode cX3_readVow 25 = .ok (.aload_n 0, 1) := by decide +kernel
theorem dX3_readVow_26 : decode cX3_readVow 26 = .ok (.getfield 27, 3) := by decide +kernel
theorem dX3_readVow_29 : decode cX3_readVow 29 = .ok (.iconst 3, 1) := by decide +kernel
theorem dX3_readVow_30 : decode cX3_readVow 30 = .ok (.invokevirtual 114, 3) := by decide +kernel
theorem dX3_readVow_33 : decode cX3_readVow 33 = .ok (.ifCond .ne 5, 3) := by decide +kernel
theorem dX3_readVow_36 : decode cX3_readVow 36 = .ok (.iconst 0, 1) := by decide +kernel
theorem dX3_readVow_37 : decode cX3_readVow 37 = .ok (.ireturn, 1) := by decide +kernel
theorem dX3_readVow_38 : decode cX3_readVow 38 = .ok (.aload_n 0, 1) := by decide +kernel
theorem dX3_readVow_39 : decode cX3_readVow 39 = .ok (.getfield 23, 3) := by decide +kernel
theorem dX3_readVow_42 : decode cX3_readVow 42 = .ok (.getfield 118, 3) := by decide +kernel
theorem dX3_readVow_45 : decode cX3_readVow 45 = .ok (.istore_n 1, 1) := by decide +kernel
theorem dX3_readVow_46 : decode cX3_readVow 46 = .ok (.aload_n 0, 1) := by decide +kernel
theorem dX3_readVow_47 : decode cX3_readVow 47 = .ok (.getfield 23, 3) := by decide +kernel
theorem dX3_readVow_50 : decode cX3_readVow 50 = .ok (.aload_n 0, 1) := by decide +kernel
theorem dX3_readVow_51 : decode cX3_readVow 51 = .ok (.getfield 27, 3) := by decide +kernel
theorem dX3_readVow_54 : decode cX3_readVow 54 = .ok (.iconst 3, 1) := by decide +kernel
theorem dX3_readVow_55 : decode cX3_readVow 55 = .ok (.invokevirtual 114, 3) := by decide +kernel
theorem dX3_readVow_58 : decode cX3_readVow 58 = .ok (.ifCond .ne 5, 3) := by decide +kernel
theorem dX3_readVow_61 : decode cX3_readVow 61 = .ok (.iconst 0, 1) := by decide +kernel
theorem dX3_readVow_62 : decode cX3_readVow 62 = .ok (.ireturn, 1) := by decide +kernel
theorem dX3_readVow_63 : decode cX3_readVow 63 = .ok (.aload_n 0, 1) := by decide +kernel
theorem dX3_readVow_64 : decode cX3_readVow 64 = .ok (.getfield 23, 3) := by decide +kernel
theorem dX3_readVow_67 : decode cX3_readVow 67 = .ok (.getfield 118, 3) := by decide +kernel
theorem dX3_readVow_70 : decode cX3_readVow 70 = .ok (.istore_n 2, 1) := by decide +kernel
theorem dX3_readVow_71 : decode cX3_readVow 71 = .ok (.iload_n 1, 1) := by decide +kernel
theorem dX3_readVow_72 : decode cX3_readVow 72 = .ok (.iload_n 2, 1) := by decide +kernel
theorem dX3_readVow_73 : decode cX3_readVow 73 = .ok (.if_icmp .eq 15, 3) := by decide +kernel
theorem dX3_readVow_76 : decode cX3_readVow 76 = .ok (.aload_n 0, 1) := by decide +kernel
theorem dX3_readVow_77 : decode cX3_readVow 77 = .ok (.getfield 27, 3) := by decide +kernel
theorem dX3_readVow_80 : decode cX3_readVow 80 = .ok (.iload_n 1, 1) := by decide +kernel
theorem dX3_readVow_81 : decode cX3_readVow 81 = .ok (.iload_n 2, 1) := by decide +kernel
theorem dX3_readVow_82 : decode cX3_readVow 82 = .ok (.invokevirtual 160, 3) := by decide +kernel
theorem dX3_readVow_85 : decode cX3_readVow 85 = .ok (.ifCond .eq 12, 3) := by decide +kernel
theorem dX3_readVow_88 : decode cX3_readVow 88 = .ok (.aload_n 0, 1) := by decide +kernel
theorem dX3_readVow_89 : decode cX3_readVow 89 = .ok (.getfield 23, 3) := by decide +kernel
theorem dX3_readVow_92 : decode cX3_readVow 92 = .ok (.iconst 3, 1) := by decide +kernel
theorem dX3_readVow_93 : decode cX3_readVow 93 = .ok (.invokevirtual 70, 3) := by decide +kernel
theorem dX3_readVow_96 : decode cX3_readVow 96 = .ok (.ireturn, 1) := by decide +kernel
theorem dX3_readVow_97 : decode cX3_readVow 97 = .ok (.aload_n 0, 1) := by decide +kernel
theorem dX3_readVow_98 : decode cX3_readVow 98 = .ok (.getfield 27, 3) := by decide +kernel
theorem dX3_readVow_101 : decode cX3_readVow 101 = .ok (.iload_n 1, 1) := by decide +kernel
theorem dX3_readVow_102 : decode cX3_readVow 102 = .ok (.iload_n 2, 1) := by decide +kernel
theorem dX3_readVow_103 : decode cX3_readVow 103 = .ok (.invokevirtual 163, 3) := by decide +kernel
theorem dX3_readVow_106 : decode cX3_readVow 106 = .ok (.aload_n 0, 1) := by decide +kernel
theorem dX3_readVow_107 : decode cX3_readVow 107 = .ok (.getfield 23, 3) := by decide +kernel
theorem dX3_readVow_110 : decode cX3_readVow 110 = .ok (.bipush 59, 2) := by decide +kernel
theorem dX3_readVow_112 : decode cX3_readVow 112 = .ok (.invokevirtual 87, 3) := by decide +kernel
theorem dX3_readVow_115 : decode cX3_readVow 115 = .ok (.ireturn, 1) := by decide +kernel
theorem dX4_init_0 : decode cX4_init 0 = .ok (.aload_n 0, 1) := by decide +kernel
theorem dX4_init_1 : decode cX4_init 1 = .ok (.invokespecial 3, 3) := by decide +kernel
theorem dX4_init_4 : decode cX4_init 4 = .ok (.aload_n 0, 1) := by decide +kernel
theorem dX4_init_5 : decode cX4_init 5 = .ok (.new 9, 3) := by decide +kernel
theorem dX4_init_8 : decode cX4_init 8 = .ok (.dup, 1) := by decide +kernel
theorem dX4_init_9 : decode cX4_init 9 = .ok (.invokespecial 11, 3) := by decide +kernel
theorem dX4_init_12 : decode cX4_init 12 = .ok (.putfield 12, 3) := by decide +kernel
theorem dX4_init_15 : decode cX4_init 15 = .ok (.aload_n 0, 1) := by decide +kernel
theorem dX4_init_16 : decode cX4_init 16 = .ok (.new 18, 3) := by decide +kernel
theorem dX4_init_19 : decode cX4_init 19 = .ok (.dup, 1) := by decide +kernel
theorem dX4_init_20 : decode cX4_init 20 = .ok (.invokespecial 20, 3) := by decide +kernel
theorem dX4_init_23 : decode cX4_init 23 = .ok (.putfield 21, 3) := by decide +kernel
theorem dX4_init_26 : decode cX4_init 26 = .ok (.aload_n 0, 1) := by decide +kernel
theorem dX4_init_27 : decode cX4_init 27 = .ok (.bipush 31, 2) := by decide +kernel
theorem dX4_init_29 : decode cX4_init 29 = .ok (.newarray .int, 2) := by decide +kernel
theorem dX4_init_31 : decode cX4_init 31 = .ok (.putfield 25, 3) := by decide +kernel
theorem dX4_init_34 : decode cX4_init 34 = .ok (.aload_n 0, 1) := by decide +kernel
theorem dX4_init_35 : decode cX4_init 35 = .ok (.sipush 320, 3) := by decide +kernel
theorem dX4_init_38 : decode cX4_init 38 = .ok (.newarray .int, 2) := by decide +kernel
theorem dX4_init_40 : decode cX4_init 40 = .ok (.putfield 29, 3) := by decide +kernel
theorem dX4_init_43 : decode cX4_init 43 = .ok (.aload_n 0, 1) := by decide +kernel
theorem dX4_init_44 : decode cX4_init 44 = .ok (.iconst 0, 1) := by decide +kernel
theorem dX4_init_45 : decode cX4_init 45 = .ok (.putfield 32, 3) := by decide +kernel
theorem dX4_init_48 : decode cX4_init 48 = .ok (.return_, 1) := by decide +kernel
theorem dX4_take_0 : decode cX4_take 0 = .ok (.aload_n 0, 1) := by decide +kernel
theorem dX4_take_1 : decode cX4_take 1 = .ok (.getfield 12, 3) := by decide +kernel
theorem dX4_take_4 : decode cX4_take 4 = .ok (.aload_n 1, 1) := by decide +kernel
theorem dX4_take_5 : decode cX4_take 5 = .ok (.invokevirtual 36, 3) := by decide +kernel
theorem dX4_take_8 : decode cX4_take 8 = .ok (.aload_n 0, 1) := by decide +kernel
theorem dX4_take_9 : decode cX4_take 9 = .ok (.getfield 21, 3) := by decide +kernel
theorem dX4_take_12 : decode cX4_take 12 = .ok (.aload_n 3, 1) := by decide +kernel
theorem dX4_take_13 : decode cX4_take 13 = .ok (.invokevirtual 40, 3) := by decide +kernel
theorem dX4_take_16 : decode cX4_take 16 = .ok (.aload_n 2, 1) := by decide +kernel
theorem dX4_take_17 : decode cX4_take 17 = .ok (.getfield 43, 3) := by decide +kernel
theorem dX4_take_20 : decode cX4_take 20 = .ok (.iconst 0, 1) := by decide +kernel
theorem dX4_take_21 : decode cX4_take 21 = .ok (.aload_n 0, 1) := by decide +kernel
theorem dX4_take_22 : decode cX4_take 22 = .ok (.getfield 25, 3) := by decide +kernel
theorem dX4_take_25 : decode cX4_take 25 = .ok (.iconst 0, 1) := by decide +kernel
theorem dX4_take_26 : decode cX4_take 26 = .ok (.bipush 31, 2) := by decide +kernel
theorem dX4_take_28 : decode cX4_take 28 = .ok (.invokestatic 46, 3) := by decide +kernel
theorem dX4_take_31 : decode cX4_take 31 = .ok (.aload_n 2, 1) := by decide +kernel
theorem dX4_take_32 : decode cX4_take 32 = .ok (.getfield 52, 3) := by decide +kernel
theorem dX4_take_35 : decode cX4_take 35 = .ok (.iconst 0, 1) := by decide +kernel
theorem dX4_take_36 : decode cX4_take 36 = .ok (.aload_n 0, 1) := by decide +kernel
theorem dX4_take_37 : decode cX4_take 37 = .ok (.getfield 29, 3) := by decide +kernel
theorem dX4_take_40 : decode cX4_take 40 = .ok (.iconst 0, 1) := by decide +kernel
theorem dX4_take_41 : decode cX4_take 41 = .ok (.aload_n 0, 1) := by decide +kernel
theorem dX4_take_42 : decode cX4_take 42 = .ok (.getfield 29, 3) := by decide +kernel
theorem dX4_take_45 : decode cX4_take 45 = .ok (.arraylength, 1) := by decide +kernel
theorem dX4_take_46 : decode cX4_take 46 = .ok (.invokestatic 46, 3) := by decide +kernel
theorem dX4_take_49 : decode cX4_take 49 = .ok (.aload_n 0, 1) := by decide +kernel
theorem dX4_take_50 : decode cX4_take 50 = .ok (.iconst 1, 1) := by decide +kernel
theorem dX4_take_51 : decode cX4_take 51 = .ok (.putfield 32, 3) := by decide +kernel
theorem dX4_take_54 : decode cX4_take 54 = .ok (.return_, 1) := by decide +kernel
theorem dX4_give_0 : decode cX4_give 0 = .ok (.aload_n 1, 1) := by decide +kernel
theorem dX4_give_1 : decode cX4_give 1 = .ok (.aload_n 0, 1) := by decide +kernel
theorem dX4_give_2 : decode cX4_give 2 = .ok (.getfield 12, 3) := by decide +kernel
theorem dX4_give_5 : decode cX4_give 5 = .ok (.invokevirtual 36, 3) := by decide +kernel
theorem dX4_give_8 : decode cX4_give 8 = .ok (.aload_n 3, 1) := by decide +kernel
theorem dX4_give_9 : decode cX4_give 9 = .ok (.aload_n 0, 1) := by decide +kernel
theorem dX4_give_10 : decode cX4_give 10 = .ok (.getfield 21, 3) := by decide +kernel
theorem dX4_give_13 : decode cX4_give 13 = .ok (.invokevirtual 40, 3) := by decide +kernel
theorem dX4_give_16 : decode cX4_give 16 = .ok (.aload_n 0, 1) := by decide +kernel
theorem dX4_give_17 : decode cX4_give 17 = .ok (.getfield 25, 3) := by decide +kernel
theorem dX4_give_20 : decode cX4_give 20 = .ok (.iconst 0, 1) := by decide +kernel
theorem dX4_give_21 : decode cX4_give 21 = .ok (.aload_n 2, 1) := by decide +kernel
theorem dX4_give_22 : decode cX4_give 22 = .ok (.getfield 43, 3) := by decide +kernel
theorem dX4_give_25 : decode cX4_give 25 = .ok (.iconst 0, 1) := by decide +kernel
theorem dX4_give_26 : decode cX4_give 26 = .ok (.bipush 31, 2) := by decide +kernel
theorem dX4_give_28 : decode cX4_give 28 = .ok (.invokestatic 46, 3) := by decide +kernel
theorem dX4_give_31 : decode cX4_give 31 = .ok (.aload_n 0, 1) := by decide +kernel
theorem dX4_give_32 : decode cX4_give 32 = .ok (.getfield 29, 3) := by decide +kernel
theorem dX4_give_35 : decode cX4_give 35 = .ok (.iconst 0, 1) := by decide +kernel
theorem dX4_give_36 : decode cX4_give 36 = .ok (.aload_n 2, 1) := by decide +kernel
theorem dX4_give_37 : decode cX4_give 37 = .ok (.getfield 52, 3) := by decide +kernel
theorem dX4_give_40 : decode cX4_give 40 = .ok (.iconst 0, 1) := by decide +kernel
theorem dX4_give_41 : decode cX4_give 41 = .ok (.aload_n 0, 1) := by decide +kernel
theorem dX4_give_42 : decode cX4_give 42 = .ok (.getfield 29, 3) := by decide +kernel
theorem dX4_give_45 : decode cX4_give 45 = .ok (.arraylength, 1) := by decide +kernel
theorem dX4_give_46 : decode cX4_give 46 = .ok (.invokestatic 46, 3) := by decide +kernel
theorem dX4_give_49 : decode cX4_give 49 = .ok (.aload_n 2, 1) := by decide +kernel
theorem dX4_give_50 : decode cX4_give 50 = .ok (.iconst 0, 1) := by decide +kernel
theorem dX4_give_51 : decode cX4_give 51 = .ok (.putfield 53, 3) := by decide +kernel
theorem dX4_give_54 : decode cX4_give 54 = .ok (.return_, 1) := by decide +kernel
theorem dX5_init_0 : decode cX5_init 0 = .ok (.aload_n 0, 1) := by decide +kernel
theorem dX5_init_1 : decode cX5_init 1 = .ok (.invokespecial 3, 3) := by decide +kernel
theorem dX5_init_4 : decode cX5_init 4 = .ok (.aload_n 0, 1) := by decide +kernel
theorem dX5_init_5 : decode cX5_init 5 = .ok (.bipush 20, 2) := by decide +kernel
theorem dX5_init_7 : decode cX5_init 7 = .ok (.newarray .int, 2) := by decide +kernel
theorem dX5_init_9 : decode cX5_init 9 = .ok (.putfield 9, 3) := by decide +kernel
theorem dX5_init_12 : decode cX5_init 12 = .ok (.aload_n 0, 1) := by decide +kernel
theorem dX5_init_13 : decode cX5_init 13 = .ok (.bipush 20, 2) := by decide +kernel
theorem dX5_init_15 : decode cX5_init 15 = .ok (.newarray .int, 2) := by decide +kernel
theorem dX5_init_17 : decode cX5_init 17 = .ok (.putfield 15, 3) := by decide +kernel
theorem dX5_init_20 : decode cX5_init 20 = .ok (.aload_n 0, 1) := by decide +kernel
theorem dX5_init_21 : decode cX5_init 21 = .ok (.iconst 0, 1) := by decide +kernel
theorem dX5_init_22 : decode cX5_init 22 = .ok (.putfield 18, 3) := by decide +kernel
theorem dX5_init_25 : decode cX5_init 25 = .ok (.aload_n 0, 1) := by decide +kernel
theorem dX5_init_26 : decode cX5_init 26 = .ok (.iconst 0, 1) := by decide +kernel
theorem dX5_init_27 : decode cX5_init 27 = .ok (.putfield 22, 3) := by decide +kernel
theorem dX5_init_30 : decode cX5_init 30 = .ok (.aload_n 0, 1) := by decide +kernel
theorem dX5_init_31 : decode cX5_init 31 = .ok (.iconst 0, 1) := by decide +kernel
theorem dX5_init_32 : decode cX5_init 32 = .ok (.putfield 25, 3) := by decide +kernel
theorem dX5_init_35 : decode cX5_init 35 = .ok (.aload_n 0, 1) := by decide +kernel
theorem dX5_init_36 : decode cX5_init 36 = .ok (.aload_n 1, 1) := by decide +kernel
theorem dX5_init_37 : decode cX5_init 37 = .ok (.putfield 28, 3) := by decide +kernel
theorem dX5_init_40 : decode cX5_init 40 = .ok (.aload_n 0, 1) := by decide +kernel
theorem dX5_init_41 : decode cX5_init 41 = .ok (.aload_n 2, 1) := by decide +kernel
theorem dX5_init_42 : decode cX5_init 42 = .ok (.putfield 32, 3) := by decide +kernel
theorem dX5_init_45 : decode cX5_init 45 = .ok (.return_, 1) := by decide +kernel
theorem dX5_weigh_0 : decode cX5_weigh 0 = .ok (.iload_n 2, 1) := by decide +kernel
theorem dX5_weigh_1 : decode cX5_weigh 1 = .ok (.iconst 1, 1) := by decide +kernel
theorem dX5_weigh_2 : decode cX5_weigh 2 = .ok (.iand, 1) := by decide +kernel
theorem dX5_weigh_3 : decode cX5_weigh 3 = .ok (.ifCond .eq 7, 3) := by decide +kernel
theorem dX5_weigh_6 : decode cX5_weigh 6 = .ok (.iconst 1, 1) := by decide +kernel
theorem dX5_weigh_7 : decode cX5_weigh 7 = .ok (.goto 4, 3) := by decide +kernel
theorem dX5_weigh_10 : decode cX5_weigh 10 = .ok (.iconst 0, 1) := by decide +kernel
theorem dX5_weigh_11 : decode cX5_weigh 11 = .ok (.istore_n 3, 1) := by decide +kernel
theorem dX5_weigh_12 : decode cX5_weigh 12 = .ok (.aload_n 0, 1) := by decide +kernel
theorem dX5_weigh_13 : decode cX5_weigh 13 = .ok (.aload_n 0, 1) := by decide +kernel
theorem dX5_weigh_14 : decode cX5_weigh 14 = .ok (.getfield 28, 3) := by decide +kernel
theorem dX5_weigh_17 : decode cX5_weigh 17 = .ok (.iload_n 1, 1) := by decide +kernel
theorem dX5_weigh_18 : decode cX5_weigh 18 = .ok (.iconst 4, 1) := by decide +kernel
theorem dX5_weigh_19 : decode cX5_weigh 19 = .ok (.invokevirtual 36, 3) := by decide +kernel
theorem dX5_weigh_22 : decode cX5_weigh 22 = .ok (.iload_n 3, 1) := by decide +kernel
theorem dX5_weigh_23 : decode cX5_weigh 23 = .ok (.isub, 1) := by decide +kernel
theorem dX5_weigh_24 : decode cX5_weigh 24 = .ok (.aload_n 0, 1) := by decide +kernel
theorem dX5_weigh_25 : decode cX5_weigh 25 = .ok (.getfield 28, 3) := by decide +kernel
theorem dX5_weigh_28 : decode cX5_weigh 28 = .ok (.getfield 42, 3) := by decide +kernel
theorem dX5_weigh_31 : decode cX5_weigh 31 = .ok (.iconst 1, 1) := by decide +kernel
theorem dX5_weigh_32 : decode cX5_weigh 32 = .ok (.isub, 1) := by decide +kernel
theorem dX5_weigh_33 : decode cX5_weigh 33 = .ok (.invokestatic 45, 3) := by decide +kernel
theorem dX5_weigh_36 : decode cX5_weigh 36 = .ok (.putfield 22, 3) := by decide +kernel
theorem dX5_weigh_39 : decode cX5_weigh 39 = .ok (.aload_n 0, 1) := by decide +kernel
theorem dX5_weigh_40 : decode cX5_weigh 40 = .ok (.getfield 32, 3) := by decide +kernel
theorem dX5_weigh_43 : decode cX5_weigh 43 = .ok (.getfield 50, 3) := by decide +kernel
theorem dX5_weigh_46 : decode cX5_weigh 46 = .ok (.bipush 15, 2) := by decide +kernel
theorem dX5_weigh_48 : decode cX5_weigh 48 = .ok (.iload_n 1, 1) := by decide +kernel
theorem dX5_weigh_49 : decode cX5_weigh 49 = .ok (.iadd, 1) := by decide +kernel
theorem dX5_weigh_50 : decode cX5_weigh 50 = .ok (.iaload, 1) := by decide +kernel
theorem dX5_weigh_51 : decode cX5_weigh 51 = .ok (.istore 4, 2) := by decide +kernel
theorem dX5_weigh_53 : decode cX5_weigh 53 = .ok (.aload_n 0, 1) := by decide +kernel
theorem dX5_weigh_54 : decode cX5_weigh 54 = .ok (.aload_n 0, 1) := by decide +kernel
theorem dX5_weigh_55 : decode cX5_weigh 55 = .ok (.getfield 28, 3) := by decide +kernel
theorem dX5_weigh_58 : decode cX5_weigh 58 = .ok (.iload 4, 2) := by decide +kernel
theorem dX5_weigh_60 : decode cX5_weigh 60 = .ok (.invokevirtual 55, 3) := by decide +kernel
theorem dX5_weigh_63 : decode cX5_weigh 63 = .ok (.aload_n 0, 1) := by decide +kernel
theorem dX5_weigh_64 : decode cX5_weigh 64 = .ok (.getfield 28, 3) := by decide +kernel
theorem dX5_weigh_67 : decode cX5_weigh 67 = .ok (.iload 4, 2) := by decide +kernel
theorem dX5_weigh_69 : decode cX5_weigh 69 = .ok (.invokevirtual 59, 3) := by decide +kernel
theorem dX5_weigh_72 : decode cX5_weigh 72 = .ok (.aload_n 0, 1) := by decide +kernel
theorem dX5_weigh_73 : decode cX5_weigh 73 = .ok (.getfield 22, 3) := by decide +kernel
theorem dX5_weigh_76 : decode cX5_weigh 76 = .ok (.if_icmp .gt 7, 3) := by decide +kernel
theorem dX5_weigh_79 : decode cX5_weigh 79 = .ok (.iconst 0, 1) := by decide +kernel
theorem dX5_weigh_80 : decode cX5_weigh 80 = .ok (.goto 4, 3) := by decide +kernel
theorem dX5_weigh_83 : decode cX5_weigh 83 = .ok (.iconst 1, 1) := by decide +kernel
theorem dX5_weigh_84 : decode cX5_weigh 84 = .ok (.iadd, 1) := by decide +kernel
theorem dX5_weigh_85 : decode cX5_weigh 85 = .ok (.putfield 25, 3) := by decide +kernel
theorem dX5_weigh_88 : decode cX5_weigh 88 = .ok (.aload_n 0, 1) := by decide +kernel
theorem dX5_weigh_89 : decode cX5_weigh 89 = .ok (.iconst 0, 1) := by decide +kernel
theorem dX5_weigh_90 : decode cX5_weigh 90 = .ok (.putfield 18, 3) := by decide +kernel
theorem dX5_weigh_93 : decode cX5_weigh 93 = .ok (.aload_n 0, 1) := by decide +kernel
theorem dX5_weigh_94 : decode cX5_weigh 94 = .ok (.getfield 9, 3) := by decide +kernel
theorem dX5_weigh_97 : decode cX5_weigh 97 = .ok (.iconst 0, 1) := by decide +kernel
theorem dX5_weigh_98 : decode cX5_weigh 98 = .ok (.invokestatic 62, 3) := by decide +kernel
theorem dX5_weigh_101 : decode cX5_weigh 101 = .ok (.iconst 0, 1) := by decide +kernel
theorem dX5_weigh_102 : decode cX5_weigh 102 = .ok (.istore 5, 2) := by decide +kernel
theorem dX5_weigh_104 : decode cX5_weigh 104 = .ok (.iload 5, 2) := by decide +kernel
theorem dX5_weigh_106 : decode cX5_weigh 106 = .ok (.aload_n 0, 1) := by decide +kernel
theorem dX5_weigh_107 : decode cX5_weigh 107 = .ok (.getfield 32, 3) := by decide +kernel
theorem dX5_weigh_110 : decode cX5_weigh 110 = .ok (.getfield 50, 3) := by decide +kernel
theorem dX5_weigh_113 : decode cX5_weigh 113 = .ok (.iconst 2, 1) := by decide +kernel
theorem dX5_weigh_114 : decode cX5_weigh 114 = .ok (.iaload, 1) := by decide +kernel
theorem dX5_weigh_115 : decode cX5_weigh 115 = .ok (.if_icmp .ge 52, 3) := by decide +kernel
theorem dX5_weigh_118 : decode cX5_weigh 118 = .ok (.aload_n 0, 1) := by decide +kernel
theorem dX5_weigh_119 : decode cX5_weigh 119 = .ok (.getfield 32, 3) := by decide +kernel
theorem dX5_weigh_122 : decode cX5_weigh 122 = .ok (.iload 5, 2) := by decide +kernel
theorem dX5_weigh_124 : decode cX5_weigh 124 = .ok (.iconst 0, 1) := by decide +kernel
theorem dX5_weigh_125 : decode cX5_weigh 125 = .ok (.invokevirtual 68, 3) := by decide +kernel
theorem dX5_weigh_128 : decode cX5_weigh 128 = .ok (.istore 6, 2) := by decide +kernel
theorem dX5_weigh_130 : decode cX5_weigh 130 = .ok (.iload 6, 2) := by decide +kernel
theorem dX5_weigh_132 : decode cX5_weigh 132 = .ok (.iload 4, 2) := by decide +kernel
theorem dX5_weigh_134 : decode cX5_weigh 134 = .ok (.if_icmp .lt 27, 3) := by decide +kernel
theorem dX5_weigh_137 : decode cX5_weigh 137 = .ok (.aload_n 0, 1) := by decide +kernel
theorem dX5_weigh_138 : decode cX5_weigh 138 = .ok (.getfield 28, 3) := by decide +kernel
theorem dX5_weigh_141 : decode cX5_weigh 141 = .ok (.iload 6, 2) := by decide +kernel
theorem dX5_weigh_143 : decode cX5_weigh 143 = .ok (.invokevirtual 59, 3) := by decide +kernel
theorem dX5_weigh_146 : decode cX5_weigh 146 = .ok (.aload_n 0, 1) := by decide +kernel
theorem dX5_weigh_147 : decode cX5_weigh 147 = .ok (.getfield 22, 3) := by decide +kernel
theorem dX5_weigh_150 : decode cX5_weigh 150 = .ok (.if_icmp .gt 11, 3) := by decide +kernel
theorem dX5_weigh_153 : decode cX5_weigh 153 = .ok (.aload_n 0, 1) := by decide +kernel
theorem dX5_weigh_154 : decode cX5_weigh 154 = .ok (.iload_n 1, 1) := by decide +kernel
theorem dX5_weigh_155 : decode cX5_weigh 155 = .ok (.iload_n 2, 1) := by decide +kernel
theorem dX5_weigh_156 : decode cX5_weigh 156 = .ok (.iload 5, 2) := by decide +kernel
theorem dX5_weigh_158 : decode cX5_weigh 158 = .ok (.invokevirtual 71, 3) := by decide +kernel
theorem dX5_weigh_161 : decode cX5_weigh 161 = .ok (.iinc 5 1, 3) := by decide +kernel
theorem dX5_weigh_164 : decode cX5_weigh 164 = .ok (.goto (-60), 3) := by decide +kernel
theorem dX5_weigh_167 : decode cX5_weigh 167 = .ok (.return_, 1) := by decide +kernel
theorem dX5_weighDeed_0 : decode cX5_weighDeed 0 = .ok (.aload_n 0, 1) := by decide +kernel
theorem dX5_weighDeed_1 : decode cX5_weighDeed 1 = .ok (.getfield 32, 3) := by decide +kernel
theorem dX5_weighDeed_4 : decode cX5_weighDeed 4 = .ok (.iload_n 3, 1) := by decide +kernel
theorem dX5_weighDeed_5 : decode cX5_weighDeed 5 = .ok (.iconst 0, 1) := by decide +kernel
theorem dX5_weighDeed_6 : decode cX5_weighDeed 6 = .ok (.invokevirtual 68, 3) := by decide +kernel
theorem dX5_weighDeed_9 : decode cX5_weighDeed 9 = .ok (.istore 4, 2) := by decide +kernel
theorem dX5_weighDeed_11 : decode cX5_weighDeed 11 = .ok (.aload_n 0, 1) := by decide +kernel
theorem dX5_weighDeed_12 : decode cX5_weighDeed 12 = .ok (.getfield 28, 3) := by decide +kernel
theorem dX5_weighDeed_15 : decode cX5_weighDeed 15 = .ok (.iload 4, 2) := by decide +kernel
theorem dX5_weighDeed_17 : decode cX5_weighDeed 17 = .ok (.invokevirtual 55, 3) := by decide +kernel
theorem dX5_weighDeed_20 : decode cX5_weighDeed 20 = .ok (.istore 5, 2) := by decide +kernel
theorem dX5_weighDeed_22 : decode cX5_weighDeed 22 = .ok (.iload 5, 2) := by decide +kernel
theorem dX5_weighDeed_24 : decode cX5_weighDeed 24 = .ok (.ifCond .lt 10, 3) := by decide +kernel
theorem dX5_weighDeed_27 : decode cX5_weighDeed 27 = .ok (.iload 5, 2) := by decide +kernel
theorem dX5_weighDeed_29 : decode cX5_weighDeed 29 = .ok (.bipush 20, 2) := by decide +kernel
theorem dX5_weighDeed_31 : decode cX5_weighDeed 31 = .ok (.if_icmp .lt 4, 3) := by decide +kernel
theorem dX5_weighDeed_34 : decode cX5_weighDeed 34 = .ok (.return_, 1) := by decide +kernel
theorem dX5_weighDeed_35 : decode cX5_weighDeed 35 = .ok (.aload_n 0, 1) := by decide +kernel
theorem dX5_weighDeed_36 : decode cX5_weighDeed 36 = .ok (.getfield 32, 3) := by decide +kernel
theorem dX5_weighDeed_39 : decode cX5_weighDeed 39 = .ok (.iload_n 3, 1) := by decide +kernel
theorem dX5_weighDeed_40 : decode cX5_weighDeed 40 = .ok (.iconst 1, 1) := by decide +kernel
theorem dX5_weighDeed_41 : decode cX5_weighDeed 41 = .ok (.invokevirtual 68, 3) := by decide +kernel
theorem dX5_weighDeed_44 : decode cX5_weighDeed 44 = .ok (.aload_n 0, 1) := by decide +kernel
theorem dX5_weighDeed_45 : decode cX5_weighDeed 45 = .ok (.getfield 28, 3) := by decide +kernel
theorem dX5_weighDeed_48 : decode cX5_weighDeed 48 = .ok (.iload_n 1, 1) := by decide +kernel
theorem dX5_weighDeed_49 : decode cX5_weighDeed 49 = .ok (.iconst 0, 1) := by decide +kernel
theorem dX5_weighDeed_50 : decode cX5_weighDeed 50 = .ok (.invokevirtual 36, 3) := by decide +kernel
theorem dX5_weighDeed_53 : decode cX5_weighDeed 53 = .ok (.if_icmp .ne 7, 3) := by decide +kernel
theorem dX5_weighDeed_56 : decode cX5_weighDeed 56 = .ok (.iconst 1, 1) := by decide +kernel
theorem dX5_weighDeed_57 : decode cX5_weighDeed 57 = .ok (.goto 4, 3) := by decide +kernel
theorem dX5_weighDeed_60 : decode cX5_weighDeed 60 = .ok (.iconst 0, 1) := by decide +kernel
theorem dX5_weighDeed_61 : decode cX5_weighDeed 61 = .ok (.istore 6, 2) := by decide +kernel
theorem dX5_weighDeed_63 : decode cX5_weighDeed 63 = .ok (.aload_n 0, 1) := by decide +kernel
theorem dX5_weighDeed_64 : decode cX5_weighDeed 64 = .ok (.getfield 32, 3) := by decide +kernel
theorem dX5_weighDeed_67 : decode cX5_weighDeed 67 = .ok (.iload_n 3, 1) := by decide +kernel
theorem dX5_weighDeed_68 : decode cX5_weighDeed 68 = .ok (.iconst 2, 1) := by decide +kernel
theorem dX5_weighDeed_69 : decode cX5_weighDeed 69 = .ok (.invokevirtual 68, 3) := by decide +kernel
theorem dX5_weighDeed_72 : decode cX5_weighDeed 72 = .ok (.istore 7, 2) := by decide +kernel
theorem dX5_weighDeed_74 : decode cX5_weighDeed 74 = .ok (.iload 6, 2) := by decide +kernel
theorem dX5_weighDeed_76 : decode cX5_weighDeed 76 = .ok (.ifCond .eq 67, 3) := by decide +kernel
theorem dX5_weighDeed_79 : decode cX5_weighDeed 79 = .ok (.iload 7, 2) := by decide +kernel
theorem dX5_weighDeed_81 : decode cX5_weighDeed 81 = .ok (.aload_n 0, 1) := by decide +kernel
theorem dX5_weighDeed_82 : decode cX5_weighDeed 82 = .ok (.getfield 28, 3) := by decide +kernel
theorem dX5_weighDeed_85 : decode cX5_weighDeed 85 = .ok (.iload_n 1, 1) := by decide +kernel
theorem dX5_weighDeed_86 : decode cX5_weighDeed 86 = .ok (.iconst 1, 1) := by decide +kernel
theorem dX5_weighDeed_87 : decode cX5_weighDeed 87 = .ok (.invokevirtual 36, 3) := by decide +kernel
theorem dX5_weighDeed_90 : decode cX5_weighDeed 90 = .ok (.if_icmp .ne 53, 3) := by decide +kernel
theorem dX5_weighDeed_93 : decode cX5_weighDeed 93 = .ok (.aload_n 0, 1) := by decide +kernel
theorem dX5_weighDeed_94 : decode cX5_weighDeed 94 = .ok (.getfield 28, 3) := by decide +kernel
theorem dX5_weighDeed_97 : decode cX5_weighDeed 97 = .ok (.iload 4, 2) := by decide +kernel
theorem dX5_weighDeed_99 : decode cX5_weighDeed 99 = .ok (.invokevirtual 59, 3) := by decide +kernel
theorem dX5_weighDeed_102 : decode cX5_weighDeed 102 = .ok (.aload_n 0, 1) := by decide +kernel
theorem dX5_weighDeed_103 : decode cX5_weighDeed 103 = .ok (.getfield 28, 3) := by decide +kernel
theorem dX5_weighDeed_106 : decode cX5_weighDeed 106 = .ok (.iload_n 1, 1) := by decide +kernel
theorem dX5_weighDeed_107 : decode cX5_weighDeed 107 = .ok (.iconst 3, 1) := by decide +kernel
theorem dX5_weighDeed_108 : decode cX5_weighDeed 108 = .ok (.invokevirtual 36, 3) := by decide +kernel
theorem dX5_weighDeed_111 : decode cX5_weighDeed 111 = .ok (.if_icmp .lt 32, 3) := by decide +kernel
theorem dX5_weighDeed_114 : decode cX5_weighDeed 114 = .ok (.aload_n 0, 1) := by decide +kernel
theorem dX5_weighDeed_115 : decode cX5_weighDeed 115 = .ok (.iload_n 1, 1) := by decide +kernel
theorem dX5_weighDeed_116 : decode cX5_weighDeed 116 = .ok (.iload_n 2, 1) := by decide +kernel
theorem dX5_weighDeed_117 : decode cX5_weighDeed 117 = .ok (.aload_n 0, 1) := by decide +kernel
theorem dX5_weighDeed_118 : decode cX5_weighDeed 118 = .ok (.getfield 32, 3) := by decide +kernel
theorem dX5_weighDeed_121 : decode cX5_weighDeed 121 = .ok (.iload_n 3, 1) := by decide +kernel
theorem dX5_weighDeed_122 : decode cX5_weighDeed 122 = .ok (.iconst 3, 1) := by decide +kernel
theorem dX5_weighDeed_123 : decode cX5_weighDeed 123 = .ok (.invokevirtual 68, 3) := by decide +kernel
theorem dX5_weighDeed_126 : decode cX5_weighDeed 126 = .ok (.invokevirtual 75, 3) := by decide +kernel
theorem dX5_weighDeed_129 : decode cX5_weighDeed 129 = .ok (.ifCond .eq 14, 3) := by decide +kernel
theorem dX5_weighDeed_132 : decode cX5_weighDeed 132 = .ok (.aload_n 0, 1) := by decide +kernel
theorem dX5_weighDeed_133 : decode cX5_weighDeed 133 = .ok (.getfield 9, 3) := by decide +kernel
theorem dX5_weighDeed_136 : decode cX5_weighDeed 136 = .ok (.iload 5, 2) := by decide +kernel
theorem dX5_weighDeed_138 : decode cX5_weighDeed 138 = .ok (.dup2, 1) := by decide +kernel
theorem dX5_weighDeed_139 : decode cX5_weighDeed 139 = .ok (.iaload, 1) := by decide +kernel
theorem dX5_weighDeed_140 : decode cX5_weighDeed 140 = .ok (.iconst 1, 1) := by decide +kernel
theorem dX5_weighDeed_141 : decode cX5_weighDeed 141 = .ok (.iadd, 1) := by decide +kernel
theorem dX5_weighDeed_142 : decode cX5_weighDeed 142 = .ok (.iastore, 1) := by decide +kernel
theorem dX5_weighDeed_143 : decode cX5_weighDeed 143 = .ok (.iload 7, 2) := by decide +kernel
theorem dX5_weighDeed_145 : decode cX5_weighDeed 145 = .ok (.aload_n 0, 1) := by decide +kernel
theorem dX5_weighDeed_146 : decode cX5_weighDeed 146 = .ok (.getfield 28, 3) := by decide +kernel
theorem dX5_weighDeed_149 : decode cX5_weighDeed 149 = .ok (.iload_n 1, 1) := by decide +kernel
theorem dX5_weighDeed_150 : decode cX5_weighDeed 150 = .ok (.bipush 7, 2) := by decide +kernel
theorem dX5_weighDeed_152 : decode cX5_weighDeed 152 = .ok (.invokevirtual 36, 3) := by decide +kernel
theorem dX5_weighDeed_155 : decode cX5_weighDeed 155 = .ok (.if_icmp .ne 27, 3) := by decide +kernel
theorem dX5_weighDeed_158 : decode cX5_weighDeed 158 = .ok (.iload 6, 2) := by decide +kernel
theorem dX5_weighDeed_160 : decode cX5_weighDeed 160 = .ok (.ifCond .ne 9, 3) := by decide +kernel
theorem dX5_weighDeed_163 : decode cX5_weighDeed 163 = .ok (.iload_n 2, 1) := by decide +kernel
theorem dX5_weighDeed_164 : decode cX5_weighDeed 164 = .ok (.iconst 2, 1) := by decide +kernel
theorem dX5_weighDeed_165 : decode cX5_weighDeed 165 = .ok (.iand, 1) := by decide +kernel
theorem dX5_weighDeed_166 : decode cX5_weighDeed 166 = .ok (.ifCond .ne 16, 3) := by decide +kernel
theorem dX5_weighDeed_169 : decode cX5_weighDeed 169 = .ok (.aload_n 0, 1) := by decide +kernel
theorem dX5_weighDeed_170 : decode cX5_weighDeed 170 = .ok (.dup, 1) := by decide +kernel
theorem dX5_weighDeed_171 : decode cX5_weighDeed 171 = .ok (.getfield 18, 3) := by decide +kernel
theorem dX5_weighDeed_174 : decode cX5_weighDeed 174 = .ok (.iconst 1, 1) := by decide +kernel
theorem dX5_weighDeed_175 : decode cX5_weighDeed 175 = .ok (.iload 5, 2) := by decide +kernel
theorem dX5_weighDeed_177 : decode cX5_weighDeed 177 = .ok (.ishl, 1) := by decide +kernel
theorem dX5_weighDeed_178 : decode cX5_weighDeed 178 = .ok (.ior, 1) := by decide +kernel
theorem dX5_weighDeed_179 : decode cX5_weighDeed 179 = .ok (.putfield 18, 3) := by decide +kernel
theorem dX5_weighDeed_182 : decode cX5_weighDeed 182 = .ok (.return_, 1) := by decide +kernel
theorem dX5_isThere_0 : decode cX5_isThere 0 = .ok (.aload_n 0, 1) := by decide +kernel
theorem dX5_isThere_1 : decode cX5_isThere 1 = .ok (.getfield 28, 3) := by decide +kernel
theorem dX5_isThere_4 : decode cX5_isThere 4 = .ok (.iload_n 1, 1) := by decide +kernel
theorem dX5_isThere_5 : decode cX5_isThere 5 = .ok (.iconst 2, 1) := by decide +kernel
theorem dX5_isThere_6 : decode cX5_isThere 6 = .ok (.invokevirtual 36, 3) := by decide +kernel
theorem dX5_isThere_9 : decode cX5_isThere 9 = .ok (.istore 4, 2) := by decide +kernel
theorem dX5_isThere_11 : decode cX5_isThere 11 = .ok (.iload_n 3, 1) := by decide +kernel
theorem dX5_isThere_12 : decode cX5_isThere 12 = .ok (.iload 4, 2) := by decide +kernel
theorem dX5_isThere_14 : decode cX5_isThere 14 = .ok (.if_icmp .eq 22, 3) := by decide +kernel
theorem dX5_isThere_17 : decode cX5_isThere 17 = .ok (.iload_n 2, 1) := by decide +kernel
theorem dX5_isThere_18 : decode cX5_isThere 18 = .ok (.iconst 4, 1) := by decide +kernel
theorem dX5_isThere_19 : decode cX5_isThere 19 = .ok (.iand, 1) := by decide +kernel
theorem dX5_isThere_20 : decode cX5_isThere 20 = .ok (.ifCond .eq 20, 3) := by decide +kernel
theorem dX5_isThere_23 : decode cX5_isThere 23 = .ok (.aload_n 0, 1) := by decide +kernel
theorem dX5_isThere_24 : decode cX5_isThere 24 = .ok (.getfield 28, 3) := by decide +kernel
theorem dX5_isThere_27 : decode cX5_isThere 27 = .ok (.iload 4, 2) := by decide +kernel
theorem dX5_isThere_29 : decode cX5_isThere 29 = .ok (.iload_n 3, 1) := by decide +kernel
theorem dX5_isThere_30 : decode cX5_isThere 30 = .ok (.invokevirtual 79, 3) := by decide +kernel
theorem dX5_isThere_33 : decode cX5_isThere 33 = .ok (.ifCond .eq 7, 3) := by decide +kernel
theorem dX5_isThere_36 : decode cX5_isThere 36 = .ok (.iconst 1, 1) := by decide +kernel
theorem dX5_isThere_37 : decode cX5_isThere 37 = .ok (.goto 4, 3) := by decide +kernel
theorem dX5_isThere_40 : decode cX5_isThere 40 = .ok (.iconst 0, 1) := by decide +kernel
theorem dX5_isThere_41 : decode cX5_isThere 41 = .ok (.ireturn, 1) := by decide +kernel
theorem dX5_isWindowOver_0 : decode cX5_isWindowOver 0 = .ok (.iload_n 1, 1) := by decide +kernel
theorem dX5_isWindowOver_1 : decode cX5_isWindowOver 1 = .ok (.bipush 20, 2) := by decide +kernel
theorem dX5_isWindowOver_3 : decode cX5_isWindowOver 3 = .ok (.if_icmp .ge 33, 3) := by decide +kernel
theorem dX5_isWindowOver_6 : decode cX5_isWindowOver 6 = .ok (.aload_n 0, 1) := by decide +kernel
theorem dX5_isWindowOver_7 : decode cX5_isWindowOver 7 = .ok (.getfield 32, 3) := by decide +kernel
theorem dX5_isWindowOver_10 : decode cX5_isWindowOver 10 = .ok (.getfield 50, 3) := by decide +kernel
theorem dX5_isWindowOver_13 : decode cX5_isWindowOver 13 = .ok (.iconst 0, 1) := by decide +kernel
theorem dX5_isWindowOver_14 : decode cX5_isWindowOver 14 = .ok (.iaload, 1) := by decide +kernel
theorem dX5_isWindowOver_15 : decode cX5_isWindowOver 15 = .ok (.iload_n 1, 1) := by decide +kernel
theorem dX5_isWindowOver_16 : decode cX5_isWindowOver 16 = .ok (.aload_n 0, 1) := by decide +kernel
theorem dX5_isWindowOver_17 : decode cX5_isWindowOver 17 = .ok (.getfield 28, 3) := by decide +kernel
theorem dX5_isWindowOver_20 : decode cX5_isWindowOver 20 = .ok (.getfield 42, 3) := by decide +kernel
theorem dX5_isWindowOver_23 : decode cX5_isWindowOver 23 = .ok (.imul, 1) := by decide +kernel
theorem dX5_isWindowOver_24 : decode cX5_isWindowOver 24 = .ok (.aload_n 0, 1) := by decide +kernel
theorem dX5_isWindowOver_25 : decode cX5_isWindowOver 25 = .ok (.getfield 22, 3) := by decide +kernel
theorem dX5_isWindowOver_28 : decode cX5_isWindowOver 28 = .ok (.iadd, 1) := by decide +kernel
theorem dX5_isWindowOver_29 : decode cX5_isWindowOver 29 = .ok (.if_icmp .le 7, 3) := by decide +kernel
theorem dX5_isWindowOver_32 : decode cX5_isWindowOver 32 = .ok (.iconst 1, 1) := by decide +kernel
theorem dX5_isWindowOver_33 : decode cX5_isWindowOver 33 = .ok (.goto 4, 3) := by decide +kernel
theorem dX5_isWindowOver_36 : decode cX5_isWindowOver 36 = .ok (.iconst 0, 1) := by decide +kernel
theorem dX5_isWindowOver_37 : decode cX5_isWindowOver 37 = .ok (.ireturn, 1) := by decide +kernel
theorem dX5_isKeptOn_0 : decode cX5_isKeptOn 0 = .ok (.iload_n 2, 1) := by decide +kernel
theorem dX5_isKeptOn_1 : decode cX5_isKeptOn 1 = .ok (.bipush 20, 2) := by decide +kernel
theorem dX5_isKeptOn_3 : decode cX5_isKeptOn 3 = .ok (.if_icmp .ge 25, 3) := by decide +kernel
theorem dX5_isKeptOn_6 : decode cX5_isKeptOn 6 = .ok (.aload_n 0, 1) := by decide +kernel
theorem dX5_isKeptOn_7 : decode cX5_isKeptOn 7 = .ok (.getfield 9, 3) := by decide +kernel
theorem dX5_isKeptOn_10 : decode cX5_isKeptOn 10 = .ok (.iload_n 2, 1) := by decide +kernel
theorem dX5_isKeptOn_11 : decode cX5_isKeptOn 11 = .ok (.iaload, 1) := by decide +kernel
theorem dX5_isKeptOn_12 : decode cX5_isKeptOn 12 = .ok (.aload_n 0, 1) := by decide +kernel
theorem dX5_isKeptOn_13 : decode cX5_isKeptOn 13 = .ok (.getfield 28, 3) := by decide +kernel
theorem dX5_isKeptOn_16 : decode cX5_isKeptOn 16 = .ok (.iload_n 1, 1) := by decide +kernel
theorem dX5_isKeptOn_17 : decode cX5_isKeptOn 17 = .ok (.iconst 5, 1) := by decide +kernel
theorem dX5_isKeptOn_18 : decode cX5_isKeptOn 18 = .ok (.invokevirtual 36, 3) := by decide +kernel
theorem dX5_isKeptOn_21 : decode cX5_isKeptOn 21 = .ok (.if_icmp .lt 7, 3) := by decide +kernel
theorem dX5_isKeptOn_24 : decode cX5_isKeptOn 24 = .ok (.iconst 1, 1) := by decide +kernel
theorem dX5_isKeptOn_25 : decode cX5_isKeptOn 25 = .ok (.goto 4, 3) := by decide +kernel
theorem dX5_isKeptOn_28 : decode cX5_isKeptOn 28 = .ok (.iconst 0, 1) := by decide +kernel
theorem dX5_isKeptOn_29 : decode cX5_isKeptOn 29 = .ok (.ireturn, 1) := by decide +kernel
theorem dX5_isOffOn_0 : decode cX5_isOffOn 0 = .ok (.iload_n 1, 1) := by decide +kernel
theorem dX5_isOffOn_1 : decode cX5_isOffOn 1 = .ok (.bipush 20, 2) := by decide +kernel
theorem dX5_isOffOn_3 : decode cX5_isOffOn 3 = .ok (.if_icmp .ge 19, 3) := by decide +kernel
theorem dX5_isOffOn_6 : decode cX5_isOffOn 6 = .ok (.aload_n 0, 1) := by decide +kernel
theorem dX5_isOffOn_7 : decode cX5_isOffOn 7 = .ok (.getfield 18, 3) := by decide +kernel
theorem dX5_isOffOn_10 : decode cX5_isOffOn 10 = .ok (.iload_n 1, 1) := by decide +kernel
theorem dX5_isOffOn_11 : decode cX5_isOffOn 11 = .ok (.ishr, 1) := by decide +kernel
theorem dX5_isOffOn_12 : decode cX5_isOffOn 12 = .ok (.iconst 1, 1) := by decide +kernel
theorem dX5_isOffOn_13 : decode cX5_isOffOn 13 = .ok (.iand, 1) := by decide +kernel
theorem dX5_isOffOn_14 : decode cX5_isOffOn 14 = .ok (.iconst 1, 1) := by decide +kernel
theorem dX5_isOffOn_15 : decode cX5_isOffOn 15 = .ok (.if_icmp .ne 7, 3) := by decide +kernel
theorem dX5_isOffOn_18 : decode cX5_isOffOn 18 = .ok (.iconst 1, 1) := by decide +kernel
theorem dX5_isOffOn_19 : decode cX5_isOffOn 19 = .ok (.goto 4, 3) := by decide +kernel
theorem dX5_isOffOn_22 : decode cX5_isOffOn 22 = .ok (.iconst 0, 1) := by decide +kernel
theorem dX5_isOffOn_23 : decode cX5_isOffOn 23 = .ok (.ireturn, 1) := by decide +kernel
theorem dX5_statusOf_0 : decode cX5_statusOf 0 = .ok (.aload_n 0, 1) := by decide +kernel
theorem dX5_statusOf_1 : decode cX5_statusOf 1 = .ok (.getfield 32, 3) := by decide +kernel
theorem dX5_statusOf_4 : decode cX5_statusOf 4 = .ok (.iload_n 1, 1) := by decide +kernel
theorem dX5_statusOf_5 : decode cX5_statusOf 5 = .ok (.invokevirtual 83, 3) := by decide +kernel
theorem dX5_statusOf_8 : decode cX5_statusOf 8 = .ok (.ifCond .ne 5, 3) := by decide +kernel
theorem dX5_statusOf_11 : decode cX5_statusOf 11 = .ok (.iconst 0, 1) := by decide +kernel
theorem dX5_statusOf_12 : decode cX5_statusOf 12 = .ok (.ireturn, 1) := by decide +kernel
theorem dX5_statusOf_13 : decode cX5_statusOf 13 = .ok (.aload_n 0, 1) := by decide +kernel
theorem dX5_statusOf_14 : decode cX5_statusOf 14 = .ok (.iload_n 1, 1) := by decide +kernel
theorem dX5_statusOf_15 : decode cX5_statusOf 15 = .ok (.iload_n 2, 1) := by decide +kernel
theorem dX5_statusOf_16 : decode cX5_statusOf 16 = .ok (.invokevirtual 87, 3) := by decide +kernel
theorem dX5_statusOf_19 : decode cX5_statusOf 19 = .ok (.iconst (-1), 1) := by decide +kernel
theorem dX5_statusOf_20 : decode cX5_statusOf 20 = .ok (.if_icmp .eq 5, 3) := by decide +kernel
theorem dX5_statusOf_23 : decode cX5_statusOf 23 = .ok (.iconst 4, 1) := by decide +kernel
theorem dX5_statusOf_24 : decode cX5_statusOf 24 = .ok (.ireturn, 1) := by decide +kernel
theorem dX5_statusOf_25 : decode cX5_statusOf 25 = .ok (.aload_n 0, 1) := by decide +kernel
theorem dX5_statusOf_26 : decode cX5_statusOf 26 = .ok (.getfield 28, 3) := by decide +kernel
theorem dX5_statusOf_29 : decode cX5_statusOf 29 = .ok (.iload_n 1, 1) := by decide +kernel
theorem dX5_statusOf_30 : decode cX5_statusOf 30 = .ok (.bipush 6, 2) := by decide +kernel
theorem dX5_statusOf_32 : decode cX5_statusOf 32 = .ok (.invokevirtual 36, 3) := by decide +kernel
theorem dX5_statusOf_35 : decode cX5_statusOf 35 = .ok (.iconst 1, 1) := by decide +kernel
theorem dX5_statusOf_36 : decode cX5_statusOf 36 = .ok (.if_icmp .ne 5, 3) := by decide +kernel
theorem dX5_statusOf_39 : decode cX5_statusOf 39 = .ok (.iconst 1, 1) := by decide +kernel
theorem dX5_statusOf_40 : decode cX5_statusOf 40 = .ok (.ireturn, 1) := by decide +kernel
theorem dX5_statusOf_41 : decode cX5_statusOf 41 = .ok (.aload_n 0, 1) := by decide +kernel
theorem dX5_statusOf_42 : decode cX5_statusOf 42 = .ok (.iload_n 1, 1) := by decide +kernel
theorem dX5_statusOf_43 : decode cX5_statusOf 43 = .ok (.aload_n 0, 1) := by decide +kernel
theorem dX5_statusOf_44 : decode cX5_statusOf 44 = .ok (.getfield 25, 3) := by decide +kernel
theorem dX5_statusOf_47 : decode cX5_statusOf 47 = .ok (.invokevirtual 90, 3) := by decide +kernel
theorem dX5_statusOf_50 : decode cX5_statusOf 50 = .ok (.ifCond .eq 5, 3) := by decide +kernel
theorem dX5_statusOf_53 : decode cX5_statusOf 53 = .ok (.iconst 2, 1) := by decide +kernel
theorem dX5_statusOf_54 : decode cX5_statusOf 54 = .ok (.ireturn, 1) := by decide +kernel
theorem dX5_statusOf_55 : decode cX5_statusOf 55 = .ok (.aload_n 0, 1) := by decide +kernel
theorem dX5_statusOf_56 : decode cX5_statusOf 56 = .ok (.aload_n 0, 1) := by decide +kernel
theorem dX5_statusOf_57 : decode cX5_statusOf 57 = .ok (.getfield 25, 3) := by decide +kernel
theorem dX5_statusOf_60 : decode cX5_statusOf 60 = .ok (.invokevirtual 93, 3) := by decide +kernel
theorem dX5_statusOf_63 : decode cX5_statusOf 63 = .ok (.ifCond .eq 7, 3) := by decide +kernel
theorem dX5_statusOf_66 : decode cX5_statusOf 66 = .ok (.iconst 3, 1) := by decide +kernel
theorem dX5_statusOf_67 : decode cX5_statusOf 67 = .ok (.goto 4, 3) := by decide +kernel
theorem dX5_statusOf_70 : decode cX5_statusOf 70 = .ok (.iconst 1, 1) := by decide +kernel
theorem dX5_statusOf_71 : decode cX5_statusOf 71 = .ok (.ireturn, 1) := by decide +kernel
theorem dX5_brokenDay_0 : decode cX5_brokenDay 0 = .ok (.aload_n 0, 1) := by decide +kernel
theorem dX5_brokenDay_1 : decode cX5_brokenDay 1 = .ok (.getfield 32, 3) := by decide +kernel
theorem dX5_brokenDay_4 : decode cX5_brokenDay 4 = .ok (.iload_n 1, 1) := by decide +kernel
theorem dX5_brokenDay_5 : decode cX5_brokenDay 5 = .ok (.invokevirtual 83, 3) := by decide +kernel
theorem dX5_brokenDay_8 : decode cX5_brokenDay 8 = .ok (.ifCond .ne 5, 3) := by decide +kernel
theorem dX5_brokenDay_11 : decode cX5_brokenDay 11 = .ok (.iconst (-1), 1) := by decide +kernel
theorem dX5_brokenDay_12 : decode cX5_brokenDay 12 = .ok (.ireturn, 1) := by decide +kernel
theorem dX5_brokenDay_13 : decode cX5_brokenDay 13 = .ok (.aload_n 0, 1) := by decide +kernel
theorem dX5_brokenDay_14 : decode cX5_brokenDay 14 = .ok (.iload_n 1, 1) := by decide +kernel
theorem dX5_brokenDay_15 : decode cX5_brokenDay 15 = .ok (.iload_n 2, 1) := by decide +kernel
theorem dX5_brokenDay_16 : decode cX5_brokenDay 16 = .ok (.invokevirtual 96, 3) := by decide +kernel
theorem dX5_brokenDay_19 : decode cX5_brokenDay 19 = .ok (.aload_n 0, 1) := by decide +kernel
theorem dX5_brokenDay_20 : decode cX5_brokenDay 20 = .ok (.getfield 28, 3) := by decide +kernel
theorem dX5_brokenDay_23 : decode cX5_brokenDay 23 = .ok (.iload_n 1, 1) := by decide +kernel
theorem dX5_brokenDay_24 : decode cX5_brokenDay 24 = .ok (.bipush 6, 2) := by decide +kernel
theorem dX5_brokenDay_26 : decode cX5_brokenDay 26 = .ok (.invokevirtual 36, 3) := by decide +kernel
theorem dX5_brokenDay_29 : decode cX5_brokenDay 29 = .ok (.iconst 1, 1) := by decide +kernel
theorem dX5_brokenDay_30 : decode cX5_brokenDay 30 = .ok (.if_icmp .ne 8, 3) := by decide +kernel
theorem dX5_brokenDay_33 : decode cX5_brokenDay 33 = .ok (.bipush 19, 2) := by decide +kernel
theorem dX5_brokenDay_35 : decode cX5_brokenDay 35 = .ok (.goto 7, 3) := by decide +kernel
theorem dX5_brokenDay_38 : decode cX5_brokenDay 38 = .ok (.aload_n 0, 1) := by decide +kernel
theorem dX5_brokenDay_39 : decode cX5_brokenDay 39 = .ok (.getfield 25, 3) := by decide +kernel
theorem dX5_brokenDay_42 : decode cX5_brokenDay 42 = .ok (.istore_n 3, 1) := by decide +kernel
theorem dX5_brokenDay_43 : decode cX5_brokenDay 43 = .ok (.aload_n 0, 1) := by decide +kernel
theorem dX5_brokenDay_44 : decode cX5_brokenDay 44 = .ok (.getfield 25, 3) := by decide +kernel
theorem dX5_brokenDay_47 : decode cX5_brokenDay 47 = .ok (.istore 4, 2) := by decide +kernel
theorem dX5_brokenDay_49 : decode cX5_brokenDay 49 = .ok (.iload 4, 2) := by decide +kernel
theorem dX5_brokenDay_51 : decode cX5_brokenDay 51 = .ok (.iload_n 3, 1) := by decide +kernel
theorem dX5_brokenDay_52 : decode cX5_brokenDay 52 = .ok (.if_icmp .gt 40, 3) := by decide +kernel
theorem dX5_brokenDay_55 : decode cX5_brokenDay 55 = .ok (.aload_n 0, 1) := by decide +kernel
theorem dX5_brokenDay_56 : decode cX5_brokenDay 56 = .ok (.iload 4, 2) := by decide +kernel
theorem dX5_brokenDay_58 : decode cX5_brokenDay 58 = .ok (.invokevirtual 100, 3) := by decide +kernel
theorem dX5_brokenDay_61 : decode cX5_brokenDay 61 = .ok (.ifCond .eq 31, 3) := by decide +kernel
theorem dX5_brokenDay_64 : decode cX5_brokenDay 64 = .ok (.aload_n 0, 1) := by decide +kernel
theorem dX5_brokenDay_65 : decode cX5_brokenDay 65 = .ok (.iload_n 1, 1) := by decide +kernel
theorem dX5_brokenDay_66 : decode cX5_brokenDay 66 = .ok (.iload 4, 2) := by decide +kernel
theorem dX5_brokenDay_68 : decode cX5_brokenDay 68 = .ok (.invokevirtual 90, 3) := by decide +kernel
theorem dX5_brokenDay_71 : decode cX5_brokenDay 71 = .ok (.ifCond .ne 15, 3) := by decide +kernel
theorem dX5_brokenDay_74 : decode cX5_brokenDay 74 = .ok (.aload_n 0, 1) := by decide +kernel
theorem dX5_brokenDay_75 : decode cX5_brokenDay 75 = .ok (.iload 4, 2) := by decide +kernel
theorem dX5_brokenDay_77 : decode cX5_brokenDay 77 = .ok (.invokevirtual 93, 3) := by decide +kernel
theorem dX5_brokenDay_80 : decode cX5_brokenDay 80 = .ok (.ifCond .ne 6, 3) := by decide +kernel
theorem dX5_brokenDay_83 : decode cX5_brokenDay 83 = .ok (.iload 4, 2) := by decide +kernel
theorem dX5_brokenDay_85 : decode cX5_brokenDay 85 = .ok (.ireturn, 1) := by decide +kernel
theorem dX5_brokenDay_86 : decode cX5_brokenDay 86 = .ok (.iinc 4 1, 3) := by decide +kernel
theorem dX5_brokenDay_89 : decode cX5_brokenDay 89 = .ok (.goto (-40), 3) := by decide +kernel
theorem dX5_brokenDay_92 : decode cX5_brokenDay 92 = .ok (.iconst (-1), 1) := by decide +kernel
theorem dX5_brokenDay_93 : decode cX5_brokenDay 93 = .ok (.ireturn, 1) := by decide +kernel
theorem dX5_brokenBySome_0 : decode cX5_brokenBySome 0 = .ok (.iconst (-1), 1) := by decide +kernel
theorem dX5_brokenBySome_1 : decode cX5_brokenBySome 1 = .ok (.istore_n 2, 1) := by decide +kernel
theorem dX5_brokenBySome_2 : decode cX5_brokenBySome 2 = .ok (.iconst 0, 1) := by decide +kernel
theorem dX5_brokenBySome_3 : decode cX5_brokenBySome 3 = .ok (.istore_n 3, 1) := by decide +kernel
theorem dX5_brokenBySome_4 : decode cX5_brokenBySome 4 = .ok (.iload_n 3, 1) := by decide +kernel
theorem dX5_brokenBySome_5 : decode cX5_brokenBySome 5 = .ok (.bipush 8, 2) := by decide +kernel
theorem dX5_brokenBySome_7 : decode cX5_brokenBySome 7 = .ok (.if_icmp .ge 37, 3) := by decide +kernel
theorem dX5_brokenBySome_10 : decode cX5_brokenBySome 10 = .ok (.aload_n 0, 1) := by decide +kernel
theorem dX5_brokenBySome_11 : decode cX5_brokenBySome 11 = .ok (.iload_n 1, 1) := by decide +kernel
theorem dX5_brokenBySome_12 : decode cX5_brokenBySome 12 = .ok (.iload_n 3, 1) := by decide +kernel
theorem dX5_brokenBySome_13 : decode cX5_brokenBySome 13 = .ok (.invokevirtual 87, 3) := by decide +kernel
theorem dX5_brokenBySome_16 : decode cX5_brokenBySome 16 = .ok (.istore 4, 2) := by decide +kernel
theorem dX5_brokenBySome_18 : decode cX5_brokenBySome 18 = .ok (.iload 4, 2) := by decide +kernel
theorem dX5_brokenBySome_20 : decode cX5_brokenBySome 20 = .ok (.iconst (-1), 1) := by decide +kernel
theorem dX5_brokenBySome_21 : decode cX5_brokenBySome 21 = .ok (.if_icmp .eq 17, 3) := by decide +kernel
theorem dX5_brokenBySome_24 : decode cX5_brokenBySome 24 = .ok (.iload_n 2, 1) := by decide +kernel
theorem dX5_brokenBySome_25 : decode cX5_brokenBySome 25 = .ok (.iconst (-1), 1) := by decide +kernel
theorem dX5_brokenBySome_26 : decode cX5_brokenBySome 26 = .ok (.if_icmp .eq 9, 3) := by decide +kernel
theorem dX5_brokenBySome_29 : decode cX5_brokenBySome 29 = .ok (.iload 4, 2) := by decide +kernel
theorem dX5_brokenBySome_31 : decode cX5_brokenBySome 31 = .ok (.iload_n 2, 1) := by decide +kernel
theorem dX5_brokenBySome_32 : decode cX5_brokenBySome 32 = .ok (.if_icmp .ge 6, 3) := by decide +kernel
theorem dX5_brokenBySome_35 : decode cX5_brokenBySome 35 = .ok (.iload 4, 2) := by decide +kernel
theorem dX5_brokenBySome_37 : decode cX5_brokenBySome 37 = .ok (.istore_n 2, 1) := by decide +kernel
theorem dX5_brokenBySome_38 : decode cX5_brokenBySome 38 = .ok (.iinc 3 1, 3) := by decide +kernel
theorem dX5_brokenBySome_41 : decode cX5_brokenBySome 41 = .ok (.goto (-37), 3) := by decide +kernel
theorem dX5_brokenBySome_44 : decode cX5_brokenBySome 44 = .ok (.iload_n 2, 1) := by decide +kernel
theorem dX5_brokenBySome_45 : decode cX5_brokenBySome 45 = .ok (.ireturn, 1) := by decide +kernel
theorem dX5_brokenByAll_0 : decode cX5_brokenByAll 0 = .ok (.iconst (-1), 1) := by decide +kernel
theorem dX5_brokenByAll_1 : decode cX5_brokenByAll 1 = .ok (.istore_n 2, 1) := by decide +kernel
theorem dX5_brokenByAll_2 : decode cX5_brokenByAll 2 = .ok (.iconst 0, 1) := by decide +kernel
theorem dX5_brokenByAll_3 : decode cX5_brokenByAll 3 = .ok (.istore_n 3, 1) := by decide +kernel
theorem dX5_brokenByAll_4 : decode cX5_brokenByAll 4 = .ok (.iload_n 3, 1) := by decide +kernel
theorem dX5_brokenByAll_5 : decode cX5_brokenByAll 5 = .ok (.bipush 8, 2) := by decide +kernel
theorem dX5_brokenByAll_7 : decode cX5_brokenByAll 7 = .ok (.if_icmp .ge 32, 3) := by decide +kernel
theorem dX5_brokenByAll_10 : decode cX5_brokenByAll 10 = .ok (.aload_n 0, 1) := by decide +kernel
theorem dX5_brokenByAll_11 : decode cX5_brokenByAll 11 = .ok (.iload_n 1, 1) := by decide +kernel
theorem dX5_brokenByAll_12 : decode cX5_brokenByAll 12 = .ok (.iload_n 3, 1) := by decide +kernel
theorem dX5_brokenByAll_13 : decode cX5_brokenByAll 13 = .ok (.invokevirtual 87, 3) := by decide +kernel
theorem dX5_brokenByAll_16 : decode cX5_brokenByAll 16 = .ok (.istore 4, 2) := by decide +kernel
theorem dX5_brokenByAll_18 : decode cX5_brokenByAll 18 = .ok (.iload 4, 2) := by decide +kernel
theorem dX5_brokenByAll_20 : decode cX5_brokenByAll 20 = .ok (.iconst (-1), 1) := by decide +kernel
theorem dX5_brokenByAll_21 : decode cX5_brokenByAll 21 = .ok (.if_icmp .ne 5, 3) := by decide +kernel
theorem dX5_brokenByAll_24 : decode cX5_brokenByAll 24 = .ok (.iconst (-1), 1) := by decide +kernel
theorem dX5_brokenByAll_25 : decode cX5_brokenByAll 25 = .ok (.ireturn, 1) := by decide +kernel
theorem dX5_brokenByAll_26 : decode cX5_brokenByAll 26 = .ok (.iload_n 2, 1) := by decide +kernel
theorem dX5_brokenByAll_27 : decode cX5_brokenByAll 27 = .ok (.iload 4, 2) := by decide +kernel
theorem dX5_brokenByAll_29 : decode cX5_brokenByAll 29 = .ok (.invokestatic 103, 3) := by decide +kernel
theorem dX5_brokenByAll_32 : decode cX5_brokenByAll 32 = .ok (.istore_n 2, 1) := by decide +kernel
theorem dX5_brokenByAll_33 : decode cX5_brokenByAll 33 = .ok (.iinc 3 1, 3) := by decide +kernel
theorem dX5_brokenByAll_36 : decode cX5_brokenByAll 36 = .ok (.goto (-32), 3) := by decide +kernel
theorem dX5_brokenByAll_39 : decode cX5_brokenByAll 39 = .ok (.iload_n 2, 1) := by decide +kernel
theorem dX5_brokenByAll_40 : decode cX5_brokenByAll 40 = .ok (.ireturn, 1) := by decide +kernel
theorem dX5_asksToday_0 : decode cX5_asksToday 0 = .ok (.aload_n 0, 1) := by decide +kernel
theorem dX5_asksToday_1 : decode cX5_asksToday 1 = .ok (.getfield 32, 3) := by decide +kernel
theorem dX5_asksToday_4 : decode cX5_asksToday 4 = .ok (.iload_n 1, 1) := by decide +kernel
theorem dX5_asksToday_5 : decode cX5_asksToday 5 = .ok (.invokevirtual 83, 3) := by decide +kernel
theorem dX5_asksToday_8 : decode cX5_asksToday 8 = .ok (.ifCond .eq 13, 3) := by decide +kernel
theorem dX5_asksToday_11 : decode cX5_asksToday 11 = .ok (.aload_n 0, 1) := by decide +kernel
theorem dX5_asksToday_12 : decode cX5_asksToday 12 = .ok (.getfield 32, 3) := by decide +kernel
theorem dX5_asksToday_15 : decode cX5_asksToday 15 = .ok (.invokevirtual 106, 3) := by decide +kernel
theorem dX5_asksToday_18 : decode cX5_asksToday 18 = .ok (.ifCond .eq 5, 3) := by decide +kernel
theorem dX5_asksToday_21 : decode cX5_asksToday 21 = .ok (.iconst (-1), 1) := by decide +kernel
theorem dX5_asksToday_22 : decode cX5_asksToday 22 = .ok (.ireturn, 1) := by decide +kernel
theorem dX5_asksToday_23 : decode cX5_asksToday 23 = .ok (.aload_n 0, 1) := by decide +kernel
theorem dX5_asksToday_24 : decode cX5_asksToday 24 = .ok (.iload_n 1, 1) := by decide +kernel
theorem dX5_asksToday_25 : decode cX5_asksToday 25 = .ok (.iload_n 2, 1) := by decide +kernel
theorem dX5_asksToday_26 : decode cX5_asksToday 26 = .ok (.invokevirtual 96, 3) := by decide +kernel
theorem dX5_asksToday_29 : decode cX5_asksToday 29 = .ok (.aload_n 0, 1) := by decide +kernel
theorem dX5_asksToday_30 : decode cX5_asksToday 30 = .ok (.getfield 28, 3) := by decide +kernel
theorem dX5_asksToday_33 : decode cX5_asksToday 33 = .ok (.aload_n 0, 1) := by decide +kernel
theorem dX5_asksToday_34 : decode cX5_asksToday 34 = .ok (.getfield 32, 3) := by decide +kernel
theorem dX5_asksToday_37 : decode cX5_asksToday 37 = .ok (.getfield 50, 3) := by decide +kernel
theorem dX5_asksToday_40 : decode cX5_asksToday 40 = .ok (.iconst 0, 1) := by decide +kernel
theorem dX5_asksToday_41 : decode cX5_asksToday 41 = .ok (.iaload, 1) := by decide +kernel
theorem dX5_asksToday_42 : decode cX5_asksToday 42 = .ok (.invokevirtual 55, 3) := by decide +kernel
theorem dX5_asksToday_45 : decode cX5_asksToday 45 = .ok (.istore_n 3, 1) := by decide +kernel
theorem dX5_asksToday_46 : decode cX5_asksToday 46 = .ok (.iload_n 3, 1) := by decide +kernel
theorem dX5_asksToday_47 : decode cX5_asksToday 47 = .ok (.aload_n 0, 1) := by decide +kernel
theorem dX5_asksToday_48 : decode cX5_asksToday 48 = .ok (.getfield 25, 3) := by decide +kernel
theorem dX5_asksToday_51 : decode cX5_asksToday 51 = .ok (.if_icmp .lt 24, 3) := by decide +kernel
theorem dX5_asksToday_54 : decode cX5_asksToday 54 = .ok (.iload_n 3, 1) := by decide +kernel
theorem dX5_asksToday_55 : decode cX5_asksToday 55 = .ok (.aload_n 0, 1) := by decide +kernel
theorem dX5_asksToday_56 : decode cX5_asksToday 56 = .ok (.getfield 25, 3) := by decide +kernel
theorem dX5_asksToday_59 : decode cX5_asksToday 59 = .ok (.if_icmp .le 18, 3) := by decide +kernel
theorem dX5_asksToday_62 : decode cX5_asksToday 62 = .ok (.aload_n 0, 1) := by decide +kernel
theorem dX5_asksToday_63 : decode cX5_asksToday 63 = .ok (.getfield 28, 3) := by decide +kernel
theorem dX5_asksToday_66 : decode cX5_asksToday 66 = .ok (.iload_n 1, 1) := by decide +kernel
theorem dX5_asksToday_67 : decode cX5_asksToday 67 = .ok (.bipush 6, 2) := by decide +kernel
theorem dX5_asksToday_69 : decode cX5_asksToday 69 = .ok (.invokevirtual 36, 3) := by decide +kernel
theorem dX5_asksToday_72 : decode cX5_asksToday 72 = .ok (.ifCond .ne 5, 3) := by decide +kernel
theorem dX5_asksToday_75 : decode cX5_asksToday 75 = .ok (.iconst (-1), 1) := by decide +kernel
theorem dX5_asksToday_76 : decode cX5_asksToday 76 = .ok (.ireturn, 1) := by decide +kernel
theorem dX5_asksToday_77 : decode cX5_asksToday 77 = .ok (.iconst 0, 1) := by decide +kernel
theorem dX5_asksToday_78 : decode cX5_asksToday 78 = .ok (.aload_n 0, 1) := by decide +kernel
theorem dX5_asksToday_79 : decode cX5_asksToday 79 = .ok (.getfield 28, 3) := by decide +kernel
theorem dX5_asksToday_82 : decode cX5_asksToday 82 = .ok (.iload_n 1, 1) := by decide +kernel
theorem dX5_asksToday_83 : decode cX5_asksToday 83 = .ok (.iconst 5, 1) := by decide +kernel
theorem dX5_asksToday_84 : decode cX5_asksToday 84 = .ok (.invokevirtual 36, 3) := by decide +kernel
theorem dX5_asksToday_87 : decode cX5_asksToday 87 = .ok (.aload_n 0, 1) := by decide +kernel
theorem dX5_asksToday_88 : decode cX5_asksToday 88 = .ok (.getfield 9, 3) := by decide +kernel
theorem dX5_asksToday_91 : decode cX5_asksToday 91 = .ok (.iload_n 3, 1) := by decide +kernel
theorem dX5_asksToday_92 : decode cX5_asksToday 92 = .ok (.iaload, 1) := by decide +kernel
theorem dX5_asksToday_93 : decode cX5_asksToday 93 = .ok (.isub, 1) := by decide +kernel
theorem dX5_asksToday_94 : decode cX5_asksToday 94 = .ok (.invokestatic 103, 3) := by decide +kernel
theorem dX5_asksToday_97 : decode cX5_asksToday 97 = .ok (.ireturn, 1) := by decide +kernel
theorem dX5_brokenCount_0 : decode cX5_brokenCount 0 = .ok (.iconst 0, 1) := by decide +kernel
theorem dX5_brokenCount_1 : decode cX5_brokenCount 1 = .ok (.istore_n 1, 1) := by decide +kernel
theorem dX5_brokenCount_2 : decode cX5_brokenCount 2 = .ok (.iconst 0, 1) := by decide +kernel
theorem dX5_brokenCount_3 : decode cX5_brokenCount 3 = .ok (.istore_n 2, 1) := by decide +kernel
theorem dX5_brokenCount_4 : decode cX5_brokenCount 4 = .ok (.iload_n 2, 1) := by decide +kernel
theorem dX5_brokenCount_5 : decode cX5_brokenCount 5 = .ok (.aload_n 0, 1) := by decide +kernel
theorem dX5_brokenCount_6 : decode cX5_brokenCount 6 = .ok (.getfield 28, 3) := by decide +kernel
theorem dX5_brokenCount_9 : decode cX5_brokenCount 9 = .ok (.getfield 110, 3) := by decide +kernel
theorem dX5_brokenCount_12 : decode cX5_brokenCount 12 = .ok (.if_icmp .ge 27, 3) := by decide +kernel
theorem dX5_brokenCount_15 : decode cX5_brokenCount 15 = .ok (.iload_n 1, 1) := by decide +kernel
theorem dX5_brokenCount_16 : decode cX5_brokenCount 16 = .ok (.aload_n 0, 1) := by decide +kernel
theorem dX5_brokenCount_17 : decode cX5_brokenCount 17 = .ok (.iload_n 2, 1) := by decide +kernel
theorem dX5_brokenCount_18 : decode cX5_brokenCount 18 = .ok (.iconst 0, 1) := by decide +kernel
theorem dX5_brokenCount_19 : decode cX5_brokenCount 19 = .ok (.invokevirtual 87, 3) := by decide +kernel
theorem dX5_brokenCount_22 : decode cX5_brokenCount 22 = .ok (.iconst (-1), 1) := by decide +kernel
theorem dX5_brokenCount_23 : decode cX5_brokenCount 23 = .ok (.if_icmp .eq 7, 3) := by decide +kernel
theorem dX5_brokenCount_26 : decode cX5_brokenCount 26 = .ok (.iconst 1, 1) := by decide +kernel
theorem dX5_brokenCount_27 : decode cX5_brokenCount 27 = .ok (.goto 4, 3) := by decide +kernel
theorem dX5_brokenCount_30 : decode cX5_brokenCount 30 = .ok (.iconst 0, 1) := by decide +kernel
theorem dX5_brokenCount_31 : decode cX5_brokenCount 31 = .ok (.iadd, 1) := by decide +kernel
theorem dX5_brokenCount_32 : decode cX5_brokenCount 32 = .ok (.istore_n 1, 1) := by decide +kernel
theorem dX5_brokenCount_33 : decode cX5_brokenCount 33 = .ok (.iinc 2 1, 3) := by decide +kernel
theorem dX5_brokenCount_36 : decode cX5_brokenCount 36 = .ok (.goto (-32), 3) := by decide +kernel
theorem dX5_brokenCount_39 : decode cX5_brokenCount 39 = .ok (.iload_n 1, 1) := by decide +kernel
theorem dX5_brokenCount_40 : decode cX5_brokenCount 40 = .ok (.ireturn, 1) := by decide +kernel
theorem dX5_isLikePlain_0 : decode cX5_isLikePlain 0 = .ok (.iconst 0, 1) := by decide +kernel
theorem dX5_isLikePlain_1 : decode cX5_isLikePlain 1 = .ok (.istore_n 2, 1) := by decide +kernel
theorem dX5_isLikePlain_2 : decode cX5_isLikePlain 2 = .ok (.iload_n 2, 1) := by decide +kernel
theorem dX5_isLikePlain_3 : decode cX5_isLikePlain 3 = .ok (.aload_n 0, 1) := by decide +kernel
theorem dX5_isLikePlain_4 : decode cX5_isLikePlain 4 = .ok (.getfield 28, 3) := by decide +kernel
theorem dX5_isLikePlain_7 : decode cX5_isLikePlain 7 = .ok (.getfield 110, 3) := by decide +kernel
theorem dX5_isLikePlain_10 : decode cX5_isLikePlain 10 = .ok (.if_icmp .ge 26, 3) := by decide +kernel
theorem dX5_isLikePlain_13 : decode cX5_isLikePlain 13 = .ok (.aload_n 0, 1) := by decide +kernel
theorem dX5_isLikePlain_14 : decode cX5_isLikePlain 14 = .ok (.iload_n 2, 1) := by decide +kernel
theorem dX5_isLikePlain_15 : decode cX5_isLikePlain 15 = .ok (.iload_n 1, 1) := by decide +kernel
theorem dX5_isLikePlain_16 : decode cX5_isLikePlain 16 = .ok (.invokevirtual 113, 3) := by decide +kernel
theorem dX5_isLikePlain_19 : decode cX5_isLikePlain 19 = .ok (.aload_n 0, 1) := by decide +kernel
theorem dX5_isLikePlain_20 : decode cX5_isLikePlain 20 = .ok (.iload_n 2, 1) := by decide +kernel
theorem dX5_isLikePlain_21 : decode cX5_isLikePlain 21 = .ok (.iconst 0, 1) := by decide +kernel
theorem dX5_isLikePlain_22 : decode cX5_isLikePlain 22 = .ok (.invokevirtual 113, 3) := by decide +kernel
theorem dX5_isLikePlain_25 : decode cX5_isLikePlain 25 = .ok (.if_icmp .eq 5, 3) := by decide +kernel
theorem dX5_isLikePlain_28 : decode cX5_isLikePlain 28 = .ok (.iconst 0, 1) := by decide +kernel
theorem dX5_isLikePlain_29 : decode cX5_isLikePlain 29 = .ok (.ireturn, 1) := by decide +kernel
theorem dX5_isLikePlain_30 : decode cX5_isLikePlain 30 = .ok (.iinc 2 1, 3) := by decide +kernel
theorem dX5_isLikePlain_33 : decode cX5_isLikePlain 33 = .ok (.goto (-31), 3) := by decide +kernel
theorem dX5_isLikePlain_36 : decode cX5_isLikePlain 36 = .ok (.iconst 1, 1) := by decide +kernel
theorem dX5_isLikePlain_37 : decode cX5_isLikePlain 37 = .ok (.ireturn, 1) := by decide +kernel
theorem dX5_gatherHours_0 : decode cX5_gatherHours 0 = .ok (.aload_n 0, 1) := by decide +kernel
theorem dX5_gatherHours_1 : decode cX5_gatherHours 1 = .ok (.getfield 15, 3) := by decide +kernel
theorem dX5_gatherHours_4 : decode cX5_gatherHours 4 = .ok (.iconst 0, 1) := by decide +kernel
theorem dX5_gatherHours_5 : decode cX5_gatherHours 5 = .ok (.invokestatic 62, 3) := by decide +kernel
theorem dX5_gatherHours_8 : decode cX5_gatherHours 8 = .ok (.iconst 0, 1) := by decide +kernel
theorem dX5_gatherHours_9 : decode cX5_gatherHours 9 = .ok (.istore 4, 2) := by decide +kernel
theorem dX5_gatherHours_11 : decode cX5_gatherHours 11 = .ok (.iload 4, 2) := by decide +kernel
theorem dX5_gatherHours_13 : decode cX5_gatherHours 13 = .ok (.aload_n 0, 1) := by decide +kernel
theorem dX5_gatherHours_14 : decode cX5_gatherHours 14 = .ok (.getfield 32, 3) := by decide +kernel
theorem dX5_gatherHours_17 : decode cX5_gatherHours 17 = .ok (.getfield 50, 3) := by decide +kernel
theorem dX5_gatherHours_20 : decode cX5_gatherHours 20 = .ok (.iconst 2, 1) := by decide +kernel
theorem dX5_gatherHours_21 : decode cX5_gatherHours 21 = .ok (.iaload, 1) := by decide +kernel
theorem dX5_gatherHours_22 : decode cX5_gatherHours 22 = .ok (.if_icmp .ge 107, 3) := by decide +kernel
theorem dX5_gatherHours_25 : decode cX5_gatherHours 25 = .ok (.aload_n 0, 1) := by decide +kernel
theorem dX5_gatherHours_26 : decode cX5_gatherHours 26 = .ok (.getfield 32, 3) := by decide +kernel
theorem dX5_gatherHours_29 : decode cX5_gatherHours 29 = .ok (.iload 4, 2) := by decide +kernel
theorem dX5_gatherHours_31 : decode cX5_gatherHours 31 = .ok (.iconst 0, 1) := by decide +kernel
theorem dX5_gatherHours_32 : decode cX5_gatherHours 32 = .ok (.invokevirtual 68, 3) := by decide +kernel
theorem dX5_gatherHours_35 : decode cX5_gatherHours 35 = .ok (.istore 5, 2) := by decide +kernel
theorem dX5_gatherHours_37 : decode cX5_gatherHours 37 = .ok (.aload_n 0, 1) := by decide +kernel
theorem dX5_gatherHours_38 : decode cX5_gatherHours 38 = .ok (.getfield 28, 3) := by decide +kernel
theorem dX5_gatherHours_41 : decode cX5_gatherHours 41 = .ok (.iload 5, 2) := by decide +kernel
theorem dX5_gatherHours_43 : decode cX5_gatherHours 43 = .ok (.invokevirtual 55, 3) := by decide +kernel
theorem dX5_gatherHours_46 : decode cX5_gatherHours 46 = .ok (.istore 6, 2) := by decide +kernel
theorem dX5_gatherHours_48 : decode cX5_gatherHours 48 = .ok (.aload_n 0, 1) := by decide +kernel
theorem dX5_gatherHours_49 : decode cX5_gatherHours 49 = .ok (.getfield 32, 3) := by decide +kernel
theorem dX5_gatherHours_52 : decode cX5_gatherHours 52 = .ok (.iload 4, 2) := by decide +kernel
theorem dX5_gatherHours_54 : decode cX5_gatherHours 54 = .ok (.iconst 1, 1) := by decide +kernel
theorem dX5_gatherHours_55 : decode cX5_gatherHours 55 = .ok (.invokevirtual 68, 3) := by decide +kernel
theorem dX5_gatherHours_58 : decode cX5_gatherHours 58 = .ok (.iload_n 1, 1) := by decide +kernel
theorem dX5_gatherHours_59 : decode cX5_gatherHours 59 = .ok (.if_icmp .ne 64, 3) := by decide +kernel
theorem dX5_gatherHours_62 : decode cX5_gatherHours 62 = .ok (.aload_n 0, 1) := by decide +kernel
theorem dX5_gatherHours_63 : decode cX5_gatherHours 63 = .ok (.getfield 32, 3) := by decide +kernel
theorem dX5_gatherHours_66 : decode cX5_gatherHours 66 = .ok (.iload 4, 2) := by decide +kernel
theorem dX5_gatherHours_68 : decode cX5_gatherHours 68 = .ok (.iconst 2, 1) := by decide +kernel
theorem dX5_gatherHours_69 : decode cX5_gatherHours 69 = .ok (.invokevirtual 68, 3) := by decide +kernel
theorem dX5_gatherHours_72 : decode cX5_gatherHours 72 = .ok (.iload_n 2, 1) := by decide +kernel
theorem dX5_gatherHours_73 : decode cX5_gatherHours 73 = .ok (.if_icmp .ne 50, 3) := by decide +kernel
theorem dX5_gatherHours_76 : decode cX5_gatherHours 76 = .ok (.aload_n 0, 1) := by decide +kernel
theorem dX5_gatherHours_77 : decode cX5_gatherHours 77 = .ok (.getfield 32, 3) := by decide +kernel
theorem dX5_gatherHours_80 : decode cX5_gatherHours 80 = .ok (.iload 4, 2) := by decide +kernel
theorem dX5_gatherHours_82 : decode cX5_gatherHours 82 = .ok (.iconst 3, 1) := by decide +kernel
theorem dX5_gatherHours_83 : decode cX5_gatherHours 83 = .ok (.invokevirtual 68, 3) := by decide +kernel
theorem dX5_gatherHours_86 : decode cX5_gatherHours 86 = .ok (.iload_n 3, 1) := by decide +kernel
theorem dX5_gatherHours_87 : decode cX5_gatherHours 87 = .ok (.if_icmp .ne 36, 3) := by decide +kernel
theorem dX5_gatherHours_90 : decode cX5_gatherHours 90 = .ok (.iload 6, 2) := by decide +kernel
theorem dX5_gatherHours_92 : decode cX5_gatherHours 92 = .ok (.ifCond .lt 31, 3) := by decide +kernel
theorem dX5_gatherHours_95 : decode cX5_gatherHours 95 = .ok (.iload 6, 2) := by decide +kernel
theorem dX5_gatherHours_97 : decode cX5_gatherHours 97 = .ok (.bipush 20, 2) := by decide +kernel
theorem dX5_gatherHours_99 : decode cX5_gatherHours 99 = .ok (.if_icmp .ge 24, 3) := by decide +kernel
theorem dX5_gatherHours_102 : decode cX5_gatherHours 102 = .ok (.aload_n 0, 1) := by decide +kernel
theorem dX5_gatherHours_103 : decode cX5_gatherHours 103 = .ok (.getfield 15, 3) := by decide +kernel
theorem dX5_gatherHours_106 : decode cX5_gatherHours 106 = .ok (.iload 6, 2) := by decide +kernel
theorem dX5_gatherHours_108 : decode cX5_gatherHours 108 = .ok (.dup2, 1) := by decide +kernel
theorem dX5_gatherHours_109 : decode cX5_gatherHours 109 = .ok (.iaload, 1) := by decide +kernel
theorem dX5_gatherHours_110 : decode cX5_gatherHours 110 = .ok (.iconst 1, 1) := by decide +kernel
theorem dX5_gatherHours_111 : decode cX5_gatherHours 111 = .ok (.aload_n 0, 1) := by decide +kernel
theorem dX5_gatherHours_112 : decode cX5_gatherHours 112 = .ok (.getfield 28, 3) := by decide +kernel
theorem dX5_gatherHours_115 : decode cX5_gatherHours 115 = .ok (.iload 5, 2) := by decide +kernel
theorem dX5_gatherHours_117 : decode cX5_gatherHours 117 = .ok (.invokevirtual 59, 3) := by decide +kernel
theorem dX5_gatherHours_120 : decode cX5_gatherHours 120 = .ok (.ishl, 1) := by decide +kernel
theorem dX5_gatherHours_121 : decode cX5_gatherHours 121 = .ok (.ior, 1) := by decide +kernel
theorem dX5_gatherHours_122 : decode cX5_gatherHours 122 = .ok (.iastore, 1) := by decide +kernel
theorem dX5_gatherHours_123 : decode cX5_gatherHours 123 = .ok (.iinc 4 1, 3) := by decide +kernel
theorem dX5_gatherHours_126 : decode cX5_gatherHours 126 = .ok (.goto (-115), 3) := by decide +kernel
theorem dX5_gatherHours_129 : decode cX5_gatherHours 129 = .ok (.return_, 1) := by decide +kernel
theorem dX5_isFitting_0 : decode cX5_isFitting 0 = .ok (.iconst 1, 1) := by decide +kernel
theorem dX5_isFitting_1 : decode cX5_isFitting 1 = .ok (.iload_n 2, 1) := by decide +kernel
theorem dX5_isFitting_2 : decode cX5_isFitting 2 = .ok (.iconst 1, 1) := by decide +kernel
theorem dX5_isFitting_3 : decode cX5_isFitting 3 = .ok (.iadd, 1) := by decide +kernel
theorem dX5_isFitting_4 : decode cX5_isFitting 4 = .ok (.ishl, 1) := by decide +kernel
theorem dX5_isFitting_5 : decode cX5_isFitting 5 = .ok (.iconst 1, 1) := by decide +kernel
theorem dX5_isFitting_6 : decode cX5_isFitting 6 = .ok (.iload_n 1, 1) := by decide +kernel
theorem dX5_isFitting_7 : decode cX5_isFitting 7 = .ok (.ishl, 1) := by decide +kernel
theorem dX5_isFitting_8 : decode cX5_isFitting 8 = .ok (.isub, 1) := by decide +kernel
theorem dX5_isFitting_9 : decode cX5_isFitting 9 = .ok (.istore_n 3, 1) := by decide +kernel
theorem dX5_isFitting_10 : decode cX5_isFitting 10 = .ok (.bipush 20, 2) := by decide +kernel
theorem dX5_isFitting_12 : decode cX5_isFitting 12 = .ok (.aload_n 0, 1) := by decide +kernel
theorem dX5_isFitting_13 : decode cX5_isFitting 13 = .ok (.getfield 28, 3) := by decide +kernel
theorem dX5_isFitting_16 : decode cX5_isFitting 16 = .ok (.aload_n 0, 1) := by decide +kernel
theorem dX5_isFitting_17 : decode cX5_isFitting 17 = .ok (.getfield 32, 3) := by decide +kernel
theorem dX5_isFitting_20 : decode cX5_isFitting 20 = .ok (.getfield 50, 3) := by decide +kernel
theorem dX5_isFitting_23 : decode cX5_isFitting 23 = .ok (.iconst 0, 1) := by decide +kernel
theorem dX5_isFitting_24 : decode cX5_isFitting 24 = .ok (.iaload, 1) := by decide +kernel
theorem dX5_isFitting_25 : decode cX5_isFitting 25 = .ok (.invokevirtual 55, 3) := by decide +kernel
theorem dX5_isFitting_28 : decode cX5_isFitting 28 = .ok (.invokestatic 45, 3) := by decide +kernel
theorem dX5_isFitting_31 : decode cX5_isFitting 31 = .ok (.istore 4, 2) := by decide +kernel
theorem dX5_isFitting_33 : decode cX5_isFitting 33 = .ok (.iconst 0, 1) := by decide +kernel
theorem dX5_isFitting_34 : decode cX5_isFitting 34 = .ok (.istore 5, 2) := by decide +kernel
theorem dX5_isFitting_36 : decode cX5_isFitting 36 = .ok (.iload 5, 2) := by decide +kernel
theorem dX5_isFitting_38 : decode cX5_isFitting 38 = .ok (.iload 4, 2) := by decide +kernel
theorem dX5_isFitting_40 : decode cX5_isFitting 40 = .ok (.if_icmp .ge 23, 3) := by decide +kernel
theorem dX5_isFitting_43 : decode cX5_isFitting 43 = .ok (.aload_n 0, 1) := by decide +kernel
theorem dX5_isFitting_44 : decode cX5_isFitting 44 = .ok (.getfield 15, 3) := by decide +kernel
theorem dX5_isFitting_47 : decode cX5_isFitting 47 = .ok (.iload 5, 2) := by decide +kernel
theorem dX5_isFitting_49 : decode cX5_isFitting 49 = .ok (.iaload, 1) := by decide +kernel
theorem dX5_isFitting_50 : decode cX5_isFitting 50 = .ok (.iload_n 3, 1) := by decide +kernel
theorem dX5_isFitting_51 : decode cX5_isFitting 51 = .ok (.iand, 1) := by decide +kernel
theorem dX5_isFitting_52 : decode cX5_isFitting 52 = .ok (.ifCond .ne 5, 3) := by decide +kernel
theorem dX5_isFitting_55 : decode cX5_isFitting 55 = .ok (.iconst 0, 1) := by decide +kernel
theorem dX5_isFitting_56 : decode cX5_isFitting 56 = .ok (.ireturn, 1) := by decide +kernel
theorem dX5_isFitting_57 : decode cX5_isFitting 57 = .ok (.iinc 5 1, 3) := by decide +kernel
theorem dX5_isFitting_60 : decode cX5_isFitting 60 = .ok (.goto (-24), 3) := by decide +kernel
theorem dX5_isFitting_63 : decode cX5_isFitting 63 = .ok (.iconst 1, 1) := by decide +kernel
theorem dX5_isFitting_64 : decode cX5_isFitting 64 = .ok (.ireturn, 1) := by decide +kernel
theorem dX5_fittingWindows_0 : decode cX5_fittingWindows 0 = .ok (.aload_n 0, 1) := by decide +kernel
theorem dX5_fittingWindows_1 : decode cX5_fittingWindows 1 = .ok (.iload_n 1, 1) := by decide +kernel
theorem dX5_fittingWindows_2 : decode cX5_fittingWindows 2 = .ok (.iload_n 2, 1) := by decide +kernel
theorem dX5_fittingWindows_3 : decode cX5_fittingWindows 3 = .ok (.iload_n 3, 1) := by decide +kernel
theorem dX5_fittingWindows_4 : decode cX5_fittingWindows 4 = .ok (.invokevirtual 116, 3) := by decide +kernel
theorem dX5_fittingWindows_7 : decode cX5_fittingWindows 7 = .ok (.iconst 0, 1) := by decide +kernel
theorem dX5_fittingWindows_8 : decode cX5_fittingWindows 8 = .ok (.istore 4, 2) := by decide +kernel
theorem dX5_fittingWindows_10 : decode cX5_fittingWindows 10 = .ok (.iconst 0, 1) := by decide +kernel
theorem dX5_fittingWindows_11 : decode cX5_fittingWindows 11 = .ok (.istore 5, 2) := by decide +kernel
theorem dX5_fittingWindows_13 : decode cX5_fittingWindows 13 = .ok (.iload 5, 2) := by decide +kernel
theorem dX5_fittingWindows_15 : decode cX5_fittingWindows 15 = .ok (.aload_n 0, 1) := by decide +kernel
theorem dX5_fittingWindows_16 : decode cX5_fittingWindows 16 = .ok (.getfield 28, 3) := by decide +kernel
theorem dX5_fittingWindows_19 : decode cX5_fittingWindows 19 = .ok (.getfield 42, 3) := by decide +kernel
theorem dX5_fittingWindows_22 : decode cX5_fittingWindows 22 = .ok (.if_icmp .ge 52, 3) := by decide +kernel
theorem dX5_fittingWindows_25 : decode cX5_fittingWindows 25 = .ok (.iload 5, 2) := by decide +kernel
theorem dX5_fittingWindows_27 : decode cX5_fittingWindows 27 = .ok (.istore 6, 2) := by decide +kernel
theorem dX5_fittingWindows_29 : decode cX5_fittingWindows 29 = .ok (.iload 6, 2) := by decide +kernel
theorem dX5_fittingWindows_31 : decode cX5_fittingWindows 31 = .ok (.aload_n 0, 1) := by decide +kernel
theorem dX5_fittingWindows_32 : decode cX5_fittingWindows 32 = .ok (.getfield 28, 3) := by decide +kernel
theorem dX5_fittingWindows_35 : decode cX5_fittingWindows 35 = .ok (.getfield 42, 3) := by decide +kernel
theorem dX5_fittingWindows_38 : decode cX5_fittingWindows 38 = .ok (.if_icmp .ge 30, 3) := by decide +kernel
theorem dX5_fittingWindows_41 : decode cX5_fittingWindows 41 = .ok (.iload 4, 2) := by decide +kernel
theorem dX5_fittingWindows_43 : decode cX5_fittingWindows 43 = .ok (.aload_n 0, 1) := by decide +kernel
theorem dX5_fittingWindows_44 : decode cX5_fittingWindows 44 = .ok (.iload 5, 2) := by decide +kernel
theorem dX5_fittingWindows_46 : decode cX5_fittingWindows 46 = .ok (.iload 6, 2) := by decide +kernel
theorem dX5_fittingWindows_48 : decode cX5_fittingWindows 48 = .ok (.invokevirtual 119, 3) := by decide +kernel
theorem dX5_fittingWindows_51 : decode cX5_fittingWindows 51 = .ok (.ifCond .eq 7, 3) := by decide +kernel
theorem dX5_fittingWindows_54 : decode cX5_fittingWindows 54 = .ok (.iconst 1, 1) := by decide +kernel
theorem dX5_fittingWindows_55 : decode cX5_fittingWindows 55 = .ok (.goto 4, 3) := by decide +kernel
theorem dX5_fittingWindows_58 : decode cX5_fittingWindows 58 = .ok (.iconst 0, 1) := by decide +kernel
theorem dX5_fittingWindows_59 : decode cX5_fittingWindows 59 = .ok (.iadd, 1) := by decide +kernel
theorem dX5_fittingWindows_60 : decode cX5_fittingWindows 60 = .ok (.istore 4, 2) := by decide +kernel
theorem dX5_fittingWindows_62 : decode cX5_fittingWindows 62 = .ok (.iinc 6 1, 3) := by decide +kernel
theorem dX5_fittingWindows_65 : decode cX5_fittingWindows 65 = .ok (.goto (-36), 3) := by decide +kernel
theorem dX5_fittingWindows_68 : decode cX5_fittingWindows 68 = .ok (.iinc 5 1, 3) := by decide +kernel
theorem dX5_fittingWindows_71 : decode cX5_fittingWindows 71 = .ok (.goto (-58), 3) := by decide +kernel
theorem dX5_fittingWindows_74 : decode cX5_fittingWindows 74 = .ok (.iload 4, 2) := by decide +kernel
theorem dX5_fittingWindows_76 : decode cX5_fittingWindows 76 = .ok (.ireturn, 1) := by decide +kernel
theorem dX5_shortestWindow_0 : decode cX5_shortestWindow 0 = .ok (.aload_n 0, 1) := by decide +kernel
theorem dX5_shortestWindow_1 : decode cX5_shortestWindow 1 = .ok (.iload_n 1, 1) := by decide +kernel
theorem dX5_shortestWindow_2 : decode cX5_shortestWindow 2 = .ok (.iload_n 2, 1) := by decide +kernel
theorem dX5_shortestWindow_3 : decode cX5_shortestWindow 3 = .ok (.iload_n 3, 1) := by decide +kernel
theorem dX5_shortestWindow_4 : decode cX5_shortestWindow 4 = .ok (.invokevirtual 116, 3) := by decide +kernel
theorem dX5_shortestWindow_7 : decode cX5_shortestWindow 7 = .ok (.iconst 0, 1) := by decide +kernel
theorem dX5_shortestWindow_8 : decode cX5_shortestWindow 8 = .ok (.istore 4, 2) := by decide +kernel
theorem dX5_shortestWindow_10 : decode cX5_shortestWindow 10 = .ok (.iload 4, 2) := by decide +kernel
theorem dX5_shortestWindow_12 : decode cX5_shortestWindow 12 = .ok (.aload_n 0, 1) := by decide +kernel
theorem dX5_shortestWindow_13 : decode cX5_shortestWindow 13 = .ok (.getfield 28, 3) := by decide +kernel
theorem dX5_shortestWindow_16 : decode cX5_shortestWindow 16 = .ok (.getfield 42, 3) := by decide +kernel
theorem dX5_shortestWindow_19 : decode cX5_shortestWindow 19 = .ok (.if_icmp .ge 59, 3) := by decide +kernel
theorem dX5_shortestWindow_22 : decode cX5_shortestWindow 22 = .ok (.iconst 0, 1) := by decide +kernel
theorem dX5_shortestWindow_23 : decode cX5_shortestWindow 23 = .ok (.istore 5, 2) := by decide +kernel
theorem dX5_shortestWindow_25 : decode cX5_shortestWindow 25 = .ok (.iload 5, 2) := by decide +kernel
theorem dX5_shortestWindow_27 : decode cX5_shortestWindow 27 = .ok (.iload 4, 2) := by decide +kernel
theorem dX5_shortestWindow_29 : decode cX5_shortestWindow 29 = .ok (.iadd, 1) := by decide +kernel
theorem dX5_shortestWindow_30 : decode cX5_shortestWindow 30 = .ok (.aload_n 0, 1) := by decide +kernel
theorem dX5_shortestWindow_31 : decode cX5_shortestWindow 31 = .ok (.getfield 28, 3) := by decide +kernel
theorem dX5_shortestWindow_34 : decode cX5_shortestWindow 34 = .ok (.getfield 42, 3) := by decide +kernel
theorem dX5_shortestWindow_37 : decode cX5_shortestWindow 37 = .ok (.if_icmp .ge 35, 3) := by decide +kernel
theorem dX5_shortestWindow_40 : decode cX5_shortestWindow 40 = .ok (.aload_n 0, 1) := by decide +kernel
theorem dX5_shortestWindow_41 : decode cX5_shortestWindow 41 = .ok (.iload 5, 2) := by decide +kernel
theorem dX5_shortestWindow_43 : decode cX5_shortestWindow 43 = .ok (.iload 5, 2) := by decide +kernel
theorem dX5_shortestWindow_45 : decode cX5_shortestWindow 45 = .ok (.iload 4, 2) := by decide +kernel
theorem dX5_shortestWindow_47 : decode cX5_shortestWindow 47 = .ok (.iadd, 1) := by decide +kernel
theorem dX5_shortestWindow_48 : decode cX5_shortestWindow 48 = .ok (.invokevirtual 119, 3) := by decide +kernel
theorem dX5_shortestWindow_51 : decode cX5_shortestWindow 51 = .ok (.ifCond .eq 15, 3) := by decide +kernel
theorem dX5_shortestWindow_54 : decode cX5_shortestWindow 54 = .ok (.bipush 100, 2) := by decide +kernel
theorem dX5_shortestWindow_56 : decode cX5_shortestWindow 56 = .ok (.iload 5, 2) := by decide +kernel
theorem dX5_shortestWindow_58 : decode cX5_shortestWindow 58 = .ok (.imul, 1) := by decide +kernel
theorem dX5_shortestWindow_59 : decode cX5_shortestWindow 59 = .ok (.iload 5, 2) := by decide +kernel
theorem dX5_shortestWindow_61 : decode cX5_shortestWindow 61 = .ok (.iadd, 1) := by decide +kernel
theorem dX5_shortestWindow_62 : decode cX5_shortestWindow 62 = .ok (.iload 4, 2) := by decide +kernel
theorem dX5_shortestWindow_64 : decode cX5_shortestWindow 64 = .ok (.iadd, 1) := by decide +kernel
theorem dX5_shortestWindow_65 : decode cX5_shortestWindow 65 = .ok (.ireturn, 1) := by decide +kernel
theorem dX5_shortestWindow_66 : decode cX5_shortestWindow 66 = .ok (.iinc 5 1, 3) := by decide +kernel
theorem dX5_shortestWindow_69 : decode cX5_shortestWindow 69 = .ok (.goto (-44), 3) := by decide +kernel
theorem dX5_shortestWindow_72 : decode cX5_shortestWindow 72 = .ok (.iinc 4 1, 3) := by decide +kernel
theorem dX5_shortestWindow_75 : decode cX5_shortestWindow 75 = .ok (.goto (-65), 3) := by decide +kernel
theorem dX5_shortestWindow_78 : decode cX5_shortestWindow 78 = .ok (.iconst (-1), 1) := by decide +kernel
theorem dX5_shortestWindow_79 : decode cX5_shortestWindow 79 = .ok (.ireturn, 1) := by decide +kernel
theorem dX6_init_0 : decode cX6_init 0 = .ok (.aload_n 0, 1) := by decide +kernel
theorem dX6_init_1 : decode cX6_init 1 = .ok (.invokespecial 3, 3) := by decide +kernel
theorem dX6_init_4 : decode cX6_init 4 = .ok (.aload_n 0, 1) := by decide +kernel
theorem dX6_init_5 : decode cX6_init 5 = .ok (.bipush 31, 2) := by decide +kernel
theorem dX6_init_7 : decode cX6_init 7 = .ok (.newarray .int, 2) := by decide +kernel
theorem dX6_init_9 : decode cX6_init 9 = .ok (.putfield 9, 3) := by decide +kernel
theorem dX6_init_12 : decode cX6_init 12 = .ok (.aload_n 0, 1) := by decide +kernel
theorem dX6_init_13 : decode cX6_init 13 = .ok (.sipush 320, 3) := by decide +kernel
theorem dX6_init_16 : decode cX6_init 16 = .ok (.newarray .int, 2) := by decide +kernel
theorem dX6_init_18 : decode cX6_init 18 = .ok (.putfield 15, 3) := by decide +kernel
theorem dX6_init_21 : decode cX6_init 21 = .ok (.aload_n 0, 1) := by decide +kernel
theorem dX6_init_22 : decode cX6_init 22 = .ok (.bipush 31, 2) := by decide +kernel
theorem dX6_init_24 : decode cX6_init 24 = .ok (.newarray .int, 2) := by decide +kernel
theorem dX6_init_26 : decode cX6_init 26 = .ok (.putfield 18, 3) := by decide +kernel
theorem dX6_init_29 : decode cX6_init 29 = .ok (.aload_n 0, 1) := by decide +kernel
theorem dX6_init_30 : decode cX6_init 30 = .ok (.sipush 248, 3) := by decide +kernel
theorem dX6_init_33 : decode cX6_init 33 = .ok (.newarray .int, 2) := by decide +kernel
theorem dX6_init_35 : decode cX6_init 35 = .ok (.putfield 21, 3) := by decide +kernel
theorem dX6_init_38 : decode cX6_init 38 = .ok (.aload_n 0, 1) := by decide +kernel
theorem dX6_init_39 : decode cX6_init 39 = .ok (.iconst 0, 1) := by decide +kernel
theorem dX6_init_40 : decode cX6_init 40 = .ok (.putfield 24, 3) := by decide +kernel
theorem dX6_init_43 : decode cX6_init 43 = .ok (.aload_n 0, 1) := by decide +kernel
theorem dX6_init_44 : decode cX6_init 44 = .ok (.iconst 0, 1) := by decide +kernel
theorem dX6_init_45 : decode cX6_init 45 = .ok (.putfield 28, 3) := by decide +kernel
theorem dX6_init_48 : decode cX6_init 48 = .ok (.aload_n 0, 1) := by decide +kernel
theorem dX6_init_49 : decode cX6_init 49 = .ok (.aload_n 1, 1) := by decide +kernel
theorem dX6_init_50 : decode cX6_init 50 = .ok (.putfield 31, 3) := by decide +kernel
theorem dX6_init_53 : decode cX6_init 53 = .ok (.aload_n 0, 1) := by decide +kernel
theorem dX6_init_54 : decode cX6_init 54 = .ok (.invokevirtual 35, 3) := by decide +kernel
theorem dX6_init_57 : decode cX6_init 57 = .ok (.return_, 1) := by decide +kernel
theorem dX6_begin_0 : decode cX6_begin 0 = .ok (.aload_n 0, 1) := by decide +kernel
theorem dX6_begin_1 : decode cX6_begin 1 = .ok (.getfield 9, 3) := by decide +kernel
theorem dX6_begin_4 : decode cX6_begin 4 = .ok (.iconst 0, 1) := by decide +kernel
theorem dX6_begin_5 : decode cX6_begin 5 = .ok (.invokestatic 38, 3) := by decide +kernel
theorem dX6_begin_8 : decode cX6_begin 8 = .ok (.aload_n 0, 1) := by decide +kernel
theorem dX6_begin_9 : decode cX6_begin 9 = .ok (.invokevirtual 35, 3) := by decide +kernel
theorem dX6_begin_12 : decode cX6_begin 12 = .ok (.aload_n 0, 1) := by decide +kernel
theorem dX6_begin_13 : decode cX6_begin 13 = .ok (.getfield 31, 3) := by decide +kernel
theorem dX6_begin_16 : decode cX6_begin 16 = .ok (.getfield 44, 3) := by decide +kernel
theorem dX6_begin_19 : decode cX6_begin 19 = .ok (.iconst 0, 1) := by decide +kernel
theorem dX6_begin_20 : decode cX6_begin 20 = .ok (.aload_n 0, 1) := by decide +kernel
theorem dX6_begin_21 : decode cX6_begin 21 = .ok (.getfield 9, 3) := by decide +kernel
theorem dX6_begin_24 : decode cX6_begin 24 = .ok (.iconst 3, 1) := by decide +kernel
theorem dX6_begin_25 : decode cX6_begin 25 = .ok (.iconst 4, 1) := by decide +kernel
theorem dX6_begin_26 : decode cX6_begin 26 = .ok (.invokestatic 49, 3) := by decide +kernel
theorem dX6_begin_29 : decode cX6_begin 29 = .ok (.aload_n 0, 1) := by decide +kernel
theorem dX6_begin_30 : decode cX6_begin 30 = .ok (.iconst 0, 1) := by decide +kernel
theorem dX6_begin_31 : decode cX6_begin 31 = .ok (.putfield 24, 3) := by decide +kernel
theorem dX6_begin_34 : decode cX6_begin 34 = .ok (.return_, 1) := by decide +kernel
theorem dX6_unsayAll_0 : decode cX6_unsayAll 0 = .ok (.iconst 0, 1) := by decide +kernel
theorem dX6_unsayAll_1 : decode cX6_unsayAll 1 = .ok (.istore_n 1, 1) := by decide +kernel
theorem dX6_unsayAll_2 : decode cX6_unsayAll 2 = .ok (.iload_n 1, 1) := by decide +kernel
theorem dX6_unsayAll_3 : decode cX6_unsayAll 3 = .ok (.bipush 8, 2) := by decide +kernel
theorem dX6_unsayAll_5 : decode cX6_unsayAll 5 = .ok (.if_icmp .ge 19, 3) := by decide +kernel
theorem dX6_unsayAll_8 : decode cX6_unsayAll 8 = .ok (.aload_n 0, 1) := by decide +kernel
theorem dX6_unsayAll_9 : decode cX6_unsayAll 9 = .ok (.getfield 9, 3) := by decide +kernel
theorem dX6_unsayAll_12 : decode cX6_unsayAll 12 = .ok (.bipush 15, 2) := by decide +kernel
theorem dX6_unsayAll_14 : decode cX6_unsayAll 14 = .ok (.iload_n 1, 1) := by decide +kernel
theorem dX6_unsayAll_15 : decode cX6_unsayAll 15 = .ok (.iadd, 1) := by decide +kernel
theorem dX6_unsayAll_16 : decode cX6_unsayAll 16 = .ok (.iconst (-1), 1) := by decide +kernel
theorem dX6_unsayAll_17 : decode cX6_unsayAll 17 = .ok (.iastore, 1) := by decide +kernel
theorem dX6_unsayAll_18 : decode cX6_unsayAll 18 = .ok (.iinc 1 1, 3) := by decide +kernel
theorem dX6_unsayAll_21 : decode cX6_unsayAll 21 = .ok (.goto (-19), 3) := by decide +kernel
theorem dX6_unsayAll_24 : decode cX6_unsayAll 24 = .ok (.return_, 1) := by decide +kernel
theorem dX6_setAside_0 : decode cX6_setAside 0 = .ok (.aload_n 0, 1) := by decide +kernel
theorem dX6_setAside_1 : decode cX6_setAside 1 = .ok (.getfield 9, 3) := by decide +kernel
theorem dX6_setAside_4 : decode cX6_setAside 4 = .ok (.iconst 0, 1) := by decide +kernel
theorem dX6_setAside_5 : decode cX6_setAside 5 = .ok (.aload_n 0, 1) := by decide +kernel
theorem dX6_setAside_6 : decode cX6_setAside 6 = .ok (.getfield 18, 3) := by decide +kernel
theorem dX6_setAside_9 : decode cX6_setAside 9 = .ok (.iconst 0, 1) := by decide +kernel
theorem dX6_setAside_10 : decode cX6_setAside 10 = .ok (.bipush 31, 2) := by decide +kernel
theorem dX6_setAside_12 : decode cX6_setAside 12 = .ok (.invokestatic 49, 3) := by decide +kernel
theorem dX6_setAside_15 : decode cX6_setAside 15 = .ok (.return_, 1) := by decide +kernel
theorem dX6_takeBack_0 : decode cX6_takeBack 0 = .ok (.aload_n 0, 1) := by decide +kernel
theorem dX6_takeBack_1 : decode cX6_takeBack 1 = .ok (.getfield 18, 3) := by decide +kernel
theorem dX6_takeBack_4 : decode cX6_takeBack 4 = .ok (.iconst 0, 1) := by decide +kernel
theorem dX6_takeBack_5 : decode cX6_takeBack 5 = .ok (.aload_n 0, 1) := by decide +kernel
theorem dX6_takeBack_6 : decode cX6_takeBack 6 = .ok (.getfield 9, 3) := by decide +kernel
theorem dX6_takeBack_9 : decode cX6_takeBack 9 = .ok (.iconst 0, 1) := by decide +kernel
theorem dX6_takeBack_10 : decode cX6_takeBack 10 = .ok (.bipush 31, 2) := by decide +kernel
theorem dX6_takeBack_12 : decode cX6_takeBack 12 = .ok (.invokestatic 49, 3) := by decide +kernel
theorem dX6_takeBack_15 : decode cX6_takeBack 15 = .ok (.return_, 1) := by decide +kernel
theorem dX6_remember_0 : decode cX6_remember 0 = .ok (.aload_n 0, 1) := by decide +kernel
theorem dX6_remember_1 : decode cX6_remember 1 = .ok (.getfield 9, 3) := by decide +kernel
theorem dX6_remember_4 : decode cX6_remember 4 = .ok (.iconst 0, 1) := by decide +kernel
theorem dX6_remember_5 : decode cX6_remember 5 = .ok (.aload_n 0, 1) := by decide +kernel
theorem dX6_remember_6 : decode cX6_remember 6 = .ok (.getfield 21, 3) := by decide +kernel
theorem dX6_remember_9 : decode cX6_remember 9 = .ok (.aload_n 0, 1) := by decide +kernel
theorem dX6_remember_10 : decode cX6_remember 10 = .ok (.getfield 28, 3) := by decide +kernel
theorem dX6_remember_13 : decode cX6_remember 13 = .ok (.bipush 31, 2) := by decide +kernel
theorem dX6_remember_15 : decode cX6_remember 15 = .ok (.imul, 1) := by decide +kernel
theorem dX6_remember_16 : decode cX6_remember 16 = .ok (.bipush 31, 2) := by decide +kernel
theorem dX6_remember_18 : decode cX6_remember 18 = .ok (.invokestatic 49, 3) := by decide +kernel
theorem dX6_remember_21 : decode cX6_remember 21 = .ok (.aload_n 0, 1) := by decide +kernel
theorem dX6_remember_22 : decode cX6_remember 22 = .ok (.aload_n 0, 1) := by decide +kernel
theorem dX6_remember_23 : decode cX6_remember 23 = .ok (.getfield 28, 3) := by decide +kernel
theorem dX6_remember_26 : decode cX6_remember 26 = .ok (.iconst 1, 1) := by decide +kernel
theorem dX6_remember_27 : decode cX6_remember 27 = .ok (.iadd, 1) := by decide +kernel
theorem dX6_remember_28 : decode cX6_remember 28 = .ok (.bipush 8, 2) := by decide +kernel
theorem dX6_remember_30 : decode cX6_remember 30 = .ok (.irem, 1) := by decide +kernel
theorem dX6_remember_31 : decode cX6_remember 31 = .ok (.putfield 28, 3) := by decide +kernel
theorem dX6_remember_34 : decode cX6_remember 34 = .ok (.aload_n 0, 1) := by decide +kernel
theorem dX6_remember_35 : decode cX6_remember 35 = .ok (.aload_n 0, 1) := by decide +kernel
theorem dX6_remember_36 : decode cX6_remember 36 = .ok (.getfield 24, 3) := by decide +kernel
theorem dX6_remember_39 : decode cX6_remember 39 = .ok (.iconst 1, 1) := by decide +kernel
theorem dX6_remember_40 : decode cX6_remember 40 = .ok (.iadd, 1) := by decide +kernel
theorem dX6_remember_41 : decode cX6_remember 41 = .ok (.bipush 8, 2) := by decide +kernel
theorem dX6_remember_43 : decode cX6_remember 43 = .ok (.invokestatic 55, 3) := by decide +kernel
theorem dX6_remember_46 : decode cX6_remember 46 = .ok (.putfield 24, 3) := by decide +kernel
theorem dX6_remember_49 : decode cX6_remember 49 = .ok (.return_, 1) := by decide +kernel
theorem dX6_forget_0 : decode cX6_forget 0 = .ok (.aload_n 0, 1) := by decide +kernel
theorem dX6_forget_1 : decode cX6_forget 1 = .ok (.getfield 24, 3) := by decide +kernel
theorem dX6_forget_4 : decode cX6_forget 4 = .ok (.ifCond .ne 5, 3) := by decide +kernel
theorem dX6_forget_7 : decode cX6_forget 7 = .ok (.iconst (-1), 1) := by decide +kernel
theorem dX6_forget_8 : decode cX6_forget 8 = .ok (.ireturn, 1) := by decide +kernel
theorem dX6_forget_9 : decode cX6_forget 9 = .ok (.aload_n 0, 1) := by decide +kernel
theorem dX6_forget_10 : decode cX6_forget 10 = .ok (.aload_n 0, 1) := by decide +kernel
theorem dX6_forget_11 : decode cX6_forget 11 = .ok (.getfield 28, 3) := by decide +kernel
theorem dX6_forget_14 : decode cX6_forget 14 = .ok (.bipush 8, 2) := by decide +kernel
theorem dX6_forget_16 : decode cX6_forget 16 = .ok (.iadd, 1) := by decide +kernel
theorem dX6_forget_17 : decode cX6_forget 17 = .ok (.iconst 1, 1) := by decide +kernel
theorem dX6_forget_18 : decode cX6_forget 18 = .ok (.isub, 1) := by decide +kernel
theorem dX6_forget_19 : decode cX6_forget 19 = .ok (.bipush 8, 2) := by decide +kernel
theorem dX6_forget_21 : decode cX6_forget 21 = .ok (.irem, 1) := by decide +kernel
theorem dX6_forget_22 : decode cX6_forget 22 = .ok (.putfield 28, 3) := by decide +kernel
theorem dX6_forget_25 : decode cX6_forget 25 = .ok (.aload_n 0, 1) := by decide +kernel
theorem dX6_forget_26 : decode cX6_forget 26 = .ok (.dup, 1) := by decide +kernel
theorem dX6_forget_27 : decode cX6_forget 27 = .ok (.getfield 24, 3) := by decide +kernel
theorem dX6_forget_30 : decode cX6_forget 30 = .ok (.iconst 1, 1) := by decide +kernel
theorem dX6_forget_31 : decode cX6_forget 31 = .ok (.isub, 1) := by decide +kernel
theorem dX6_forget_32 : decode cX6_forget 32 = .ok (.putfield 24, 3) := by decide +kernel
theorem dX6_forget_35 : decode cX6_forget 35 = .ok (.aload_n 0, 1) := by decide +kernel
theorem dX6_forget_36 : decode cX6_forget 36 = .ok (.getfield 21, 3) := by decide +kernel
theorem dX6_forget_39 : decode cX6_forget 39 = .ok (.aload_n 0, 1) := by decide +kernel
theorem dX6_forget_40 : decode cX6_forget 40 = .ok (.getfield 28, 3) := by decide +kernel
theorem dX6_forget_43 : decode cX6_forget 43 = .ok (.bipush 31, 2) := by decide +kernel
theorem dX6_forget_45 : decode cX6_forget 45 = .ok (.imul, 1) := by decide +kernel
theorem dX6_forget_46 : decode cX6_forget 46 = .ok (.aload_n 0, 1) := by decide +kernel
theorem dX6_forget_47 : decode cX6_forget 47 = .ok (.getfield 9, 3) := by decide +kernel
theorem dX6_forget_50 : decode cX6_forget 50 = .ok (.iconst 0, 1) := by decide +kernel
theorem dX6_forget_51 : decode cX6_forget 51 = .ok (.bipush 31, 2) := by decide +kernel
theorem dX6_forget_53 : decode cX6_forget 53 = .ok (.invokestatic 49, 3) := by decide +kernel
theorem dX6_forget_56 : decode cX6_forget 56 = .ok (.aload_n 0, 1) := by decide +kernel
theorem dX6_forget_57 : decode cX6_forget 57 = .ok (.getfield 24, 3) := by decide +kernel
theorem dX6_forget_60 : decode cX6_forget 60 = .ok (.ireturn, 1) := by decide +kernel
theorem dX6_hoursLeft_0 : decode cX6_hoursLeft 0 = .ok (.bipush 20, 2) := by decide +kernel
theorem dX6_hoursLeft_2 : decode cX6_hoursLeft 2 = .ok (.aload_n 0, 1) := by decide +kernel
theorem dX6_hoursLeft_3 : decode cX6_hoursLeft 3 = .ok (.getfield 31, 3) := by decide +kernel
theorem dX6_hoursLeft_6 : decode cX6_hoursLeft 6 = .ok (.getfield 61, 3) := by decide +kernel
theorem dX6_hoursLeft_9 : decode cX6_hoursLeft 9 = .ok (.imul, 1) := by decide +kernel
theorem dX6_hoursLeft_10 : decode cX6_hoursLeft 10 = .ok (.aload_n 0, 1) := by decide +kernel
theorem dX6_hoursLeft_11 : decode cX6_hoursLeft 11 = .ok (.getfield 9, 3) := by decide +kernel
theorem dX6_hoursLeft_14 : decode cX6_hoursLeft 14 = .ok (.iconst 0, 1) := by decide +kernel
theorem dX6_hoursLeft_15 : decode cX6_hoursLeft 15 = .ok (.iaload, 1) := by decide +kernel
theorem dX6_hoursLeft_16 : decode cX6_hoursLeft 16 = .ok (.isub, 1) := by decide +kernel
theorem dX6_hoursLeft_17 : decode cX6_hoursLeft 17 = .ok (.ireturn, 1) := by decide +kernel
theorem dX6_isOver_0 : decode cX6_isOver 0 = .ok (.aload_n 0, 1) := by decide +kernel
theorem dX6_isOver_1 : decode cX6_isOver 1 = .ok (.invokevirtual 64, 3) := by decide +kernel
theorem dX6_isOver_4 : decode cX6_isOver 4 = .ok (.ifCond .gt 7, 3) := by decide +kernel
theorem dX6_isOver_7 : decode cX6_isOver 7 = .ok (.iconst 1, 1) := by decide +kernel
theorem dX6_isOver_8 : decode cX6_isOver 8 = .ok (.goto 4, 3) := by decide +kernel
theorem dX6_isOver_11 : decode cX6_isOver 11 = .ok (.iconst 0, 1) := by decide +kernel
theorem dX6_isOver_12 : decode cX6_isOver 12 = .ok (.ireturn, 1) := by decide +kernel
theorem dX6_isBusy_0 : decode cX6_isBusy 0 = .ok (.aload_n 0, 1) := by decide +kernel
theorem dX6_isBusy_1 : decode cX6_isBusy 1 = .ok (.getfield 9, 3) := by decide +kernel
theorem dX6_isBusy_4 : decode cX6_isBusy 4 = .ok (.iconst 1, 1) := by decide +kernel
theorem dX6_isBusy_5 : decode cX6_isBusy 5 = .ok (.iaload, 1) := by decide +kernel
theorem dX6_isBusy_6 : decode cX6_isBusy 6 = .ok (.iload_n 1, 1) := by decide +kernel
theorem dX6_isBusy_7 : decode cX6_isBusy 7 = .ok (.ishr, 1) := by decide +kernel
theorem dX6_isBusy_8 : decode cX6_isBusy 8 = .ok (.iconst 1, 1) := by decide +kernel
theorem dX6_isBusy_9 : decode cX6_isBusy 9 = .ok (.iand, 1) := by decide +kernel
theorem dX6_isBusy_10 : decode cX6_isBusy 10 = .ok (.iconst 1, 1) := by decide +kernel
theorem dX6_isBusy_11 : decode cX6_isBusy 11 = .ok (.if_icmp .ne 7, 3) := by decide +kernel
theorem dX6_isBusy_14 : decode cX6_isBusy 14 = .ok (.iconst 1, 1) := by decide +kernel
theorem dX6_isBusy_15 : decode cX6_isBusy 15 = .ok (.goto 4, 3) := by decide +kernel
theorem dX6_isBusy_18 : decode cX6_isBusy 18 = .ok (.iconst 0, 1) := by decide +kernel
theorem dX6_isBusy_19 : decode cX6_isBusy 19 = .ok (.ireturn, 1) := by decide +kernel
theorem dX6_whyNotGo_0 : decode cX6_whyNotGo 0 = .ok (.aload_n 0, 1) := by decide +kernel
theorem dX6_whyNotGo_1 : decode cX6_whyNotGo 1 = .ok (.iload_n 1, 1) := by decide +kernel
theorem dX6_whyNotGo_2 : decode cX6_whyNotGo 2 = .ok (.invokevirtual 68, 3) := by decide +kernel
theorem dX6_whyNotGo_5 : decode cX6_whyNotGo 5 = .ok (.ifCond .eq 5, 3) := by decide +kernel
theorem dX6_whyNotGo_8 : decode cX6_whyNotGo 8 = .ok (.iconst 1, 1) := by decide +kernel
theorem dX6_whyNotGo_9 : decode cX6_whyNotGo 9 = .ok (.ireturn, 1) := by decide +kernel
theorem dX6_whyNotGo_10 : decode cX6_whyNotGo 10 = .ok (.aload_n 0, 1) := by decide +kernel
theorem dX6_whyNotGo_11 : decode cX6_whyNotGo 11 = .ok (.getfield 31, 3) := by decide +kernel
theorem dX6_whyNotGo_14 : decode cX6_whyNotGo 14 = .ok (.aload_n 0, 1) := by decide +kernel
theorem dX6_whyNotGo_15 : decode cX6_whyNotGo 15 = .ok (.getfield 9, 3) := by decide +kernel
theorem dX6_whyNotGo_18 : decode cX6_whyNotGo 18 = .ok (.iconst 3, 1) := by decide +kernel
theorem dX6_whyNotGo_19 : decode cX6_whyNotGo 19 = .ok (.iload_n 1, 1) := by decide +kernel
theorem dX6_whyNotGo_20 : decode cX6_whyNotGo 20 = .ok (.iadd, 1) := by decide +kernel
theorem dX6_whyNotGo_21 : decode cX6_whyNotGo 21 = .ok (.iaload, 1) := by decide +kernel
theorem dX6_whyNotGo_22 : decode cX6_whyNotGo 22 = .ok (.iload_n 2, 1) := by decide +kernel
theorem dX6_whyNotGo_23 : decode cX6_whyNotGo 23 = .ok (.invokevirtual 72, 3) := by decide +kernel
theorem dX6_whyNotGo_26 : decode cX6_whyNotGo 26 = .ok (.ifCond .ne 5, 3) := by decide +kernel
theorem dX6_whyNotGo_29 : decode cX6_whyNotGo 29 = .ok (.iconst 2, 1) := by decide +kernel
theorem dX6_whyNotGo_30 : decode cX6_whyNotGo 30 = .ok (.ireturn, 1) := by decide +kernel
theorem dX6_whyNotGo_31 : decode cX6_whyNotGo 31 = .ok (.aload_n 0, 1) := by decide +kernel
theorem dX6_whyNotGo_32 : decode cX6_whyNotGo 32 = .ok (.invokevirtual 76, 3) := by decide +kernel
theorem dX6_whyNotGo_35 : decode cX6_whyNotGo 35 = .ok (.ifCond .eq 7, 3) := by decide +kernel
theorem dX6_whyNotGo_38 : decode cX6_whyNotGo 38 = .ok (.iconst 3, 1) := by decide +kernel
theorem dX6_whyNotGo_39 : decode cX6_whyNotGo 39 = .ok (.goto 4, 3) := by decide +kernel
theorem dX6_whyNotGo_42 : decode cX6_whyNotGo 42 = .ok (.iconst 0, 1) := by decide +kernel
theorem dX6_whyNotGo_43 : decode cX6_whyNotGo 43 = .ok (.ireturn, 1) := by decide +kernel
theorem dX6_whyNotDo_0 : decode cX6_whyNotDo 0 = .ok (.aload_n 0, 1) := by decide +kernel
theorem dX6_whyNotDo_1 : decode cX6_whyNotDo 1 = .ok (.iload_n 1, 1) := by decide +kernel
theorem dX6_whyNotDo_2 : decode cX6_whyNotDo 2 = .ok (.invokevirtual 68, 3) := by decide +kernel
theorem dX6_whyNotDo_5 : decode cX6_whyNotDo 5 = .ok (.ifCond .eq 5, 3) := by decide +kernel
theorem dX6_whyNotDo_8 : decode cX6_whyNotDo 8 = .ok (.iconst 1, 1) := by decide +kernel
theorem dX6_whyNotDo_9 : decode cX6_whyNotDo 9 = .ok (.ireturn, 1) := by decide +kernel
theorem dX6_whyNotDo_10 : decode cX6_whyNotDo 10 = .ok (.aload_n 0, 1) := by decide +kernel
theorem dX6_whyNotDo_11 : decode cX6_whyNotDo 11 = .ok (.invokevirtual 76, 3) := by decide +kernel
theorem dX6_whyNotDo_14 : decode cX6_whyNotDo 14 = .ok (.ifCond .eq 5, 3) := by decide +kernel
theorem dX6_whyNotDo_17 : decode cX6_whyNotDo 17 = .ok (.iconst 3, 1) := by decide +kernel
theorem dX6_whyNotDo_18 : decode cX6_whyNotDo 18 = .ok (.ireturn, 1) := by decide +kernel
theorem dX6_whyNotDo_19 : decode cX6_whyNotDo 19 = .ok (.aload_n 0, 1) := by decide +kernel
theorem dX6_whyNotDo_20 : decode cX6_whyNotDo 20 = .ok (.getfield 9, 3) := by decide +kernel
theorem dX6_whyNotDo_23 : decode cX6_whyNotDo 23 = .ok (.iconst 2, 1) := by decide +kernel
theorem dX6_whyNotDo_24 : decode cX6_whyNotDo 24 = .ok (.iaload, 1) := by decide +kernel
theorem dX6_whyNotDo_25 : decode cX6_whyNotDo 25 = .ok (.bipush 80, 2) := by decide +kernel
theorem dX6_whyNotDo_27 : decode cX6_whyNotDo 27 = .ok (.if_icmp .lt 7, 3) := by decide +kernel
theorem dX6_whyNotDo_30 : decode cX6_whyNotDo 30 = .ok (.iconst 4, 1) := by decide +kernel
theorem dX6_whyNotDo_31 : decode cX6_whyNotDo 31 = .ok (.goto 4, 3) := by decide +kernel
theorem dX6_whyNotDo_34 : decode cX6_whyNotDo 34 = .ok (.iconst 0, 1) := by decide +kernel
theorem dX6_whyNotDo_35 : decode cX6_whyNotDo 35 = .ok (.ireturn, 1) := by decide +kernel
theorem dX6_whyNotSay_0 : decode cX6_whyNotSay 0 = .ok (.aload_n 0, 1) := by decide +kernel
theorem dX6_whyNotSay_1 : decode cX6_whyNotSay 1 = .ok (.invokevirtual 76, 3) := by decide +kernel
theorem dX6_whyNotSay_4 : decode cX6_whyNotSay 4 = .ok (.ifCond .eq 5, 3) := by decide +kernel
theorem dX6_whyNotSay_7 : decode cX6_whyNotSay 7 = .ok (.iconst 3, 1) := by decide +kernel
theorem dX6_whyNotSay_8 : decode cX6_whyNotSay 8 = .ok (.ireturn, 1) := by decide +kernel
theorem dX6_whyNotSay_9 : decode cX6_whyNotSay 9 = .ok (.aload_n 0, 1) := by decide +kernel
theorem dX6_whyNotSay_10 : decode cX6_whyNotSay 10 = .ok (.getfield 31, 3) := by decide +kernel
theorem dX6_whyNotSay_13 : decode cX6_whyNotSay 13 = .ok (.iload_n 2, 1) := by decide +kernel
theorem dX6_whyNotSay_14 : decode cX6_whyNotSay 14 = .ok (.iconst 0, 1) := by decide +kernel
theorem dX6_whyNotSay_15 : decode cX6_whyNotSay 15 = .ok (.invokevirtual 80, 3) := by decide +kernel
theorem dX6_whyNotSay_18 : decode cX6_whyNotSay 18 = .ok (.iload_n 1, 1) := by decide +kernel
theorem dX6_whyNotSay_19 : decode cX6_whyNotSay 19 = .ok (.if_icmp .eq 5, 3) := by decide +kernel
theorem dX6_whyNotSay_22 : decode cX6_whyNotSay 22 = .ok (.iconst 5, 1) := by decide +kernel
theorem dX6_whyNotSay_23 : decode cX6_whyNotSay 23 = .ok (.ireturn, 1) := by decide +kernel
theorem dX6_whyNotSay_24 : decode cX6_whyNotSay 24 = .ok (.aload_n 0, 1) := by decide +kernel
theorem dX6_whyNotSay_25 : decode cX6_whyNotSay 25 = .ok (.getfield 9, 3) := by decide +kernel
theorem dX6_whyNotSay_28 : decode cX6_whyNotSay 28 = .ok (.bipush 15, 2) := by decide +kernel
theorem dX6_whyNotSay_30 : decode cX6_whyNotSay 30 = .ok (.iload_n 2, 1) := by decide +kernel
theorem dX6_whyNotSay_31 : decode cX6_whyNotSay 31 = .ok (.iadd, 1) := by decide +kernel
theorem dX6_whyNotSay_32 : decode cX6_whyNotSay 32 = .ok (.iaload, 1) := by decide +kernel
theorem dX6_whyNotSay_33 : decode cX6_whyNotSay 33 = .ok (.iconst (-1), 1) := by decide +kernel
theorem dX6_whyNotSay_34 : decode cX6_whyNotSay 34 = .ok (.if_icmp .eq 8, 3) := by decide +kernel
theorem dX6_whyNotSay_37 : decode cX6_whyNotSay 37 = .ok (.bipush 6, 2) := by decide +kernel
theorem dX6_whyNotSay_39 : decode cX6_whyNotSay 39 = .ok (.goto 4, 3) := by decide +kernel
theorem dX6_whyNotSay_42 : decode cX6_whyNotSay 42 = .ok (.iconst 0, 1) := by decide +kernel
theorem dX6_whyNotSay_43 : decode cX6_whyNotSay 43 = .ok (.ireturn, 1) := by decide +kernel
theorem dX6_tryGo_0 : decode cX6_tryGo 0 = .ok (.aload_n 0, 1) := by decide +kernel
theorem dX6_tryGo_1 : decode cX6_tryGo 1 = .ok (.iload_n 1, 1) := by decide +kernel
theorem dX6_tryGo_2 : decode cX6_tryGo 2 = .ok (.iload_n 2, 1) := by decide +kernel
theorem dX6_tryGo_3 : decode cX6_tryGo 3 = .ok (.invokevirtual 83, 3) := by decide +kernel
theorem dX6_tryGo_6 : decode cX6_tryGo 6 = .ok (.istore_n 3, 1) := by decide +kernel
theorem dX6_tryGo_7 : decode cX6_tryGo 7 = .ok (.iload_n 3, 1) := by decide +kernel
theorem dX6_tryGo_8 : decode cX6_tryGo 8 = .ok (.ifCond .ne 37, 3) := by decide +kernel
theorem dX6_tryGo_11 : decode cX6_tryGo 11 = .ok (.aload_n 0, 1) := by decide +kernel
theorem dX6_tryGo_12 : decode cX6_tryGo 12 = .ok (.getfield 9, 3) := by decide +kernel
theorem dX6_tryGo_15 : decode cX6_tryGo 15 = .ok (.iconst 1, 1) := by decide +kernel
theorem dX6_tryGo_16 : decode cX6_tryGo 16 = .ok (.dup2, 1) := by decide +kernel
theorem dX6_tryGo_17 : decode cX6_tryGo 17 = .ok (.iaload, 1) := by decide +kernel
theorem dX6_tryGo_18 : decode cX6_tryGo 18 = .ok (.iconst 1, 1) := by decide +kernel
theorem dX6_tryGo_19 : decode cX6_tryGo 19 = .ok (.iload_n 1, 1) := by decide +kernel
theorem dX6_tryGo_20 : decode cX6_tryGo 20 = .ok (.ishl, 1) := by decide +kernel
theorem dX6_tryGo_21 : decode cX6_tryGo 21 = .ok (.ior, 1) := by decide +kernel
theorem dX6_tryGo_22 : decode cX6_tryGo 22 = .ok (.iastore, 1) := by decide +kernel
theorem dX6_tryGo_23 : decode cX6_tryGo 23 = .ok (.aload_n 0, 1) := by decide +kernel
theorem dX6_tryGo_24 : decode cX6_tryGo 24 = .ok (.getfield 9, 3) := by decide +kernel
theorem dX6_tryGo_27 : decode cX6_tryGo 27 = .ok (.iconst 3, 1) := by decide +kernel
theorem dX6_tryGo_28 : decode cX6_tryGo 28 = .ok (.iload_n 1, 1) := by decide +kernel
theorem dX6_tryGo_29 : decode cX6_tryGo 29 = .ok (.iadd, 1) := by decide +kernel
theorem dX6_tryGo_30 : decode cX6_tryGo 30 = .ok (.iload_n 2, 1) := by decide +kernel
theorem dX6_tryGo_31 : decode cX6_tryGo 31 = .ok (.iastore, 1) := by decide +kernel
theorem dX6_tryGo_32 : decode cX6_tryGo 32 = .ok (.aload_n 0, 1) := by decide +kernel
theorem dX6_tryGo_33 : decode cX6_tryGo 33 = .ok (.getfield 9, 3) := by decide +kernel
theorem dX6_tryGo_36 : decode cX6_tryGo 36 = .ok (.bipush 11, 2) := by decide +kernel
theorem dX6_tryGo_38 : decode cX6_tryGo 38 = .ok (.iload_n 1, 1) := by decide +kernel
theorem dX6_tryGo_39 : decode cX6_tryGo 39 = .ok (.iadd, 1) := by decide +kernel
theorem dX6_tryGo_40 : decode cX6_tryGo 40 = .ok (.dup2, 1) := by decide +kernel
theorem dX6_tryGo_41 : decode cX6_tryGo 41 = .ok (.iaload, 1) := by decide +kernel
theorem dX6_tryGo_42 : decode cX6_tryGo 42 = .ok (.iconst 1, 1) := by decide +kernel
theorem dX6_tryGo_43 : decode cX6_tryGo 43 = .ok (.iadd, 1) := by decide +kernel
theorem dX6_tryGo_44 : decode cX6_tryGo 44 = .ok (.iastore, 1) := by decide +kernel
theorem dX6_tryGo_45 : decode cX6_tryGo 45 = .ok (.iload_n 3, 1) := by decide +kernel
theorem dX6_tryGo_46 : decode cX6_tryGo 46 = .ok (.ireturn, 1) := by decide +kernel
theorem dX6_tryDo_0 : decode cX6_tryDo 0 = .ok (.aload_n 0, 1) := by decide +kernel
theorem dX6_tryDo_1 : decode cX6_tryDo 1 = .ok (.iload_n 1, 1) := by decide +kernel
theorem dX6_tryDo_2 : decode cX6_tryDo 2 = .ok (.invokevirtual 86, 3) := by decide +kernel
theorem dX6_tryDo_5 : decode cX6_tryDo 5 = .ok (.istore_n 3, 1) := by decide +kernel
theorem dX6_tryDo_6 : decode cX6_tryDo 6 = .ok (.iload_n 3, 1) := by decide +kernel
theorem dX6_tryDo_7 : decode cX6_tryDo 7 = .ok (.ifCond .ne 100, 3) := by decide +kernel
theorem dX6_tryDo_10 : decode cX6_tryDo 10 = .ok (.aload_n 0, 1) := by decide +kernel
theorem dX6_tryDo_11 : decode cX6_tryDo 11 = .ok (.getfield 9, 3) := by decide +kernel
theorem dX6_tryDo_14 : decode cX6_tryDo 14 = .ok (.iconst 2, 1) := by decide +kernel
theorem dX6_tryDo_15 : decode cX6_tryDo 15 = .ok (.iaload, 1) := by decide +kernel
theorem dX6_tryDo_16 : decode cX6_tryDo 16 = .ok (.iconst 4, 1) := by decide +kernel
theorem dX6_tryDo_17 : decode cX6_tryDo 17 = .ok (.imul, 1) := by decide +kernel
theorem dX6_tryDo_18 : decode cX6_tryDo 18 = .ok (.istore 4, 2) := by decide +kernel
theorem dX6_tryDo_20 : decode cX6_tryDo 20 = .ok (.aload_n 0, 1) := by decide +kernel
theorem dX6_tryDo_21 : decode cX6_tryDo 21 = .ok (.getfield 15, 3) := by decide +kernel
theorem dX6_tryDo_24 : decode cX6_tryDo 24 = .ok (.iload 4, 2) := by decide +kernel
theorem dX6_tryDo_26 : decode cX6_tryDo 26 = .ok (.iconst 0, 1) := by decide +kernel
theorem dX6_tryDo_27 : decode cX6_tryDo 27 = .ok (.iadd, 1) := by decide +kernel
theorem dX6_tryDo_28 : decode cX6_tryDo 28 = .ok (.aload_n 0, 1) := by decide +kernel
theorem dX6_tryDo_29 : decode cX6_tryDo 29 = .ok (.getfield 9, 3) := by decide +kernel
theorem dX6_tryDo_32 : decode cX6_tryDo 32 = .ok (.iconst 0, 1) := by decide +kernel
theorem dX6_tryDo_33 : decode cX6_tryDo 33 = .ok (.iaload, 1) := by decide +kernel
theorem dX6_tryDo_34 : decode cX6_tryDo 34 = .ok (.iastore, 1) := by decide +kernel
theorem dX6_tryDo_35 : decode cX6_tryDo 35 = .ok (.aload_n 0, 1) := by decide +kernel
theorem dX6_tryDo_36 : decode cX6_tryDo 36 = .ok (.getfield 15, 3) := by decide +kernel
theorem dX6_tryDo_39 : decode cX6_tryDo 39 = .ok (.iload 4, 2) := by decide +kernel
theorem dX6_tryDo_41 : decode cX6_tryDo 41 = .ok (.iconst 1, 1) := by decide +kernel
theorem dX6_tryDo_42 : decode cX6_tryDo 42 = .ok (.iadd, 1) := by decide +kernel
theorem dX6_tryDo_43 : decode cX6_tryDo 43 = .ok (.iload_n 1, 1) := by decide +kernel
theorem dX6_tryDo_44 : decode cX6_tryDo 44 = .ok (.iastore, 1) := by decide +kernel
theorem dX6_tryDo_45 : decode cX6_tryDo 45 = .ok (.aload_n 0, 1) := by decide +kernel
theorem dX6_tryDo_46 : decode cX6_tryDo 46 = .ok (.getfield 15, 3) := by decide +kernel
theorem dX6_tryDo_49 : decode cX6_tryDo 49 = .ok (.iload 4, 2) := by decide +kernel
theorem dX6_tryDo_51 : decode cX6_tryDo 51 = .ok (.iconst 2, 1) := by decide +kernel
theorem dX6_tryDo_52 : decode cX6_tryDo 52 = .ok (.iadd, 1) := by decide +kernel
theorem dX6_tryDo_53 : decode cX6_tryDo 53 = .ok (.iload_n 2, 1) := by decide +kernel
theorem dX6_tryDo_54 : decode cX6_tryDo 54 = .ok (.iastore, 1) := by decide +kernel
theorem dX6_tryDo_55 : decode cX6_tryDo 55 = .ok (.aload_n 0, 1) := by decide +kernel
theorem dX6_tryDo_56 : decode cX6_tryDo 56 = .ok (.getfield 15, 3) := by decide +kernel
theorem dX6_tryDo_59 : decode cX6_tryDo 59 = .ok (.iload 4, 2) := by decide +kernel
theorem dX6_tryDo_61 : decode cX6_tryDo 61 = .ok (.iconst 3, 1) := by decide +kernel
theorem dX6_tryDo_62 : decode cX6_tryDo 62 = .ok (.iadd, 1) := by decide +kernel
theorem dX6_tryDo_63 : decode cX6_tryDo 63 = .ok (.aload_n 0, 1) := by decide +kernel
theorem dX6_tryDo_64 : decode cX6_tryDo 64 = .ok (.getfield 9, 3) := by decide +kernel
theorem dX6_tryDo_67 : decode cX6_tryDo 67 = .ok (.iconst 3, 1) := by decide +kernel
theorem dX6_tryDo_68 : decode cX6_tryDo 68 = .ok (.iload_n 1, 1) := by decide +kernel
theorem dX6_tryDo_69 : decode cX6_tryDo 69 = .ok (.iadd, 1) := by decide +kernel
theorem dX6_tryDo_70 : decode cX6_tryDo 70 = .ok (.iaload, 1) := by decide +kernel
theorem dX6_tryDo_71 : decode cX6_tryDo 71 = .ok (.iastore, 1) := by decide +kernel
theorem dX6_tryDo_72 : decode cX6_tryDo 72 = .ok (.aload_n 0, 1) := by decide +kernel
theorem dX6_tryDo_73 : decode cX6_tryDo 73 = .ok (.getfield 9, 3) := by decide +kernel
theorem dX6_tryDo_76 : decode cX6_tryDo 76 = .ok (.iconst 1, 1) := by decide +kernel
theorem dX6_tryDo_77 : decode cX6_tryDo 77 = .ok (.dup2, 1) := by decide +kernel
theorem dX6_tryDo_78 : decode cX6_tryDo 78 = .ok (.iaload, 1) := by decide +kernel
theorem dX6_tryDo_79 : decode cX6_tryDo 79 = .ok (.iconst 1, 1) := by decide +kernel
theorem dX6_tryDo_80 : decode cX6_tryDo 80 = .ok (.iload_n 1, 1) := by decide +kernel
theorem dX6_tryDo_81 : decode cX6_tryDo 81 = .ok (.ishl, 1) := by decide +kernel
theorem dX6_tryDo_82 : decode cX6_tryDo 82 = .ok (.ior, 1) := by decide +kernel
theorem dX6_tryDo_83 : decode cX6_tryDo 83 = .ok (.iastore, 1) := by decide +kernel
theorem dX6_tryDo_84 : decode cX6_tryDo 84 = .ok (.aload_n 0, 1) := by decide +kernel
theorem dX6_tryDo_85 : decode cX6_tryDo 85 = .ok (.getfield 9, 3) := by decide +kernel
theorem dX6_tryDo_88 : decode cX6_tryDo 88 = .ok (.iconst 2, 1) := by decide +kernel
theorem dX6_tryDo_89 : decode cX6_tryDo 89 = .ok (.dup2, 1) := by decide +kernel
theorem dX6_tryDo_90 : decode cX6_tryDo 90 = .ok (.iaload, 1) := by decide +kernel
theorem dX6_tryDo_91 : decode cX6_tryDo 91 = .ok (.iconst 1, 1) := by decide +kernel
theorem dX6_tryDo_92 : decode cX6_tryDo 92 = .ok (.iadd, 1) := by decide +kernel
theorem dX6_tryDo_93 : decode cX6_tryDo 93 = .ok (.iastore, 1) := by decide +kernel
theorem dX6_tryDo_94 : decode cX6_tryDo 94 = .ok (.aload_n 0, 1) := by decide +kernel
theorem dX6_tryDo_95 : decode cX6_tryDo 95 = .ok (.getfield 9, 3) := by decide +kernel
theorem dX6_tryDo_98 : decode cX6_tryDo 98 = .ok (.bipush 7, 2) := by decide +kernel
theorem dX6_tryDo_100 : decode cX6_tryDo 100 = .ok (.iload_n 1, 1) := by decide +kernel
theorem dX6_tryDo_101 : decode cX6_tryDo 101 = .ok (.iadd, 1) := by decide +kernel
theorem dX6_tryDo_102 : decode cX6_tryDo 102 = .ok (.dup2, 1) := by decide +kernel
theorem dX6_tryDo_103 : decode cX6_tryDo 103 = .ok (.iaload, 1) := by decide +kernel
theorem dX6_tryDo_104 : decode cX6_tryDo 104 = .ok (.iconst 1, 1) := by decide +kernel
theorem dX6_tryDo_105 : decode cX6_tryDo 105 = .ok (.iadd, 1) := by decide +kernel
theorem dX6_tryDo_106 : decode cX6_tryDo 106 = .ok (.iastore, 1) := by decide +kernel
theorem dX6_tryDo_107 : decode cX6_tryDo 107 = .ok (.iload_n 3, 1) := by decide +kernel
theorem dX6_tryDo_108 : decode cX6_tryDo 108 = .ok (.ireturn, 1) := by decide +kernel
theorem dX6_trySay_0 : decode cX6_trySay 0 = .ok (.aload_n 0, 1) := by decide +kernel
theorem dX6_trySay_1 : decode cX6_trySay 1 = .ok (.iload_n 1, 1) := by decide +kernel
theorem dX6_trySay_2 : decode cX6_trySay 2 = .ok (.iload_n 2, 1) := by decide +kernel
theorem dX6_trySay_3 : decode cX6_trySay 3 = .ok (.invokevirtual 90, 3) := by decide +kernel
theorem dX6_trySay_6 : decode cX6_trySay 6 = .ok (.istore_n 3, 1) := by decide +kernel
theorem dX6_trySay_7 : decode cX6_trySay 7 = .ok (.iload_n 3, 1) := by decide +kernel
theorem dX6_trySay_8 : decode cX6_trySay 8 = .ok (.ifCond .ne 35, 3) := by decide +kernel
theorem dX6_trySay_11 : decode cX6_trySay 11 = .ok (.aload_n 0, 1) := by decide +kernel
theorem dX6_trySay_12 : decode cX6_trySay 12 = .ok (.getfield 9, 3) := by decide +kernel
theorem dX6_trySay_15 : decode cX6_trySay 15 = .ok (.bipush 15, 2) := by decide +kernel
theorem dX6_trySay_17 : decode cX6_trySay 17 = .ok (.iload_n 2, 1) := by decide +kernel
theorem dX6_trySay_18 : decode cX6_trySay 18 = .ok (.iadd, 1) := by decide +kernel
theorem dX6_trySay_19 : decode cX6_trySay 19 = .ok (.aload_n 0, 1) := by decide +kernel
theorem dX6_trySay_20 : decode cX6_trySay 20 = .ok (.getfield 9, 3) := by decide +kernel
theorem dX6_trySay_23 : decode cX6_trySay 23 = .ok (.iconst 0, 1) := by decide +kernel
theorem dX6_trySay_24 : decode cX6_trySay 24 = .ok (.iaload, 1) := by decide +kernel
theorem dX6_trySay_25 : decode cX6_trySay 25 = .ok (.iastore, 1) := by decide +kernel
theorem dX6_trySay_26 : decode cX6_trySay 26 = .ok (.aload_n 0, 1) := by decide +kernel
theorem dX6_trySay_27 : decode cX6_trySay 27 = .ok (.getfield 9, 3) := by decide +kernel
theorem dX6_trySay_30 : decode cX6_trySay 30 = .ok (.bipush 23, 2) := by decide +kernel
theorem dX6_trySay_32 : decode cX6_trySay 32 = .ok (.iload_n 2, 1) := by decide +kernel
theorem dX6_trySay_33 : decode cX6_trySay 33 = .ok (.iadd, 1) := by decide +kernel
theorem dX6_trySay_34 : decode cX6_trySay 34 = .ok (.aload_n 0, 1) := by decide +kernel
theorem dX6_trySay_35 : decode cX6_trySay 35 = .ok (.getfield 9, 3) := by decide +kernel
theorem dX6_trySay_38 : decode cX6_trySay 38 = .ok (.iconst 3, 1) := by decide +kernel
theorem dX6_trySay_39 : decode cX6_trySay 39 = .ok (.iload_n 1, 1) := by decide +kernel
theorem dX6_trySay_40 : decode cX6_trySay 40 = .ok (.iadd, 1) := by decide +kernel
theorem dX6_trySay_41 : decode cX6_trySay 41 = .ok (.iaload, 1) := by decide +kernel
theorem dX6_trySay_42 : decode cX6_trySay 42 = .ok (.iastore, 1) := by decide +kernel
theorem dX6_trySay_43 : decode cX6_trySay 43 = .ok (.iload_n 3, 1) := by decide +kernel
theorem dX6_trySay_44 : decode cX6_trySay 44 = .ok (.ireturn, 1) := by decide +kernel
theorem dX6_passHours_0 : decode cX6_passHours 0 = .ok (.iload_n 1, 1) := by decide +kernel
theorem dX6_passHours_1 : decode cX6_passHours 1 = .ok (.aload_n 0, 1) := by decide +kernel
theorem dX6_passHours_2 : decode cX6_passHours 2 = .ok (.invokevirtual 64, 3) := by decide +kernel
theorem dX6_passHours_5 : decode cX6_passHours 5 = .ok (.invokestatic 55, 3) := by decide +kernel
theorem dX6_passHours_8 : decode cX6_passHours 8 = .ok (.istore_n 2, 1) := by decide +kernel
theorem dX6_passHours_9 : decode cX6_passHours 9 = .ok (.aload_n 0, 1) := by decide +kernel
theorem dX6_passHours_10 : decode cX6_passHours 10 = .ok (.getfield 9, 3) := by decide +kernel
theorem dX6_passHours_13 : decode cX6_passHours 13 = .ok (.iconst 0, 1) := by decide +kernel
theorem dX6_passHours_14 : decode cX6_passHours 14 = .ok (.dup2, 1) := by decide +kernel
theorem dX6_passHours_15 : decode cX6_passHours 15 = .ok (.iaload, 1) := by decide +kernel
theorem dX6_passHours_16 : decode cX6_passHours 16 = .ok (.iload_n 2, 1) := by decide +kernel
theorem dX6_passHours_17 : decode cX6_passHours 17 = .ok (.iadd, 1) := by decide +kernel
theorem dX6_passHours_18 : decode cX6_passHours 18 = .ok (.iastore, 1) := by decide +kernel
theorem dX6_passHours_19 : decode cX6_passHours 19 = .ok (.aload_n 0, 1) := by decide +kernel
theorem dX6_passHours_20 : decode cX6_passHours 20 = .ok (.getfield 9, 3) := by decide +kernel
theorem dX6_passHours_23 : decode cX6_passHours 23 = .ok (.iconst 1, 1) := by decide +kernel
theorem dX6_passHours_24 : decode cX6_passHours 24 = .ok (.iconst 0, 1) := by decide +kernel
theorem dX6_passHours_25 : decode cX6_passHours 25 = .ok (.iastore, 1) := by decide +kernel
theorem dX6_passHours_26 : decode cX6_passHours 26 = .ok (.iload_n 2, 1) := by decide +kernel
theorem dX6_passHours_27 : decode cX6_passHours 27 = .ok (.ireturn, 1) := by decide +kernel
theorem dX6_mark_0 : decode cX6_mark 0 = .ok (.aload_n 0, 1) := by decide +kernel
theorem dX6_mark_1 : decode cX6_mark 1 = .ok (.getfield 15, 3) := by decide +kernel
theorem dX6_mark_4 : decode cX6_mark 4 = .ok (.iload_n 1, 1) := by decide +kernel
theorem dX6_mark_5 : decode cX6_mark 5 = .ok (.iconst 4, 1) := by decide +kernel
theorem dX6_mark_6 : decode cX6_mark 6 = .ok (.imul, 1) := by decide +kernel
theorem dX6_mark_7 : decode cX6_mark 7 = .ok (.iload_n 2, 1) := by decide +kernel
theorem dX6_mark_8 : decode cX6_mark 8 = .ok (.iadd, 1) := by decide +kernel
theorem dX6_mark_9 : decode cX6_mark 9 = .ok (.iaload, 1) := by decide +kernel
theorem dX6_mark_10 : decode cX6_mark 10 = .ok (.ireturn, 1) := by decide +kernel
theorem dX6_isSaid_0 : decode cX6_isSaid 0 = .ok (.aload_n 0, 1) := by decide +kernel
theorem dX6_isSaid_1 : decode cX6_isSaid 1 = .ok (.getfield 9, 3) := by decide +kernel
theorem dX6_isSaid_4 : decode cX6_isSaid 4 = .ok (.bipush 15, 2) := by decide +kernel
theorem dX6_isSaid_6 : decode cX6_isSaid 6 = .ok (.iload_n 1, 1) := by decide +kernel
theorem dX6_isSaid_7 : decode cX6_isSaid 7 = .ok (.iadd, 1) := by decide +kernel
theorem dX6_isSaid_8 : decode cX6_isSaid 8 = .ok (.iaload, 1) := by decide +kernel
theorem dX6_isSaid_9 : decode cX6_isSaid 9 = .ok (.iconst (-1), 1) := by decide +kernel
theorem dX6_isSaid_10 : decode cX6_isSaid 10 = .ok (.if_icmp .eq 7, 3) := by decide +kernel
theorem dX6_isSaid_13 : decode cX6_isSaid 13 = .ok (.iconst 1, 1) := by decide +kernel
theorem dX6_isSaid_14 : decode cX6_isSaid 14 = .ok (.goto 4, 3) := by decide +kernel
theorem dX6_isSaid_17 : decode cX6_isSaid 17 = .ok (.iconst 0, 1) := by decide +kernel
theorem dX6_isSaid_18 : decode cX6_isSaid 18 = .ok (.ireturn, 1) := by decide +kernel
theorem dX6_isBound_0 : decode cX6_isBound 0 = .ok (.aload_n 0, 1) := by decide +kernel
theorem dX6_isBound_1 : decode cX6_isBound 1 = .ok (.iload_n 1, 1) := by decide +kernel
theorem dX6_isBound_2 : decode cX6_isBound 2 = .ok (.invokevirtual 93, 3) := by decide +kernel
theorem dX6_isBound_5 : decode cX6_isBound 5 = .ok (.ifCond .eq 30, 3) := by decide +kernel
theorem dX6_isBound_8 : decode cX6_isBound 8 = .ok (.aload_n 0, 1) := by decide +kernel
theorem dX6_isBound_9 : decode cX6_isBound 9 = .ok (.getfield 31, 3) := by decide +kernel
theorem dX6_isBound_12 : decode cX6_isBound 12 = .ok (.invokevirtual 96, 3) := by decide +kernel
theorem dX6_isBound_15 : decode cX6_isBound 15 = .ok (.aload_n 0, 1) := by decide +kernel
theorem dX6_isBound_16 : decode cX6_isBound 16 = .ok (.getfield 9, 3) := by decide +kernel
theorem dX6_isBound_19 : decode cX6_isBound 19 = .ok (.bipush 23, 2) := by decide +kernel
theorem dX6_isBound_21 : decode cX6_isBound 21 = .ok (.iload_n 1, 1) := by decide +kernel
theorem dX6_isBound_22 : decode cX6_isBound 22 = .ok (.iadd, 1) := by decide +kernel
theorem dX6_isBound_23 : decode cX6_isBound 23 = .ok (.iaload, 1) := by decide +kernel
theorem dX6_isBound_24 : decode cX6_isBound 24 = .ok (.ishr, 1) := by decide +kernel
theorem dX6_isBound_25 : decode cX6_isBound 25 = .ok (.iconst 1, 1) := by decide +kernel
theorem dX6_isBound_26 : decode cX6_isBound 26 = .ok (.iand, 1) := by decide +kernel
theorem dX6_isBound_27 : decode cX6_isBound 27 = .ok (.iconst 1, 1) := by decide +kernel
theorem dX6_isBound_28 : decode cX6_isBound 28 = .ok (.if_icmp .ne 7, 3) := by decide +kernel
theorem dX6_isBound_31 : decode cX6_isBound 31 = .ok (.iconst 1, 1) := by decide +kernel
theorem dX6_isBound_32 : decode cX6_isBound 32 = .ok (.goto 4, 3) := by decide +kernel
theorem dX6_isBound_35 : decode cX6_isBound 35 = .ok (.iconst 0, 1) := by decide +kernel
theorem dX6_isBound_36 : decode cX6_isBound 36 = .ok (.ireturn, 1) := by decide +kernel
theorem dX6_saidCount_0 : decode cX6_saidCount 0 = .ok (.iconst 0, 1) := by decide +kernel
theorem dX6_saidCount_1 : decode cX6_saidCount 1 = .ok (.istore_n 1, 1) := by decide +kernel
theorem dX6_saidCount_2 : decode cX6_saidCount 2 = .ok (.iconst 0, 1) := by decide +kernel
theorem dX6_saidCount_3 : decode cX6_saidCount 3 = .ok (.istore_n 2, 1) := by decide +kernel
theorem dX6_saidCount_4 : decode cX6_saidCount 4 = .ok (.iload_n 2, 1) := by decide +kernel
theorem dX6_saidCount_5 : decode cX6_saidCount 5 = .ok (.aload_n 0, 1) := by decide +kernel
theorem dX6_saidCount_6 : decode cX6_saidCount 6 = .ok (.getfield 31, 3) := by decide +kernel
theorem dX6_saidCount_9 : decode cX6_saidCount 9 = .ok (.getfield 99, 3) := by decide +kernel
theorem dX6_saidCount_12 : decode cX6_saidCount 12 = .ok (.if_icmp .ge 25, 3) := by decide +kernel
theorem dX6_saidCount_15 : decode cX6_saidCount 15 = .ok (.iload_n 1, 1) := by decide +kernel
theorem dX6_saidCount_16 : decode cX6_saidCount 16 = .ok (.aload_n 0, 1) := by decide +kernel
theorem dX6_saidCount_17 : decode cX6_saidCount 17 = .ok (.iload_n 2, 1) := by decide +kernel
theorem dX6_saidCount_18 : decode cX6_saidCount 18 = .ok (.invokevirtual 93, 3) := by decide +kernel
theorem dX6_saidCount_21 : decode cX6_saidCount 21 = .ok (.ifCond .eq 7, 3) := by decide +kernel
theorem dX6_saidCount_24 : decode cX6_saidCount 24 = .ok (.iconst 1, 1) := by decide +kernel
theorem dX6_saidCount_25 : decode cX6_saidCount 25 = .ok (.goto 4, 3) := by decide +kernel
theorem dX6_saidCount_28 : decode cX6_saidCount 28 = .ok (.iconst 0, 1) := by decide +kernel
theorem dX6_saidCount_29 : decode cX6_saidCount 29 = .ok (.iadd, 1) := by decide +kernel
theorem dX6_saidCount_30 : decode cX6_saidCount 30 = .ok (.istore_n 1, 1) := by decide +kernel
theorem dX6_saidCount_31 : decode cX6_saidCount 31 = .ok (.iinc 2 1, 3) := by decide +kernel
theorem dX6_saidCount_34 : decode cX6_saidCount 34 = .ok (.goto (-30), 3) := by decide +kernel
theorem dX6_saidCount_37 : decode cX6_saidCount 37 = .ok (.iload_n 1, 1) := by decide +kernel
theorem dX6_saidCount_38 : decode cX6_saidCount 38 = .ok (.ireturn, 1) := by decide +kernel
theorem dX6_boundCount_0 : decode cX6_boundCount 0 = .ok (.iconst 0, 1) := by decide +kernel
theorem dX6_boundCount_1 : decode cX6_boundCount 1 = .ok (.istore_n 1, 1) := by decide +kernel
theorem dX6_boundCount_2 : decode cX6_boundCount 2 = .ok (.iconst 0, 1) := by decide +kernel
theorem dX6_boundCount_3 : decode cX6_boundCount 3 = .ok (.istore_n 2, 1) := by decide +kernel
theorem dX6_boundCount_4 : decode cX6_boundCount 4 = .ok (.iload_n 2, 1) := by decide +kernel
theorem dX6_boundCount_5 : decode cX6_boundCount 5 = .ok (.aload_n 0, 1) := by decide +kernel
theorem dX6_boundCount_6 : decode cX6_boundCount 6 = .ok (.getfield 31, 3) := by decide +kernel
theorem dX6_boundCount_9 : decode cX6_boundCount 9 = .ok (.getfield 99, 3) := by decide +kernel
theorem dX6_boundCount_12 : decode cX6_boundCount 12 = .ok (.if_icmp .ge 25, 3) := by decide +kernel
theorem dX6_boundCount_15 : decode cX6_boundCount 15 = .ok (.iload_n 1, 1) := by decide +kernel
theorem dX6_boundCount_16 : decode cX6_boundCount 16 = .ok (.aload_n 0, 1) := by decide +kernel
theorem dX6_boundCount_17 : decode cX6_boundCount 17 = .ok (.iload_n 2, 1) := by decide +kernel
theorem dX6_boundCount_18 : decode cX6_boundCount 18 = .ok (.invokevirtual 102, 3) := by decide +kernel
theorem dX6_boundCount_21 : decode cX6_boundCount 21 = .ok (.ifCond .eq 7, 3) := by decide +kernel
theorem dX6_boundCount_24 : decode cX6_boundCount 24 = .ok (.iconst 1, 1) := by decide +kernel
theorem dX6_boundCount_25 : decode cX6_boundCount 25 = .ok (.goto 4, 3) := by decide +kernel
theorem dX6_boundCount_28 : decode cX6_boundCount 28 = .ok (.iconst 0, 1) := by decide +kernel
theorem dX6_boundCount_29 : decode cX6_boundCount 29 = .ok (.iadd, 1) := by decide +kernel
theorem dX6_boundCount_30 : decode cX6_boundCount 30 = .ok (.istore_n 1, 1) := by decide +kernel
theorem dX6_boundCount_31 : decode cX6_boundCount 31 = .ok (.iinc 2 1, 3) := by decide +kernel
theorem dX6_boundCount_34 : decode cX6_boundCount 34 = .ok (.goto (-30), 3) := by decide +kernel
theorem dX6_boundCount_37 : decode cX6_boundCount 37 = .ok (.iload_n 1, 1) := by decide +kernel
theorem dX6_boundCount_38 : decode cX6_boundCount 38 = .ok (.ireturn, 1) := by decide +kernel
theorem dX6_knownWhen_0 : decode cX6_knownWhen 0 = .ok (.aload_n 0, 1) := by decide +kernel
theorem dX6_knownWhen_1 : decode cX6_knownWhen 1 = .ok (.iload_n 2, 1) := by decide +kernel
theorem dX6_knownWhen_2 : decode cX6_knownWhen 2 = .ok (.invokevirtual 102, 3) := by decide +kernel
theorem dX6_knownWhen_5 : decode cX6_knownWhen 5 = .ok (.ifCond .ne 5, 3) := by decide +kernel
theorem dX6_knownWhen_8 : decode cX6_knownWhen 8 = .ok (.iconst (-1), 1) := by decide +kernel
theorem dX6_knownWhen_9 : decode cX6_knownWhen 9 = .ok (.ireturn, 1) := by decide +kernel
theorem dX6_knownWhen_10 : decode cX6_knownWhen 10 = .ok (.aload_n 0, 1) := by decide +kernel
theorem dX6_knownWhen_11 : decode cX6_knownWhen 11 = .ok (.getfield 31, 3) := by decide +kernel
theorem dX6_knownWhen_14 : decode cX6_knownWhen 14 = .ok (.invokevirtual 96, 3) := by decide +kernel
theorem dX6_knownWhen_17 : decode cX6_knownWhen 17 = .ok (.istore_n 3, 1) := by decide +kernel
theorem dX6_knownWhen_18 : decode cX6_knownWhen 18 = .ok (.iconst 1, 1) := by decide +kernel
theorem dX6_knownWhen_19 : decode cX6_knownWhen 19 = .ok (.aload_n 0, 1) := by decide +kernel
theorem dX6_knownWhen_20 : decode cX6_knownWhen 20 = .ok (.getfield 9, 3) := by decide +kernel
theorem dX6_knownWhen_23 : decode cX6_knownWhen 23 = .ok (.bipush 23, 2) := by decide +kernel
theorem dX6_knownWhen_25 : decode cX6_knownWhen 25 = .ok (.iload_n 2, 1) := by decide +kernel
theorem dX6_knownWhen_26 : decode cX6_knownWhen 26 = .ok (.iadd, 1) := by decide +kernel
theorem dX6_knownWhen_27 : decode cX6_knownWhen 27 = .ok (.iaload, 1) := by decide +kernel
theorem dX6_knownWhen_28 : decode cX6_knownWhen 28 = .ok (.ishl, 1) := by decide +kernel
theorem dX6_knownWhen_29 : decode cX6_knownWhen 29 = .ok (.istore 4, 2) := by decide +kernel
theorem dX6_knownWhen_31 : decode cX6_knownWhen 31 = .ok (.iconst 0, 1) := by decide +kernel
theorem dX6_knownWhen_32 : decode cX6_knownWhen 32 = .ok (.istore 5, 2) := by decide +kernel
theorem dX6_knownWhen_34 : decode cX6_knownWhen 34 = .ok (.iload 5, 2) := by decide +kernel
theorem dX6_knownWhen_36 : decode cX6_knownWhen 36 = .ok (.bipush 8, 2) := by decide +kernel
theorem dX6_knownWhen_38 : decode cX6_knownWhen 38 = .ok (.if_icmp .ge 53, 3) := by decide +kernel
theorem dX6_knownWhen_41 : decode cX6_knownWhen 41 = .ok (.iload 4, 2) := by decide +kernel
theorem dX6_knownWhen_43 : decode cX6_knownWhen 43 = .ok (.aload_n 0, 1) := by decide +kernel
theorem dX6_knownWhen_44 : decode cX6_knownWhen 44 = .ok (.getfield 31, 3) := by decide +kernel
theorem dX6_knownWhen_47 : decode cX6_knownWhen 47 = .ok (.getfield 105, 3) := by decide +kernel
theorem dX6_knownWhen_50 : decode cX6_knownWhen 50 = .ok (.iload_n 1, 1) := by decide +kernel
theorem dX6_knownWhen_51 : decode cX6_knownWhen 51 = .ok (.iaload, 1) := by decide +kernel
theorem dX6_knownWhen_52 : decode cX6_knownWhen 52 = .ok (.ishr, 1) := by decide +kernel
theorem dX6_knownWhen_53 : decode cX6_knownWhen 53 = .ok (.iconst 1, 1) := by decide +kernel
theorem dX6_knownWhen_54 : decode cX6_knownWhen 54 = .ok (.iand, 1) := by decide +kernel
theorem dX6_knownWhen_55 : decode cX6_knownWhen 55 = .ok (.iconst 1, 1) := by decide +kernel
theorem dX6_knownWhen_56 : decode cX6_knownWhen 56 = .ok (.if_icmp .ne 16, 3) := by decide +kernel
theorem dX6_knownWhen_59 : decode cX6_knownWhen 59 = .ok (.aload_n 0, 1) := by decide +kernel
theorem dX6_knownWhen_60 : decode cX6_knownWhen 60 = .ok (.getfield 9, 3) := by decide +kernel
theorem dX6_knownWhen_63 : decode cX6_knownWhen 63 = .ok (.bipush 15, 2) := by decide +kernel
theorem dX6_knownWhen_65 : decode cX6_knownWhen 65 = .ok (.iload_n 2, 1) := by decide +kernel
theorem dX6_knownWhen_66 : decode cX6_knownWhen 66 = .ok (.iadd, 1) := by decide +kernel
theorem dX6_knownWhen_67 : decode cX6_knownWhen 67 = .ok (.iaload, 1) := by decide +kernel
theorem dX6_knownWhen_68 : decode cX6_knownWhen 68 = .ok (.iload 5, 2) := by decide +kernel
theorem dX6_knownWhen_70 : decode cX6_knownWhen 70 = .ok (.iadd, 1) := by decide +kernel
theorem dX6_knownWhen_71 : decode cX6_knownWhen 71 = .ok (.ireturn, 1) := by decide +kernel
theorem dX6_knownWhen_72 : decode cX6_knownWhen 72 = .ok (.aload_n 0, 1) := by decide +kernel
theorem dX6_knownWhen_73 : decode cX6_knownWhen 73 = .ok (.getfield 31, 3) := by decide +kernel
theorem dX6_knownWhen_76 : decode cX6_knownWhen 76 = .ok (.iload 4, 2) := by decide +kernel
theorem dX6_knownWhen_78 : decode cX6_knownWhen 78 = .ok (.invokevirtual 108, 3) := by decide +kernel
theorem dX6_knownWhen_81 : decode cX6_knownWhen 81 = .ok (.iload_n 3, 1) := by decide +kernel
theorem dX6_knownWhen_82 : decode cX6_knownWhen 82 = .ok (.iand, 1) := by decide +kernel
theorem dX6_knownWhen_83 : decode cX6_knownWhen 83 = .ok (.istore 4, 2) := by decide +kernel
theorem dX6_knownWhen_85 : decode cX6_knownWhen 85 = .ok (.iinc 5 1, 3) := by decide +kernel
theorem dX6_knownWhen_88 : decode cX6_knownWhen 88 = .ok (.goto (-54), 3) := by decide +kernel
theorem dX6_knownWhen_91 : decode cX6_knownWhen 91 = .ok (.iconst (-1), 1) := by decide +kernel
theorem dX6_knownWhen_92 : decode cX6_knownWhen 92 = .ok (.ireturn, 1) := by decide +kernel
theorem dX6_heardBits_0 : decode cX6_heardBits 0 = .ok (.iconst 0, 1) := by decide +kernel
theorem dX6_heardBits_1 : decode cX6_heardBits 1 = .ok (.istore_n 2, 1) := by decide +kernel
theorem dX6_heardBits_2 : decode cX6_heardBits 2 = .ok (.iconst 0, 1) := by decide +kernel
theorem dX6_heardBits_3 : decode cX6_heardBits 3 = .ok (.istore_n 3, 1) := by decide +kernel
theorem dX6_heardBits_4 : decode cX6_heardBits 4 = .ok (.iload_n 3, 1) := by decide +kernel
theorem dX6_heardBits_5 : decode cX6_heardBits 5 = .ok (.aload_n 0, 1) := by decide +kernel
theorem dX6_heardBits_6 : decode cX6_heardBits 6 = .ok (.getfield 31, 3) := by decide +kernel
theorem dX6_heardBits_9 : decode cX6_heardBits 9 = .ok (.getfield 111, 3) := by decide +kernel
theorem dX6_heardBits_12 : decode cX6_heardBits 12 = .ok (.if_icmp .ge 40, 3) := by decide +kernel
theorem dX6_heardBits_15 : decode cX6_heardBits 15 = .ok (.aload_n 0, 1) := by decide +kernel
theorem dX6_heardBits_16 : decode cX6_heardBits 16 = .ok (.iload_n 3, 1) := by decide +kernel
theorem dX6_heardBits_17 : decode cX6_heardBits 17 = .ok (.iload_n 1, 1) := by decide +kernel
theorem dX6_heardBits_18 : decode cX6_heardBits 18 = .ok (.invokevirtual 114, 3) := by decide +kernel
theorem dX6_heardBits_21 : decode cX6_heardBits 21 = .ok (.istore 4, 2) := by decide +kernel
theorem dX6_heardBits_23 : decode cX6_heardBits 23 = .ok (.iload 4, 2) := by decide +kernel
theorem dX6_heardBits_25 : decode cX6_heardBits 25 = .ok (.iconst (-1), 1) := by decide +kernel
theorem dX6_heardBits_26 : decode cX6_heardBits 26 = .ok (.if_icmp .eq 20, 3) := by decide +kernel
theorem dX6_heardBits_29 : decode cX6_heardBits 29 = .ok (.iload 4, 2) := by decide +kernel
theorem dX6_heardBits_31 : decode cX6_heardBits 31 = .ok (.aload_n 0, 1) := by decide +kernel
theorem dX6_heardBits_32 : decode cX6_heardBits 32 = .ok (.getfield 9, 3) := by decide +kernel
theorem dX6_heardBits_35 : decode cX6_heardBits 35 = .ok (.iconst 0, 1) := by decide +kernel
theorem dX6_heardBits_36 : decode cX6_heardBits 36 = .ok (.iaload, 1) := by decide +kernel
theorem dX6_heardBits_37 : decode cX6_heardBits 37 = .ok (.if_icmp .gt 9, 3) := by decide +kernel
theorem dX6_heardBits_40 : decode cX6_heardBits 40 = .ok (.iload_n 2, 1) := by decide +kernel
theorem dX6_heardBits_41 : decode cX6_heardBits 41 = .ok (.iconst 1, 1) := by decide +kernel
theorem dX6_heardBits_42 : decode cX6_heardBits 42 = .ok (.iload_n 3, 1) := by decide +kernel
theorem dX6_heardBits_43 : decode cX6_heardBits 43 = .ok (.ishl, 1) := by decide +kernel
theorem dX6_heardBits_44 : decode cX6_heardBits 44 = .ok (.ior, 1) := by decide +kernel
theorem dX6_heardBits_45 : decode cX6_heardBits 45 = .ok (.istore_n 2, 1) := by decide +kernel
theorem dX6_heardBits_46 : decode cX6_heardBits 46 = .ok (.iinc 3 1, 3) := by decide +kernel
theorem dX6_heardBits_49 : decode cX6_heardBits 49 = .ok (.goto (-45), 3) := by decide +kernel
theorem dX6_heardBits_52 : decode cX6_heardBits 52 = .ok (.iload_n 2, 1) := by decide +kernel
theorem dX6_heardBits_53 : decode cX6_heardBits 53 = .ok (.ireturn, 1) := by decide +kernel
theorem dX7_init_0 : decode cX7_init 0 = .ok (.aload_n 0, 1) := by decide +kernel
theorem dX7_init_1 : decode cX7_init 1 = .ok (.invokespecial 3, 3) := by decide +kernel
theorem dX7_init_4 : decode cX7_init 4 = .ok (.aload_n 0, 1) := by decide +kernel
theorem dX7_init_5 : decode cX7_init 5 = .ok (.iconst 4, 1) := by decide +kernel
theorem dX7_init_6 : decode cX7_init 6 = .ok (.newarray .int, 2) := by decide +kernel
theorem dX7_init_8 : decode cX7_init 8 = .ok (.putfield 9, 3) := by decide +kernel
theorem dX7_init_11 : decode cX7_init 11 = .ok (.aload_n 0, 1) := by decide +kernel
theorem dX7_init_12 : decode cX7_init 12 = .ok (.iconst 4, 1) := by decide +kernel
theorem dX7_init_13 : decode cX7_init 13 = .ok (.newarray .int, 2) := by decide +kernel
theorem dX7_init_15 : decode cX7_init 15 = .ok (.putfield 15, 3) := by decide +kernel
theorem dX7_init_18 : decode cX7_init 18 = .ok (.aload_n 0, 1) := by decide +kernel
theorem dX7_init_19 : decode cX7_init 19 = .ok (.sipush 256, 3) := by decide +kernel
theorem dX7_init_22 : decode cX7_init 22 = .ok (.newarray .int, 2) := by decide +kernel
theorem dX7_init_24 : decode cX7_init 24 = .ok (.putfield 18, 3) := by decide +kernel
theorem dX7_init_27 : decode cX7_init 27 = .ok (.aload_n 0, 1) := by decide +kernel
theorem dX7_init_28 : decode cX7_init 28 = .ok (.bipush 24, 2) := by decide +kernel
theorem dX7_init_30 : decode cX7_init 30 = .ok (.newarray .int, 2) := by decide +kernel
theorem dX7_init_32 : decode cX7_init 32 = .ok (.putfield 21, 3) := by decide +kernel
theorem dX7_init_35 : decode cX7_init 35 = .ok (.aload_n 0, 1) := by decide +kernel
theorem dX7_init_36 : decode cX7_init 36 = .ok (.iconst 0, 1) := by decide +kernel
theorem dX7_init_37 : decode cX7_init 37 = .ok (.newarray .byte, 2) := by decide +kernel
theorem dX7_init_39 : decode cX7_init 39 = .ok (.putfield 24, 3) := by decide +kernel
theorem dX7_init_42 : decode cX7_init 42 = .ok (.aload_n 0, 1) := by decide +kernel
theorem dX7_init_43 : decode cX7_init 43 = .ok (.iconst 0, 1) := by decide +kernel
theorem dX7_init_44 : decode cX7_init 44 = .ok (.putfield 28, 3) := by decide +kernel
theorem dX7_init_47 : decode cX7_init 47 = .ok (.aload_n 0, 1) := by decide +kernel
theorem dX7_init_48 : decode cX7_init 48 = .ok (.iconst 0, 1) := by decide +kernel
theorem dX7_init_49 : decode cX7_init 49 = .ok (.putfield 32, 3) := by decide +kernel
theorem dX7_init_52 : decode cX7_init 52 = .ok (.aload_n 0, 1) := by decide +kernel
theorem dX7_init_53 : decode cX7_init 53 = .ok (.iconst 0, 1) := by decide +kernel
theorem dX7_init_54 : decode cX7_init 54 = .ok (.putfield 35, 3) := by decide +kernel
theorem dX7_init_57 : decode cX7_init 57 = .ok (.aload_n 0, 1) := by decide +kernel
theorem dX7_init_58 : decode cX7_init 58 = .ok (.iconst 0, 1) := by decide +kernel
theorem dX7_init_59 : decode cX7_init 59 = .ok (.putfield 38, 3) := by decide +kernel
theorem dX7_init_62 : decode cX7_init 62 = .ok (.aload_n 0, 1) := by decide +kernel
theorem dX7_init_63 : decode cX7_init 63 = .ok (.iconst 0, 1) := by decide +kernel
theorem dX7_init_64 : decode cX7_init 64 = .ok (.putfield 41, 3) := by decide +kernel
theorem dX7_init_67 : decode cX7_init 67 = .ok (.aload_n 0, 1) := by decide +kernel
theorem dX7_init_68 : decode cX7_init 68 = .ok (.iconst 0, 1) := by decide +kernel
theorem dX7_init_69 : decode cX7_init 69 = .ok (.putfield 44, 3) := by decide +kernel
theorem dX7_init_72 : decode cX7_init 72 = .ok (.aload_n 0, 1) := by decide +kernel
theorem dX7_init_73 : decode cX7_init 73 = .ok (.aload_n 1, 1) := by decide +kernel
theorem dX7_init_74 : decode cX7_init 74 = .ok (.putfield 47, 3) := by decide +kernel
theorem dX7_init_77 : decode cX7_init 77 = .ok (.aload_n 0, 1) := by decide +kernel
theorem dX7_init_78 : decode cX7_init 78 = .ok (.aload_n 2, 1) := by decide +kernel
theorem dX7_init_79 : decode cX7_init 79 = .ok (.putfield 51, 3) := by decide +kernel
theorem dX7_init_82 : decode cX7_init 82 = .ok (.aload_n 0, 1) := by decide +kernel
theorem dX7_init_83 : decode cX7_init 83 = .ok (.aload_n 3, 1) := by decide +kernel
theorem dX7_init_84 : decode cX7_init 84 = .ok (.putfield 55, 3) := by decide +kernel
theorem dX7_init_87 : decode cX7_init 87 = .ok (.return_, 1) := by decide +kernel
theorem dX7_stepIn_0 : decode cX7_stepIn 0 = .ok (.iload_n 1, 1) := by decide +kernel
theorem dX7_stepIn_1 : decode cX7_stepIn 1 = .ok (.aload_n 0, 1) := by decide +kernel
theorem dX7_stepIn_2 : decode cX7_stepIn 2 = .ok (.getfield 41, 3) := by decide +kernel
theorem dX7_stepIn_5 : decode cX7_stepIn 5 = .ok (.if_icmp .lt 20, 3) := by decide +kernel
theorem dX7_stepIn_8 : decode cX7_stepIn 8 = .ok (.iload_n 1, 1) := by decide +kernel
theorem dX7_stepIn_9 : decode cX7_stepIn 9 = .ok (.aload_n 0, 1) := by decide +kernel
theorem dX7_stepIn_10 : decode cX7_stepIn 10 = .ok (.getfield 44, 3) := by decide +kernel
theorem dX7_stepIn_13 : decode cX7_stepIn 13 = .ok (.if_icmp .ge 12, 3) := by decide +kernel
theorem dX7_stepIn_16 : decode cX7_stepIn 16 = .ok (.aload_n 0, 1) := by decide +kernel
theorem dX7_stepIn_17 : decode cX7_stepIn 17 = .ok (.getfield 21, 3) := by decide +kernel
theorem dX7_stepIn_20 : decode cX7_stepIn 20 = .ok (.iload_n 1, 1) := by decide +kernel
theorem dX7_stepIn_21 : decode cX7_stepIn 21 = .ok (.iaload, 1) := by decide +kernel
theorem dX7_stepIn_22 : decode cX7_stepIn 22 = .ok (.goto 4, 3) := by decide +kernel
theorem dX7_stepIn_25 : decode cX7_stepIn 25 = .ok (.iconst (-1), 1) := by decide +kernel
theorem dX7_stepIn_26 : decode cX7_stepIn 26 = .ok (.ireturn, 1) := by decide +kernel
theorem dX7_planFor_0 : decode cX7_planFor 0 = .ok (.aload_n 0, 1) := by decide +kernel
theorem dX7_planFor_1 : decode cX7_planFor 1 = .ok (.iload_n 1, 1) := by decide +kernel
theorem dX7_planFor_2 : decode cX7_planFor 2 = .ok (.invokevirtual 59, 3) := by decide +kernel
theorem dX7_planFor_5 : decode cX7_planFor 5 = .ok (.ifCond .ne 5, 3) := by decide +kernel
theorem dX7_planFor_8 : decode cX7_planFor 8 = .ok (.iconst (-1), 1) := by decide +kernel
theorem dX7_planFor_9 : decode cX7_planFor 9 = .ok (.ireturn, 1) := by decide +kernel
theorem dX7_planFor_10 : decode cX7_planFor 10 = .ok (.aload_n 0, 1) := by decide +kernel
theorem dX7_planFor_11 : decode cX7_planFor 11 = .ok (.iconst 1, 1) := by decide +kernel
theorem dX7_planFor_12 : decode cX7_planFor 12 = .ok (.aload_n 0, 1) := by decide +kernel
theorem dX7_planFor_13 : decode cX7_planFor 13 = .ok (.getfield 28, 3) := by decide +kernel
theorem dX7_planFor_16 : decode cX7_planFor 16 = .ok (.ishl, 1) := by decide +kernel
theorem dX7_planFor_17 : decode cX7_planFor 17 = .ok (.iconst 1, 1) := by decide +kernel
theorem dX7_planFor_18 : decode cX7_planFor 18 = .ok (.isub, 1) := by decide +kernel
theorem dX7_planFor_19 : decode cX7_planFor 19 = .ok (.invokevirtual 63, 3) := by decide +kernel
theorem dX7_planFor_22 : decode cX7_planFor 22 = .ok (.istore_n 2, 1) := by decide +kernel
theorem dX7_planFor_23 : decode cX7_planFor 23 = .ok (.iload_n 2, 1) := by decide +kernel
theorem dX7_planFor_24 : decode cX7_planFor 24 = .ok (.iconst (-1), 1) := by decide +kernel
theorem dX7_planFor_25 : decode cX7_planFor 25 = .ok (.if_icmp .eq 8, 3) := by decide +kernel
theorem dX7_planFor_28 : decode cX7_planFor 28 = .ok (.aload_n 0, 1) := by decide +kernel
theorem dX7_planFor_29 : decode cX7_planFor 29 = .ok (.iload_n 2, 1) := by decide +kernel
theorem dX7_planFor_30 : decode cX7_planFor 30 = .ok (.invokevirtual 67, 3) := by decide +kernel
theorem dX7_planFor_33 : decode cX7_planFor 33 = .ok (.iload_n 2, 1) := by decide +kernel
theorem dX7_planFor_34 : decode cX7_planFor 34 = .ok (.ireturn, 1) := by decide +kernel
theorem dX7_quarrelOf_0 : decode cX7_quarrelOf 0 = .ok (.aload_n 0, 1) := by decide +kernel
theorem dX7_quarrelOf_1 : decode cX7_quarrelOf 1 = .ok (.iload_n 1, 1) := by decide +kernel
theorem dX7_quarrelOf_2 : decode cX7_quarrelOf 2 = .ok (.invokevirtual 59, 3) := by decide +kernel
theorem dX7_quarrelOf_5 : decode cX7_quarrelOf 5 = .ok (.ifCond .ne 5, 3) := by decide +kernel
theorem dX7_quarrelOf_8 : decode cX7_quarrelOf 8 = .ok (.iconst (-1), 1) := by decide +kernel
theorem dX7_quarrelOf_9 : decode cX7_quarrelOf 9 = .ok (.ireturn, 1) := by decide +kernel
theorem dX7_quarrelOf_10 : decode cX7_quarrelOf 10 = .ok (.iconst 1, 1) := by decide +kernel
theorem dX7_quarrelOf_11 : decode cX7_quarrelOf 11 = .ok (.aload_n 0, 1) := by decide +kernel
theorem dX7_quarrelOf_12 : decode cX7_quarrelOf 12 = .ok (.getfield 28, 3) := by decide +kernel
theorem dX7_quarrelOf_15 : decode cX7_quarrelOf 15 = .ok (.ishl, 1) := by decide +kernel
theorem dX7_quarrelOf_16 : decode cX7_quarrelOf 16 = .ok (.iconst 1, 1) := by decide +kernel
theorem dX7_quarrelOf_17 : decode cX7_quarrelOf 17 = .ok (.isub, 1) := by decide +kernel
theorem dX7_quarrelOf_18 : decode cX7_quarrelOf 18 = .ok (.istore_n 2, 1) := by decide +kernel
theorem dX7_quarrelOf_19 : decode cX7_quarrelOf 19 = .ok (.aload_n 0, 1) := by decide +kernel
theorem dX7_quarrelOf_20 : decode cX7_quarrelOf 20 = .ok (.iload_n 2, 1) := by decide +kernel
theorem dX7_quarrelOf_21 : decode cX7_quarrelOf 21 = .ok (.invokevirtual 63, 3) := by decide +kernel
theorem dX7_quarrelOf_24 : decode cX7_quarrelOf 24 = .ok (.iconst (-1), 1) := by decide +kernel
theorem dX7_quarrelOf_25 : decode cX7_quarrelOf 25 = .ok (.if_icmp .eq 5, 3) := by decide +kernel
theorem dX7_quarrelOf_28 : decode cX7_quarrelOf 28 = .ok (.iconst 0, 1) := by decide +kernel
theorem dX7_quarrelOf_29 : decode cX7_quarrelOf 29 = .ok (.ireturn, 1) := by decide +kernel
theorem dX7_quarrelOf_30 : decode cX7_quarrelOf 30 = .ok (.iconst 1, 1) := by decide +kernel
theorem dX7_quarrelOf_31 : decode cX7_quarrelOf 31 = .ok (.istore_n 3, 1) := by decide +kernel
theorem dX7_quarrelOf_32 : decode cX7_quarrelOf 32 = .ok (.iload_n 3, 1) := by decide +kernel
theorem dX7_quarrelOf_33 : decode cX7_quarrelOf 33 = .ok (.aload_n 0, 1) := by decide +kernel
theorem dX7_quarrelOf_34 : decode cX7_quarrelOf 34 = .ok (.getfield 28, 3) := by decide +kernel
theorem dX7_quarrelOf_37 : decode cX7_quarrelOf 37 = .ok (.if_icmp .ge 50, 3) := by decide +kernel
theorem dX7_quarrelOf_40 : decode cX7_quarrelOf 40 = .ok (.iconst 1, 1) := by decide +kernel
theorem dX7_quarrelOf_41 : decode cX7_quarrelOf 41 = .ok (.istore 4, 2) := by decide +kernel
theorem dX7_quarrelOf_43 : decode cX7_quarrelOf 43 = .ok (.iload 4, 2) := by decide +kernel
theorem dX7_quarrelOf_45 : decode cX7_quarrelOf 45 = .ok (.iload_n 2, 1) := by decide +kernel
theorem dX7_quarrelOf_46 : decode cX7_quarrelOf 46 = .ok (.if_icmp .ge 35, 3) := by decide +kernel
theorem dX7_quarrelOf_49 : decode cX7_quarrelOf 49 = .ok (.iload 4, 2) := by decide +kernel
theorem dX7_quarrelOf_51 : decode cX7_quarrelOf 51 = .ok (.invokestatic 71, 3) := by decide +kernel
theorem dX7_quarrelOf_54 : decode cX7_quarrelOf 54 = .ok (.iload_n 3, 1) := by decide +kernel
theorem dX7_quarrelOf_55 : decode cX7_quarrelOf 55 = .ok (.if_icmp .ne 20, 3) := by decide +kernel
theorem dX7_quarrelOf_58 : decode cX7_quarrelOf 58 = .ok (.aload_n 0, 1) := by decide +kernel
theorem dX7_quarrelOf_59 : decode cX7_quarrelOf 59 = .ok (.iload 4, 2) := by decide +kernel
theorem dX7_quarrelOf_61 : decode cX7_quarrelOf 61 = .ok (.invokevirtual 63, 3) := by decide +kernel
theorem dX7_quarrelOf_64 : decode cX7_quarrelOf 64 = .ok (.iconst (-1), 1) := by decide +kernel
theorem dX7_quarrelOf_65 : decode cX7_quarrelOf 65 = .ok (.if_icmp .ne 10, 3) := by decide +kernel
theorem dX7_quarrelOf_68 : decode cX7_quarrelOf 68 = .ok (.aload_n 0, 1) := by decide +kernel
theorem dX7_quarrelOf_69 : decode cX7_quarrelOf 69 = .ok (.iload 4, 2) := by decide +kernel
theorem dX7_quarrelOf_71 : decode cX7_quarrelOf 71 = .ok (.invokevirtual 76, 3) := by decide +kernel
theorem dX7_quarrelOf_74 : decode cX7_quarrelOf 74 = .ok (.ireturn, 1) := by decide +kernel
theorem dX7_quarrelOf_75 : decode cX7_quarrelOf 75 = .ok (.iinc 4 1, 3) := by decide +kernel
theorem dX7_quarrelOf_78 : decode cX7_quarrelOf 78 = .ok (.goto (-35), 3) := by decide +kernel
theorem dX7_quarrelOf_81 : decode cX7_quarrelOf 81 = .ok (.iinc 3 1, 3) := by decide +kernel
theorem dX7_quarrelOf_84 : decode cX7_quarrelOf 84 = .ok (.goto (-52), 3) := by decide +kernel
theorem dX7_quarrelOf_87 : decode cX7_quarrelOf 87 = .ok (.aload_n 0, 1) := by decide +kernel
theorem dX7_quarrelOf_88 : decode cX7_quarrelOf 88 = .ok (.iload_n 2, 1) := by decide +kernel
theorem dX7_quarrelOf_89 : decode cX7_quarrelOf 89 = .ok (.invokevirtual 76, 3) := by decide +kernel
theorem dX7_quarrelOf_92 : decode cX7_quarrelOf 92 = .ok (.ireturn, 1) := by decide +kernel
theorem dX7_promiseBits_0 : decode cX7_promiseBits 0 = .ok (.iconst 0, 1) := by decide +kernel
theorem dX7_promiseBits_1 : decode cX7_promiseBits 1 = .ok (.istore_n 2, 1) := by decide +kernel
theorem dX7_promiseBits_2 : decode cX7_promiseBits 2 = .ok (.iconst 0, 1) := by decide +kernel
theorem dX7_promiseBits_3 : decode cX7_promiseBits 3 = .ok (.istore_n 3, 1) := by decide +kernel
theorem dX7_promiseBits_4 : decode cX7_promiseBits 4 = .ok (.iload_n 3, 1) := by decide +kernel
theorem dX7_promiseBits_5 : decode cX7_promiseBits 5 = .ok (.aload_n 0, 1) := by decide +kernel
theorem dX7_promiseBits_6 : decode cX7_promiseBits 6 = .ok (.getfield 28, 3) := by decide +kernel
theorem dX7_promiseBits_9 : decode cX7_promiseBits 9 = .ok (.if_icmp .ge 29, 3) := by decide +kernel
theorem dX7_promiseBits_12 : decode cX7_promiseBits 12 = .ok (.iload_n 1, 1) := by decide +kernel
theorem dX7_promiseBits_13 : decode cX7_promiseBits 13 = .ok (.iload_n 3, 1) := by decide +kernel
theorem dX7_promiseBits_14 : decode cX7_promiseBits 14 = .ok (.ishr, 1) := by decide +kernel
theorem dX7_promiseBits_15 : decode cX7_promiseBits 15 = .ok (.iconst 1, 1) := by decide +kernel
theorem dX7_promiseBits_16 : decode cX7_promiseBits 16 = .ok (.iand, 1) := by decide +kernel
theorem dX7_promiseBits_17 : decode cX7_promiseBits 17 = .ok (.iconst 1, 1) := by decide +kernel
theorem dX7_promiseBits_18 : decode cX7_promiseBits 18 = .ok (.if_icmp .ne 14, 3) := by decide +kernel
theorem dX7_promiseBits_21 : decode cX7_promiseBits 21 = .ok (.iload_n 2, 1) := by decide +kernel
theorem dX7_promiseBits_22 : decode cX7_promiseBits 22 = .ok (.iconst 1, 1) := by decide +kernel
theorem dX7_promiseBits_23 : decode cX7_promiseBits 23 = .ok (.aload_n 0, 1) := by decide +kernel
theorem dX7_promiseBits_24 : decode cX7_promiseBits 24 = .ok (.getfield 9, 3) := by decide +kernel
theorem dX7_promiseBits_27 : decode cX7_promiseBits 27 = .ok (.iload_n 3, 1) := by decide +kernel
theorem dX7_promiseBits_28 : decode cX7_promiseBits 28 = .ok (.iaload, 1) := by decide +kernel
theorem dX7_promiseBits_29 : decode cX7_promiseBits 29 = .ok (.ishl, 1) := by decide +kernel
theorem dX7_promiseBits_30 : decode cX7_promiseBits 30 = .ok (.ior, 1) := by decide +kernel
theorem dX7_promiseBits_31 : decode cX7_promiseBits 31 = .ok (.istore_n 2, 1) := by decide +kernel
theorem dX7_promiseBits_32 : decode cX7_promiseBits 32 = .ok (.iinc 3 1, 3) := by decide +kernel
theorem dX7_promiseBits_35 : decode cX7_promiseBits 35 = .ok (.goto (-31), 3) := by decide +kernel
theorem dX7_promiseBits_38 : decode cX7_promiseBits 38 = .ok (.iload_n 2, 1) := by decide +kernel
theorem dX7_promiseBits_39 : decode cX7_promiseBits 39 = .ok (.ireturn, 1) := by decide +kernel
theorem dX7_gatherDue_0 : decode cX7_gatherDue 0 = .ok (.aload_n 0, 1) := by decide +kernel
theorem dX7_gatherDue_1 : decode cX7_gatherDue 1 = .ok (.iload_n 1, 1) := by decide +kernel
theorem dX7_gatherDue_2 : decode cX7_gatherDue 2 = .ok (.putfield 35, 3) := by decide +kernel
theorem dX7_gatherDue_5 : decode cX7_gatherDue 5 = .ok (.aload_n 0, 1) := by decide +kernel
theorem dX7_gatherDue_6 : decode cX7_gatherDue 6 = .ok (.aload_n 0, 1) := by decide +kernel
theorem dX7_gatherDue_7 : decode cX7_gatherDue 7 = .ok (.getfield 47, 3) := by decide +kernel
theorem dX7_gatherDue_10 : decode cX7_gatherDue 10 = .ok (.aload_n 0, 1) := by decide +kernel
theorem dX7_gatherDue_11 : decode cX7_gatherDue 11 = .ok (.getfield 51, 3) := by decide +kernel
theorem dX7_gatherDue_14 : decode cX7_gatherDue 14 = .ok (.getfield 79, 3) := by decide +kernel
theorem dX7_gatherDue_17 : decode cX7_gatherDue 17 = .ok (.iconst 0, 1) := by decide +kernel
theorem dX7_gatherDue_18 : decode cX7_gatherDue 18 = .ok (.iaload, 1) := by decide +kernel
theorem dX7_gatherDue_19 : decode cX7_gatherDue 19 = .ok (.invokevirtual 84, 3) := by decide +kernel
theorem dX7_gatherDue_22 : decode cX7_gatherDue 22 = .ok (.putfield 38, 3) := by decide +kernel
theorem dX7_gatherDue_25 : decode cX7_gatherDue 25 = .ok (.aload_n 0, 1) := by decide +kernel
theorem dX7_gatherDue_26 : decode cX7_gatherDue 26 = .ok (.iconst 0, 1) := by decide +kernel
theorem dX7_gatherDue_27 : decode cX7_gatherDue 27 = .ok (.putfield 28, 3) := by decide +kernel
theorem dX7_gatherDue_30 : decode cX7_gatherDue 30 = .ok (.iconst 0, 1) := by decide +kernel
theorem dX7_gatherDue_31 : decode cX7_gatherDue 31 = .ok (.istore_n 2, 1) := by decide +kernel
theorem dX7_gatherDue_32 : decode cX7_gatherDue 32 = .ok (.iload_n 2, 1) := by decide +kernel
theorem dX7_gatherDue_33 : decode cX7_gatherDue 33 = .ok (.aload_n 0, 1) := by decide +kernel
theorem dX7_gatherDue_34 : decode cX7_gatherDue 34 = .ok (.getfield 47, 3) := by decide +kernel
theorem dX7_gatherDue_37 : decode cX7_gatherDue 37 = .ok (.getfield 89, 3) := by decide +kernel
theorem dX7_gatherDue_40 : decode cX7_gatherDue 40 = .ok (.if_icmp .ge 81, 3) := by decide +kernel
theorem dX7_gatherDue_43 : decode cX7_gatherDue 43 = .ok (.aload_n 0, 1) := by decide +kernel
theorem dX7_gatherDue_44 : decode cX7_gatherDue 44 = .ok (.getfield 47, 3) := by decide +kernel
theorem dX7_gatherDue_47 : decode cX7_gatherDue 47 = .ok (.iload_n 2, 1) := by decide +kernel
theorem dX7_gatherDue_48 : decode cX7_gatherDue 48 = .ok (.iconst 0, 1) := by decide +kernel
theorem dX7_gatherDue_49 : decode cX7_gatherDue 49 = .ok (.invokevirtual 92, 3) := by decide +kernel
theorem dX7_gatherDue_52 : decode cX7_gatherDue 52 = .ok (.iload_n 1, 1) := by decide +kernel
theorem dX7_gatherDue_53 : decode cX7_gatherDue 53 = .ok (.if_icmp .ne 15, 3) := by decide +kernel
theorem dX7_gatherDue_56 : decode cX7_gatherDue 56 = .ok (.aload_n 0, 1) := by decide +kernel
theorem dX7_gatherDue_57 : decode cX7_gatherDue 57 = .ok (.getfield 55, 3) := by decide +kernel
theorem dX7_gatherDue_60 : decode cX7_gatherDue 60 = .ok (.iload_n 2, 1) := by decide +kernel
theorem dX7_gatherDue_61 : decode cX7_gatherDue 61 = .ok (.iconst 0, 1) := by decide +kernel
theorem dX7_gatherDue_62 : decode cX7_gatherDue 62 = .ok (.invokevirtual 96, 3) := by decide +kernel
theorem dX7_gatherDue_65 : decode cX7_gatherDue 65 = .ok (.goto 4, 3) := by decide +kernel
theorem dX7_gatherDue_68 : decode cX7_gatherDue 68 = .ok (.iconst (-1), 1) := by decide +kernel
theorem dX7_gatherDue_69 : decode cX7_gatherDue 69 = .ok (.istore_n 3, 1) := by decide +kernel
theorem dX7_gatherDue_70 : decode cX7_gatherDue 70 = .ok (.iload_n 3, 1) := by decide +kernel
theorem dX7_gatherDue_71 : decode cX7_gatherDue 71 = .ok (.iconst (-1), 1) := by decide +kernel
theorem dX7_gatherDue_72 : decode cX7_gatherDue 72 = .ok (.if_icmp .eq 43, 3) := by decide +kernel
theorem dX7_gatherDue_75 : decode cX7_gatherDue 75 = .ok (.aload_n 0, 1) := by decide +kernel
theorem dX7_gatherDue_76 : decode cX7_gatherDue 76 = .ok (.getfield 28, 3) := by decide +kernel
theorem dX7_gatherDue_79 : decode cX7_gatherDue 79 = .ok (.iconst 4, 1) := by decide +kernel
theorem dX7_gatherDue_80 : decode cX7_gatherDue 80 = .ok (.if_icmp .lt 5, 3) := by decide +kernel
theorem dX7_gatherDue_83 : decode cX7_gatherDue 83 = .ok (.iconst 0, 1) := by decide +kernel
theorem dX7_gatherDue_84 : decode cX7_gatherDue 84 = .ok (.ireturn, 1) := by decide +kernel
theorem dX7_gatherDue_85 : decode cX7_gatherDue 85 = .ok (.aload_n 0, 1) := by decide +kernel
theorem dX7_gatherDue_86 : decode cX7_gatherDue 86 = .ok (.getfield 9, 3) := by decide +kernel
theorem dX7_gatherDue_89 : decode cX7_gatherDue 89 = .ok (.aload_n 0, 1) := by decide +kernel
theorem dX7_gatherDue_90 : decode cX7_gatherDue 90 = .ok (.getfield 28, 3) := by decide +kernel
theorem dX7_gatherDue_93 : decode cX7_gatherDue 93 = .ok (.iload_n 2, 1) := by decide +kernel
theorem dX7_gatherDue_94 : decode cX7_gatherDue 94 = .ok (.iastore, 1) := by decide +kernel
theorem dX7_gatherDue_95 : decode cX7_gatherDue 95 = .ok (.aload_n 0, 1) := by decide +kernel
theorem dX7_gatherDue_96 : decode cX7_gatherDue 96 = .ok (.getfield 15, 3) := by decide +kernel
theorem dX7_gatherDue_99 : decode cX7_gatherDue 99 = .ok (.aload_n 0, 1) := by decide +kernel
theorem dX7_gatherDue_100 : decode cX7_gatherDue 100 = .ok (.getfield 28, 3) := by decide +kernel
theorem dX7_gatherDue_103 : decode cX7_gatherDue 103 = .ok (.iload_n 3, 1) := by decide +kernel
theorem dX7_gatherDue_104 : decode cX7_gatherDue 104 = .ok (.iastore, 1) := by decide +kernel
theorem dX7_gatherDue_105 : decode cX7_gatherDue 105 = .ok (.aload_n 0, 1) := by decide +kernel
theorem dX7_gatherDue_106 : decode cX7_gatherDue 106 = .ok (.dup, 1) := by decide +kernel
theorem dX7_gatherDue_107 : decode cX7_gatherDue 107 = .ok (.getfield 28, 3) := by decide +kernel
theorem dX7_gatherDue_110 : decode cX7_gatherDue 110 = .ok (.iconst 1, 1) := by decide +kernel
theorem dX7_gatherDue_111 : decode cX7_gatherDue 111 = .ok (.iadd, 1) := by decide +kernel
theorem dX7_gatherDue_112 : decode cX7_gatherDue 112 = .ok (.putfield 28, 3) := by decide +kernel
theorem dX7_gatherDue_115 : decode cX7_gatherDue 115 = .ok (.iinc 2 1, 3) := by decide +kernel
theorem dX7_gatherDue_118 : decode cX7_gatherDue 118 = .ok (.goto (-86), 3) := by decide +kernel
theorem dX7_gatherDue_121 : decode cX7_gatherDue 121 = .ok (.iconst 1, 1) := by decide +kernel
theorem dX7_gatherDue_122 : decode cX7_gatherDue 122 = .ok (.ireturn, 1) := by decide +kernel
theorem dX7_cell_0 : decode cX7_cell 0 = .ok (.iload_n 0, 1) := by decide +kernel
theorem dX7_cell_1 : decode cX7_cell 1 = .ok (.sipush 2048, 3) := by decide +kernel
theorem dX7_cell_4 : decode cX7_cell 4 = .ok (.imul, 1) := by decide +kernel
theorem dX7_cell_5 : decode cX7_cell 5 = .ok (.iload_n 1, 1) := by decide +kernel
theorem dX7_cell_6 : decode cX7_cell 6 = .ok (.sipush 256, 3) := by decide +kernel
theorem dX7_cell_9 : decode cX7_cell 9 = .ok (.imul, 1) := by decide +kernel
theorem dX7_cell_10 : decode cX7_cell 10 = .ok (.iadd, 1) := by decide +kernel
theorem dX7_cell_11 : decode cX7_cell 11 = .ok (.iload_n 2, 1) := by decide +kernel
theorem dX7_cell_12 : decode cX7_cell 12 = .ok (.iadd, 1) := by decide +kernel
theorem dX7_cell_13 : decode cX7_cell 13 = .ok (.ireturn, 1) := by decide +kernel
theorem dX7_fewestGoings_0 : decode cX7_fewestGoings 0 = .ok (.aload_n 0, 1) := by decide +kernel
theorem dX7_fewestGoings_1 : decode cX7_fewestGoings 1 = .ok (.getfield 24, 3) := by decide +kernel
theorem dX7_fewestGoings_4 : decode cX7_fewestGoings 4 = .ok (.arraylength, 1) := by decide +kernel
theorem dX7_fewestGoings_5 : decode cX7_fewestGoings 5 = .ok (.ldc 101, 2) := by decide +kernel
theorem dX7_fewestGoings_7 : decode cX7_fewestGoings 7 = .ok (.if_icmp .ge 11, 3) := by decide +kernel
theorem dX7_fewestGoings_10 : decode cX7_fewestGoings 10 = .ok (.aload_n 0, 1) := by decide +kernel
theorem dX7_fewestGoings_11 : decode cX7_fewestGoings 11 = .ok (.ldc 101, 2) := by decide +kernel
theorem dX7_fewestGoings_13 : decode cX7_fewestGoings 13 = .ok (.newarray .byte, 2) := by decide +kernel
theorem dX7_fewestGoings_15 : decode cX7_fewestGoings 15 = .ok (.putfield 24, 3) := by decide +kernel
theorem dX7_fewestGoings_18 : decode cX7_fewestGoings 18 = .ok (.aload_n 0, 1) := by decide +kernel
theorem dX7_fewestGoings_19 : decode cX7_fewestGoings 19 = .ok (.iload_n 1, 1) := by decide +kernel
theorem dX7_fewestGoings_20 : decode cX7_fewestGoings 20 = .ok (.invokevirtual 102, 3) := by decide +kernel
theorem dX7_fewestGoings_23 : decode cX7_fewestGoings 23 = .ok (.iconst 0, 1) := by decide +kernel
theorem dX7_fewestGoings_24 : decode cX7_fewestGoings 24 = .ok (.istore_n 2, 1) := by decide +kernel
theorem dX7_fewestGoings_25 : decode cX7_fewestGoings 25 = .ok (.iload_n 2, 1) := by decide +kernel
theorem dX7_fewestGoings_26 : decode cX7_fewestGoings 26 = .ok (.aload_n 0, 1) := by decide +kernel
theorem dX7_fewestGoings_27 : decode cX7_fewestGoings 27 = .ok (.getfield 47, 3) := by decide +kernel
theorem dX7_fewestGoings_30 : decode cX7_fewestGoings 30 = .ok (.getfield 105, 3) := by decide +kernel
theorem dX7_fewestGoings_33 : decode cX7_fewestGoings 33 = .ok (.if_icmp .ge 63, 3) := by decide +kernel
theorem dX7_fewestGoings_36 : decode cX7_fewestGoings 36 = .ok (.iconst 0, 1) := by decide +kernel
theorem dX7_fewestGoings_37 : decode cX7_fewestGoings 37 = .ok (.istore_n 3, 1) := by decide +kernel
theorem dX7_fewestGoings_38 : decode cX7_fewestGoings 38 = .ok (.iload_n 3, 1) := by decide +kernel
theorem dX7_fewestGoings_39 : decode cX7_fewestGoings 39 = .ok (.aload_n 0, 1) := by decide +kernel
theorem dX7_fewestGoings_40 : decode cX7_fewestGoings 40 = .ok (.getfield 32, 3) := by decide +kernel
theorem dX7_fewestGoings_43 : decode cX7_fewestGoings 43 = .ok (.if_icmp .ge 47, 3) := by decide +kernel
theorem dX7_fewestGoings_46 : decode cX7_fewestGoings 46 = .ok (.aload_n 0, 1) := by decide +kernel
theorem dX7_fewestGoings_47 : decode cX7_fewestGoings 47 = .ok (.getfield 24, 3) := by decide +kernel
theorem dX7_fewestGoings_50 : decode cX7_fewestGoings 50 = .ok (.aload_n 0, 1) := by decide +kernel
theorem dX7_fewestGoings_51 : decode cX7_fewestGoings 51 = .ok (.getfield 47, 3) := by decide +kernel
theorem dX7_fewestGoings_54 : decode cX7_fewestGoings 54 = .ok (.getfield 108, 3) := by decide +kernel
theorem dX7_fewestGoings_57 : decode cX7_fewestGoings 57 = .ok (.iload_n 2, 1) := by decide +kernel
theorem dX7_fewestGoings_58 : decode cX7_fewestGoings 58 = .ok (.aload_n 0, 1) := by decide +kernel
theorem dX7_fewestGoings_59 : decode cX7_fewestGoings 59 = .ok (.getfield 18, 3) := by decide +kernel
theorem dX7_fewestGoings_62 : decode cX7_fewestGoings 62 = .ok (.iload_n 3, 1) := by decide +kernel
theorem dX7_fewestGoings_63 : decode cX7_fewestGoings 63 = .ok (.iaload, 1) := by decide +kernel
theorem dX7_fewestGoings_64 : decode cX7_fewestGoings 64 = .ok (.invokestatic 111, 3) := by decide +kernel
theorem dX7_fewestGoings_67 : decode cX7_fewestGoings 67 = .ok (.aload_n 0, 1) := by decide +kernel
theorem dX7_fewestGoings_68 : decode cX7_fewestGoings 68 = .ok (.getfield 18, 3) := by decide +kernel
theorem dX7_fewestGoings_71 : decode cX7_fewestGoings 71 = .ok (.iload_n 3, 1) := by decide +kernel
theorem dX7_fewestGoings_72 : decode cX7_fewestGoings 72 = .ok (.iaload, 1) := by decide +kernel
theorem dX7_fewestGoings_73 : decode cX7_fewestGoings 73 = .ok (.ifCond .ne 7, 3) := by decide +kernel
theorem dX7_fewestGoings_76 : decode cX7_fewestGoings 76 = .ok (.iconst 0, 1) := by decide +kernel
theorem dX7_fewestGoings_77 : decode cX7_fewestGoings 77 = .ok (.goto 5, 3) := by decide +kernel
theorem dX7_fewestGoings_80 : decode cX7_fewestGoings 80 = .ok (.bipush 99, 2) := by decide +kernel
theorem dX7_fewestGoings_82 : decode cX7_fewestGoings 82 = .ok (.i2b, 1) := by decide +kernel
theorem dX7_fewestGoings_83 : decode cX7_fewestGoings 83 = .ok (.bastore, 1) := by decide +kernel
theorem dX7_fewestGoings_84 : decode cX7_fewestGoings 84 = .ok (.iinc 3 1, 3) := by decide +kernel
theorem dX7_fewestGoings_87 : decode cX7_fewestGoings 87 = .ok (.goto (-49), 3) := by decide +kernel
theorem dX7_fewestGoings_90 : decode cX7_fewestGoings 90 = .ok (.iinc 2 1, 3) := by decide +kernel
theorem dX7_fewestGoings_93 : decode cX7_fewestGoings 93 = .ok (.goto (-68), 3) := by decide +kernel
theorem dX7_fewestGoings_96 : decode cX7_fewestGoings 96 = .ok (.aload_n 0, 1) := by decide +kernel
theorem dX7_fewestGoings_97 : decode cX7_fewestGoings 97 = .ok (.getfield 47, 3) := by decide +kernel
theorem dX7_fewestGoings_100 : decode cX7_fewestGoings 100 = .ok (.getfield 108, 3) := by decide +kernel
theorem dX7_fewestGoings_103 : decode cX7_fewestGoings 103 = .ok (.iconst 1, 1) := by decide +kernel
theorem dX7_fewestGoings_104 : decode cX7_fewestGoings 104 = .ok (.isub, 1) := by decide +kernel
theorem dX7_fewestGoings_105 : decode cX7_fewestGoings 105 = .ok (.istore_n 2, 1) := by decide +kernel
theorem dX7_fewestGoings_106 : decode cX7_fewestGoings 106 = .ok (.iload_n 2, 1) := by decide +kernel
theorem dX7_fewestGoings_107 : decode cX7_fewestGoings 107 = .ok (.aload_n 0, 1) := by decide +kernel
theorem dX7_fewestGoings_108 : decode cX7_fewestGoings 108 = .ok (.getfield 38, 3) := by decide +kernel
theorem dX7_fewestGoings_111 : decode cX7_fewestGoings 111 = .ok (.if_icmp .lt 34, 3) := by decide +kernel
theorem dX7_fewestGoings_114 : decode cX7_fewestGoings 114 = .ok (.iconst 0, 1) := by decide +kernel
theorem dX7_fewestGoings_115 : decode cX7_fewestGoings 115 = .ok (.istore_n 3, 1) := by decide +kernel
theorem dX7_fewestGoings_116 : decode cX7_fewestGoings 116 = .ok (.iload_n 3, 1) := by decide +kernel
theorem dX7_fewestGoings_117 : decode cX7_fewestGoings 117 = .ok (.aload_n 0, 1) := by decide +kernel
theorem dX7_fewestGoings_118 : decode cX7_fewestGoings 118 = .ok (.getfield 47, 3) := by decide +kernel
theorem dX7_fewestGoings_121 : decode cX7_fewestGoings 121 = .ok (.getfield 105, 3) := by decide +kernel
theorem dX7_fewestGoings_124 : decode cX7_fewestGoings 124 = .ok (.if_icmp .ge 15, 3) := by decide +kernel
theorem dX7_fewestGoings_127 : decode cX7_fewestGoings 127 = .ok (.aload_n 0, 1) := by decide +kernel
theorem dX7_fewestGoings_128 : decode cX7_fewestGoings 128 = .ok (.iload_n 2, 1) := by decide +kernel
theorem dX7_fewestGoings_129 : decode cX7_fewestGoings 129 = .ok (.iload_n 3, 1) := by decide +kernel
theorem dX7_fewestGoings_130 : decode cX7_fewestGoings 130 = .ok (.invokevirtual 115, 3) := by decide +kernel
theorem dX7_fewestGoings_133 : decode cX7_fewestGoings 133 = .ok (.iinc 3 1, 3) := by decide +kernel
theorem dX7_fewestGoings_136 : decode cX7_fewestGoings 136 = .ok (.goto (-20), 3) := by decide +kernel
theorem dX7_fewestGoings_139 : decode cX7_fewestGoings 139 = .ok (.iinc 2 (-1), 3) := by decide +kernel
theorem dX7_fewestGoings_142 : decode cX7_fewestGoings 142 = .ok (.goto (-36), 3) := by decide +kernel
theorem dX7_fewestGoings_145 : decode cX7_fewestGoings 145 = .ok (.aload_n 0, 1) := by decide +kernel
theorem dX7_fewestGoings_146 : decode cX7_fewestGoings 146 = .ok (.getfield 24, 3) := by decide +kernel
theorem dX7_fewestGoings_149 : decode cX7_fewestGoings 149 = .ok (.aload_n 0, 1) := by decide +kernel
theorem dX7_fewestGoings_150 : decode cX7_fewestGoings 150 = .ok (.getfield 38, 3) := by decide +kernel
theorem dX7_fewestGoings_153 : decode cX7_fewestGoings 153 = .ok (.aload_n 0, 1) := by decide +kernel
theorem dX7_fewestGoings_154 : decode cX7_fewestGoings 154 = .ok (.getfield 51, 3) := by decide +kernel
theorem dX7_fewestGoings_157 : decode cX7_fewestGoings 157 = .ok (.getfield 79, 3) := by decide +kernel
theorem dX7_fewestGoings_160 : decode cX7_fewestGoings 160 = .ok (.iconst 3, 1) := by decide +kernel
theorem dX7_fewestGoings_161 : decode cX7_fewestGoings 161 = .ok (.aload_n 0, 1) := by decide +kernel
theorem dX7_fewestGoings_162 : decode cX7_fewestGoings 162 = .ok (.getfield 35, 3) := by decide +kernel
theorem dX7_fewestGoings_165 : decode cX7_fewestGoings 165 = .ok (.iadd, 1) := by decide +kernel
theorem dX7_fewestGoings_166 : decode cX7_fewestGoings 166 = .ok (.iaload, 1) := by decide +kernel
theorem dX7_fewestGoings_167 : decode cX7_fewestGoings 167 = .ok (.aload_n 0, 1) := by decide +kernel
theorem dX7_fewestGoings_168 : decode cX7_fewestGoings 168 = .ok (.getfield 18, 3) := by decide +kernel
theorem dX7_fewestGoings_171 : decode cX7_fewestGoings 171 = .ok (.aload_n 0, 1) := by decide +kernel
theorem dX7_fewestGoings_172 : decode cX7_fewestGoings 172 = .ok (.getfield 32, 3) := by decide +kernel
theorem dX7_fewestGoings_175 : decode cX7_fewestGoings 175 = .ok (.iconst 1, 1) := by decide +kernel
theorem dX7_fewestGoings_176 : decode cX7_fewestGoings 176 = .ok (.isub, 1) := by decide +kernel
theorem dX7_fewestGoings_177 : decode cX7_fewestGoings 177 = .ok (.iaload, 1) := by decide +kernel
theorem dX7_fewestGoings_178 : decode cX7_fewestGoings 178 = .ok (.invokestatic 111, 3) := by decide +kernel
theorem dX7_fewestGoings_181 : decode cX7_fewestGoings 181 = .ok (.baload, 1) := by decide +kernel
theorem dX7_fewestGoings_182 : decode cX7_fewestGoings 182 = .ok (.istore_n 2, 1) := by decide +kernel
theorem dX7_fewestGoings_183 : decode cX7_fewestGoings 183 = .ok (.iload_n 2, 1) := by decide +kernel
theorem dX7_fewestGoings_184 : decode cX7_fewestGoings 184 = .ok (.bipush 99, 2) := by decide +kernel
theorem dX7_fewestGoings_186 : decode cX7_fewestGoings 186 = .ok (.if_icmp .ge 7, 3) := by decide +kernel
theorem dX7_fewestGoings_189 : decode cX7_fewestGoings 189 = .ok (.iload_n 2, 1) := by decide +kernel
theorem dX7_fewestGoings_190 : decode cX7_fewestGoings 190 = .ok (.goto 4, 3) := by decide +kernel
theorem dX7_fewestGoings_193 : decode cX7_fewestGoings 193 = .ok (.iconst (-1), 1) := by decide +kernel
theorem dX7_fewestGoings_194 : decode cX7_fewestGoings 194 = .ok (.ireturn, 1) := by decide +kernel
theorem dX7_gatherStates_0 : decode cX7_gatherStates 0 = .ok (.iconst 0, 1) := by decide +kernel
theorem dX7_gatherStates_1 : decode cX7_gatherStates 1 = .ok (.istore_n 2, 1) := by decide +kernel
theorem dX7_gatherStates_2 : decode cX7_gatherStates 2 = .ok (.iconst 0, 1) := by decide +kernel
theorem dX7_gatherStates_3 : decode cX7_gatherStates 3 = .ok (.istore_n 3, 1) := by decide +kernel
theorem dX7_gatherStates_4 : decode cX7_gatherStates 4 = .ok (.iload_n 3, 1) := by decide +kernel
theorem dX7_gatherStates_5 : decode cX7_gatherStates 5 = .ok (.aload_n 0, 1) := by decide +kernel
theorem dX7_gatherStates_6 : decode cX7_gatherStates 6 = .ok (.getfield 28, 3) := by decide +kernel
theorem dX7_gatherStates_9 : decode cX7_gatherStates 9 = .ok (.if_icmp .ge 35, 3) := by decide +kernel
theorem dX7_gatherStates_12 : decode cX7_gatherStates 12 = .ok (.iload_n 2, 1) := by decide +kernel
theorem dX7_gatherStates_13 : decode cX7_gatherStates 13 = .ok (.iload_n 1, 1) := by decide +kernel
theorem dX7_gatherStates_14 : decode cX7_gatherStates 14 = .ok (.iload_n 3, 1) := by decide +kernel
theorem dX7_gatherStates_15 : decode cX7_gatherStates 15 = .ok (.ishr, 1) := by decide +kernel
theorem dX7_gatherStates_16 : decode cX7_gatherStates 16 = .ok (.iconst 1, 1) := by decide +kernel
theorem dX7_gatherStates_17 : decode cX7_gatherStates 17 = .ok (.iand, 1) := by decide +kernel
theorem dX7_gatherStates_18 : decode cX7_gatherStates 18 = .ok (.iconst 1, 1) := by decide +kernel
theorem dX7_gatherStates_19 : decode cX7_gatherStates 19 = .ok (.if_icmp .ne 16, 3) := by decide +kernel
theorem dX7_gatherStates_22 : decode cX7_gatherStates 22 = .ok (.aload_n 0, 1) := by decide +kernel
theorem dX7_gatherStates_23 : decode cX7_gatherStates 23 = .ok (.getfield 15, 3) := by decide +kernel
theorem dX7_gatherStates_26 : decode cX7_gatherStates 26 = .ok (.iload_n 3, 1) := by decide +kernel
theorem dX7_gatherStates_27 : decode cX7_gatherStates 27 = .ok (.iaload, 1) := by decide +kernel
theorem dX7_gatherStates_28 : decode cX7_gatherStates 28 = .ok (.iconst 2, 1) := by decide +kernel
theorem dX7_gatherStates_29 : decode cX7_gatherStates 29 = .ok (.iload_n 3, 1) := by decide +kernel
theorem dX7_gatherStates_30 : decode cX7_gatherStates 30 = .ok (.imul, 1) := by decide +kernel
theorem dX7_gatherStates_31 : decode cX7_gatherStates 31 = .ok (.ishl, 1) := by decide +kernel
theorem dX7_gatherStates_32 : decode cX7_gatherStates 32 = .ok (.goto 4, 3) := by decide +kernel
theorem dX7_gatherStates_35 : decode cX7_gatherStates 35 = .ok (.iconst 0, 1) := by decide +kernel
theorem dX7_gatherStates_36 : decode cX7_gatherStates 36 = .ok (.ior, 1) := by decide +kernel
theorem dX7_gatherStates_37 : decode cX7_gatherStates 37 = .ok (.istore_n 2, 1) := by decide +kernel
theorem dX7_gatherStates_38 : decode cX7_gatherStates 38 = .ok (.iinc 3 1, 3) := by decide +kernel
theorem dX7_gatherStates_41 : decode cX7_gatherStates 41 = .ok (.goto (-37), 3) := by decide +kernel
theorem dX7_gatherStates_44 : decode cX7_gatherStates 44 = .ok (.aload_n 0, 1) := by decide +kernel
theorem dX7_gatherStates_45 : decode cX7_gatherStates 45 = .ok (.iconst 0, 1) := by decide +kernel
theorem dX7_gatherStates_46 : decode cX7_gatherStates 46 = .ok (.putfield 32, 3) := by decide +kernel
theorem dX7_gatherStates_49 : decode cX7_gatherStates 49 = .ok (.iconst 0, 1) := by decide +kernel
theorem dX7_gatherStates_50 : decode cX7_gatherStates 50 = .ok (.istore_n 3, 1) := by decide +kernel
theorem dX7_gatherStates_51 : decode cX7_gatherStates 51 = .ok (.iload_n 3, 1) := by decide +kernel
theorem dX7_gatherStates_52 : decode cX7_gatherStates 52 = .ok (.iload_n 2, 1) := by decide +kernel
theorem dX7_gatherStates_53 : decode cX7_gatherStates 53 = .ok (.if_icmp .gt 37, 3) := by decide +kernel
theorem dX7_gatherStates_56 : decode cX7_gatherStates 56 = .ok (.iload_n 3, 1) := by decide +kernel
theorem dX7_gatherStates_57 : decode cX7_gatherStates 57 = .ok (.iload_n 2, 1) := by decide +kernel
theorem dX7_gatherStates_58 : decode cX7_gatherStates 58 = .ok (.invokestatic 119, 3) := by decide +kernel
theorem dX7_gatherStates_61 : decode cX7_gatherStates 61 = .ok (.ifCond .eq 23, 3) := by decide +kernel
theorem dX7_gatherStates_64 : decode cX7_gatherStates 64 = .ok (.aload_n 0, 1) := by decide +kernel
theorem dX7_gatherStates_65 : decode cX7_gatherStates 65 = .ok (.getfield 18, 3) := by decide +kernel
theorem dX7_gatherStates_68 : decode cX7_gatherStates 68 = .ok (.aload_n 0, 1) := by decide +kernel
theorem dX7_gatherStates_69 : decode cX7_gatherStates 69 = .ok (.getfield 32, 3) := by decide +kernel
theorem dX7_gatherStates_72 : decode cX7_gatherStates 72 = .ok (.iload_n 3, 1) := by decide +kernel
theorem dX7_gatherStates_73 : decode cX7_gatherStates 73 = .ok (.iastore, 1) := by decide +kernel
theorem dX7_gatherStates_74 : decode cX7_gatherStates 74 = .ok (.aload_n 0, 1) := by decide +kernel
theorem dX7_gatherStates_75 : decode cX7_gatherStates 75 = .ok (.dup, 1) := by decide +kernel
theorem dX7_gatherStates_76 : decode cX7_gatherStates 76 = .ok (.getfield 32, 3) := by decide +kernel
theorem dX7_gatherStates_79 : decode cX7_gatherStates 79 = .ok (.iconst 1, 1) := by decide +kernel
theorem dX7_gatherStates_80 : decode cX7_gatherStates 80 = .ok (.iadd, 1) := by decide +kernel
theorem dX7_gatherStates_81 : decode cX7_gatherStates 81 = .ok (.putfield 32, 3) := by decide +kernel
theorem dX7_gatherStates_84 : decode cX7_gatherStates 84 = .ok (.iinc 3 1, 3) := by decide +kernel
theorem dX7_gatherStates_87 : decode cX7_gatherStates 87 = .ok (.goto (-36), 3) := by decide +kernel
theorem dX7_gatherStates_90 : decode cX7_gatherStates 90 = .ok (.return_, 1) := by decide +kernel
theorem dX7_isWithin_0 : decode cX7_isWithin 0 = .ok (.iconst 0, 1) := by decide +kernel
theorem dX7_isWithin_1 : decode cX7_isWithin 1 = .ok (.istore_n 2, 1) := by decide +kernel
theorem dX7_isWithin_2 : decode cX7_isWithin 2 = .ok (.iload_n 2, 1) := by decide +kernel
theorem dX7_isWithin_3 : decode cX7_isWithin 3 = .ok (.bipush 8, 2) := by decide +kernel
theorem dX7_isWithin_5 : decode cX7_isWithin 5 = .ok (.if_icmp .ge 24, 3) := by decide +kernel
theorem dX7_isWithin_8 : decode cX7_isWithin 8 = .ok (.iload_n 0, 1) := by decide +kernel
theorem dX7_isWithin_9 : decode cX7_isWithin 9 = .ok (.iload_n 2, 1) := by decide +kernel
theorem dX7_isWithin_10 : decode cX7_isWithin 10 = .ok (.ishr, 1) := by decide +kernel
theorem dX7_isWithin_11 : decode cX7_isWithin 11 = .ok (.iconst 3, 1) := by decide +kernel
theorem dX7_isWithin_12 : decode cX7_isWithin 12 = .ok (.iand, 1) := by decide +kernel
theorem dX7_isWithin_13 : decode cX7_isWithin 13 = .ok (.iload_n 1, 1) := by decide +kernel
theorem dX7_isWithin_14 : decode cX7_isWithin 14 = .ok (.iload_n 2, 1) := by decide +kernel
theorem dX7_isWithin_15 : decode cX7_isWithin 15 = .ok (.ishr, 1) := by decide +kernel
theorem dX7_isWithin_16 : decode cX7_isWithin 16 = .ok (.iconst 3, 1) := by decide +kernel
