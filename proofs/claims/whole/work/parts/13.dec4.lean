theorem dX7_stand_0 : decode cX7_stand 0 = .ok (.aload_n 0, 1) := by decide +kernel
theorem dX7_stand_1 : decode cX7_stand 1 = .ok (.getfield 147, 3) := by decide +kernel
theorem dX7_stand_4 : decode cX7_stand 4 = .ok (.ifCond .ne 6, 3) := by decide +kernel
theorem dX7_stand_7 : decode cX7_stand 7 = .ok (.ldc 181, 2) := by decide +kernel
theorem dX7_stand_9 : decode cX7_stand 9 = .ok (.ireturn, 1) := by decide +kernel
theorem dX7_stand_10 : decode cX7_stand 10 = .ok (.iload_n 1, 1) := by decide +kernel
theorem dX7_stand_11 : decode cX7_stand 11 = .ok (.tableswitch 79 0 5 #[37, 44, 52, 60, 65, 72], 37) := by decide +kernel
theorem dX7_stand_48 : decode cX7_stand 48 = .ok (.aload_n 0, 1) := by decide +kernel
theorem dX7_stand_49 : decode cX7_stand 49 = .ok (.getfield 19, 3) := by decide +kernel
theorem dX7_stand_52 : decode cX7_stand 52 = .ok (.iconst 5, 1) := by decide +kernel
theorem dX7_stand_53 : decode cX7_stand 53 = .ok (.iaload, 1) := by decide +kernel
theorem dX7_stand_54 : decode cX7_stand 54 = .ok (.ireturn, 1) := by decide +kernel
theorem dX7_stand_55 : decode cX7_stand 55 = .ok (.aload_n 0, 1) := by decide +kernel
theorem dX7_stand_56 : decode cX7_stand 56 = .ok (.getfield 19, 3) := by decide +kernel
theorem dX7_stand_59 : decode cX7_stand 59 = .ok (.bipush 6, 2) := by decide +kernel
theorem dX7_stand_61 : decode cX7_stand 61 = .ok (.iaload, 1) := by decide +kernel
theorem dX7_stand_62 : decode cX7_stand 62 = .ok (.ireturn, 1) := by decide +kernel
theorem dX7_stand_63 : decode cX7_stand 63 = .ok (.aload_n 0, 1) := by decide +kernel
theorem dX7_stand_64 : decode cX7_stand 64 = .ok (.getfield 19, 3) := by decide +kernel
theorem dX7_stand_67 : decode cX7_stand 67 = .ok (.bipush 7, 2) := by decide +kernel
theorem dX7_stand_69 : decode cX7_stand 69 = .ok (.iaload, 1) := by decide +kernel
theorem dX7_stand_70 : decode cX7_stand 70 = .ok (.ireturn, 1) := by decide +kernel
theorem dX7_stand_71 : decode cX7_stand 71 = .ok (.aload_n 0, 1) := by decide +kernel
theorem dX7_stand_72 : decode cX7_stand 72 = .ok (.invokevirtual 190, 3) := by decide +kernel
theorem dX7_stand_75 : decode cX7_stand 75 = .ok (.ireturn, 1) := by decide +kernel
theorem dX7_stand_76 : decode cX7_stand 76 = .ok (.aload_n 0, 1) := by decide +kernel
theorem dX7_stand_77 : decode cX7_stand 77 = .ok (.getfield 19, 3) := by decide +kernel
theorem dX7_stand_80 : decode cX7_stand 80 = .ok (.iconst 2, 1) := by decide +kernel
theorem dX7_stand_81 : decode cX7_stand 81 = .ok (.iaload, 1) := by decide +kernel
theorem dX7_stand_82 : decode cX7_stand 82 = .ok (.ireturn, 1) := by decide +kernel
theorem dX7_stand_83 : decode cX7_stand 83 = .ok (.aload_n 0, 1) := by decide +kernel
theorem dX7_stand_84 : decode cX7_stand 84 = .ok (.getfield 19, 3) := by decide +kernel
theorem dX7_stand_87 : decode cX7_stand 87 = .ok (.iconst 3, 1) := by decide +kernel
theorem dX7_stand_88 : decode cX7_stand 88 = .ok (.iaload, 1) := by decide +kernel
theorem dX7_stand_89 : decode cX7_stand 89 = .ok (.ireturn, 1) := by decide +kernel
theorem dX7_stand_90 : decode cX7_stand 90 = .ok (.ldc 73, 2) := by decide +kernel
theorem dX7_stand_92 : decode cX7_stand 92 = .ok (.ireturn, 1) := by decide +kernel
theorem dX7_putAside_0 : decode cX7_putAside 0 = .ok (.iconst 0, 1) := by decide +kernel
theorem dX7_putAside_1 : decode cX7_putAside 1 = .ok (.istore_n 1, 1) := by decide +kernel
theorem dX7_putAside_2 : decode cX7_putAside 2 = .ok (.iload_n 1, 1) := by decide +kernel
theorem dX7_putAside_3 : decode cX7_putAside 3 = .ok (.bipush 41, 2) := by decide +kernel
theorem dX7_putAside_5 : decode cX7_putAside 5 = .ok (.if_icmp .ge 21, 3) := by decide +kernel
theorem dX7_putAside_8 : decode cX7_putAside 8 = .ok (.aload_n 0, 1) := by decide +kernel
theorem dX7_putAside_9 : decode cX7_putAside 9 = .ok (.getfield 37, 3) := by decide +kernel
theorem dX7_putAside_12 : decode cX7_putAside 12 = .ok (.iload_n 1, 1) := by decide +kernel
theorem dX7_putAside_13 : decode cX7_putAside 13 = .ok (.aload_n 0, 1) := by decide +kernel
theorem dX7_putAside_14 : decode cX7_putAside 14 = .ok (.getfield 19, 3) := by decide +kernel
theorem dX7_putAside_17 : decode cX7_putAside 17 = .ok (.iload_n 1, 1) := by decide +kernel
theorem dX7_putAside_18 : decode cX7_putAside 18 = .ok (.iaload, 1) := by decide +kernel
theorem dX7_putAside_19 : decode cX7_putAside 19 = .ok (.iastore, 1) := by decide +kernel
theorem dX7_putAside_20 : decode cX7_putAside 20 = .ok (.iinc 1 1, 3) := by decide +kernel
theorem dX7_putAside_23 : decode cX7_putAside 23 = .ok (.goto (-21), 3) := by decide +kernel
theorem dX7_putAside_26 : decode cX7_putAside 26 = .ok (.return_, 1) := by decide +kernel
theorem dX7_takeBack_0 : decode cX7_takeBack 0 = .ok (.iconst 0, 1) := by decide +kernel
theorem dX7_takeBack_1 : decode cX7_takeBack 1 = .ok (.istore_n 1, 1) := by decide +kernel
theorem dX7_takeBack_2 : decode cX7_takeBack 2 = .ok (.iload_n 1, 1) := by decide +kernel
theorem dX7_takeBack_3 : decode cX7_takeBack 3 = .ok (.bipush 41, 2) := by decide +kernel
theorem dX7_takeBack_5 : decode cX7_takeBack 5 = .ok (.if_icmp .ge 21, 3) := by decide +kernel
theorem dX7_takeBack_8 : decode cX7_takeBack 8 = .ok (.aload_n 0, 1) := by decide +kernel
theorem dX7_takeBack_9 : decode cX7_takeBack 9 = .ok (.getfield 19, 3) := by decide +kernel
theorem dX7_takeBack_12 : decode cX7_takeBack 12 = .ok (.iload_n 1, 1) := by decide +kernel
theorem dX7_takeBack_13 : decode cX7_takeBack 13 = .ok (.aload_n 0, 1) := by decide +kernel
theorem dX7_takeBack_14 : decode cX7_takeBack 14 = .ok (.getfield 37, 3) := by decide +kernel
theorem dX7_takeBack_17 : decode cX7_takeBack 17 = .ok (.iload_n 1, 1) := by decide +kernel
theorem dX7_takeBack_18 : decode cX7_takeBack 18 = .ok (.iaload, 1) := by decide +kernel
theorem dX7_takeBack_19 : decode cX7_takeBack 19 = .ok (.iastore, 1) := by decide +kernel
theorem dX7_takeBack_20 : decode cX7_takeBack 20 = .ok (.iinc 1 1, 3) := by decide +kernel
theorem dX7_takeBack_23 : decode cX7_takeBack 23 = .ok (.goto (-21), 3) := by decide +kernel
theorem dX7_takeBack_26 : decode cX7_takeBack 26 = .ok (.return_, 1) := by decide +kernel
theorem dX7_goOn_0 : decode cX7_goOn 0 = .ok (.iconst 0, 1) := by decide +kernel
theorem dX7_goOn_1 : decode cX7_goOn 1 = .ok (.istore_n 2, 1) := by decide +kernel
theorem dX7_goOn_2 : decode cX7_goOn 2 = .ok (.iload_n 2, 1) := by decide +kernel
theorem dX7_goOn_3 : decode cX7_goOn 3 = .ok (.iload_n 1, 1) := by decide +kernel
theorem dX7_goOn_4 : decode cX7_goOn 4 = .ok (.if_icmp .ge 13, 3) := by decide +kernel
theorem dX7_goOn_7 : decode cX7_goOn 7 = .ok (.aload_n 0, 1) := by decide +kernel
theorem dX7_goOn_8 : decode cX7_goOn 8 = .ok (.invokevirtual 187, 3) := by decide +kernel
theorem dX7_goOn_11 : decode cX7_goOn 11 = .ok (.iinc 2 1, 3) := by decide +kernel
theorem dX7_goOn_14 : decode cX7_goOn 14 = .ok (.goto (-12), 3) := by decide +kernel
theorem dX7_goOn_17 : decode cX7_goOn 17 = .ok (.return_, 1) := by decide +kernel
theorem dX7_isWhat_0 : decode cX7_isWhat 0 = .ok (.iload_n 0, 1) := by decide +kernel
theorem dX7_isWhat_1 : decode cX7_isWhat 1 = .ok (.i2l, 1) := by decide +kernel
theorem dX7_isWhat_2 : decode cX7_isWhat 2 = .ok (.lconst 0, 1) := by decide +kernel
theorem dX7_isWhat_3 : decode cX7_isWhat 3 = .ok (.lconst 1, 1) := by decide +kernel
theorem dX7_isWhat_4 : decode cX7_isWhat 4 = .ok (.invokestatic 63, 3) := by decide +kernel
theorem dX7_isWhat_7 : decode cX7_isWhat 7 = .ok (.ireturn, 1) := by decide +kernel
theorem dX7_pagesBehind_0 : decode cX7_pagesBehind 0 = .ok (.aload_n 0, 1) := by decide +kernel
theorem dX7_pagesBehind_1 : decode cX7_pagesBehind 1 = .ok (.iload_n 2, 1) := by decide +kernel
theorem dX7_pagesBehind_2 : decode cX7_pagesBehind 2 = .ok (.invokevirtual 208, 3) := by decide +kernel
theorem dX7_pagesBehind_5 : decode cX7_pagesBehind 5 = .ok (.aload_n 0, 1) := by decide +kernel
theorem dX7_pagesBehind_6 : decode cX7_pagesBehind 6 = .ok (.getfield 19, 3) := by decide +kernel
theorem dX7_pagesBehind_9 : decode cX7_pagesBehind 9 = .ok (.bipush 8, 2) := by decide +kernel
theorem dX7_pagesBehind_11 : decode cX7_pagesBehind 11 = .ok (.iload_n 1, 1) := by decide +kernel
theorem dX7_pagesBehind_12 : decode cX7_pagesBehind 12 = .ok (.iadd, 1) := by decide +kernel
theorem dX7_pagesBehind_13 : decode cX7_pagesBehind 13 = .ok (.iaload, 1) := by decide +kernel
theorem dX7_pagesBehind_14 : decode cX7_pagesBehind 14 = .ok (.istore_n 3, 1) := by decide +kernel
theorem dX7_pagesBehind_15 : decode cX7_pagesBehind 15 = .ok (.aload_n 0, 1) := by decide +kernel
theorem dX7_pagesBehind_16 : decode cX7_pagesBehind 16 = .ok (.invokevirtual 211, 3) := by decide +kernel
theorem dX7_pagesBehind_19 : decode cX7_pagesBehind 19 = .ok (.iload_n 3, 1) := by decide +kernel
theorem dX7_pagesBehind_20 : decode cX7_pagesBehind 20 = .ok (.ireturn, 1) := by decide +kernel
theorem dX7_ahead_0 : decode cX7_ahead 0 = .ok (.aload_n 0, 1) := by decide +kernel
theorem dX7_ahead_1 : decode cX7_ahead 1 = .ok (.iload_n 1, 1) := by decide +kernel
theorem dX7_ahead_2 : decode cX7_ahead 2 = .ok (.invokevirtual 194, 3) := by decide +kernel
theorem dX7_ahead_5 : decode cX7_ahead 5 = .ok (.ifCond .eq 22, 3) := by decide +kernel
theorem dX7_ahead_8 : decode cX7_ahead 8 = .ok (.iload_n 2, 1) := by decide +kernel
theorem dX7_ahead_9 : decode cX7_ahead 9 = .ok (.i2l, 1) := by decide +kernel
theorem dX7_ahead_10 : decode cX7_ahead 10 = .ok (.lconst 0, 1) := by decide +kernel
theorem dX7_ahead_11 : decode cX7_ahead 11 = .ok (.ldc2_w 214, 3) := by decide +kernel
theorem dX7_ahead_14 : decode cX7_ahead 14 = .ok (.invokestatic 63, 3) := by decide +kernel
theorem dX7_ahead_17 : decode cX7_ahead 17 = .ok (.ifCond .eq 10, 3) := by decide +kernel
theorem dX7_ahead_20 : decode cX7_ahead 20 = .ok (.iload_n 3, 1) := by decide +kernel
theorem dX7_ahead_21 : decode cX7_ahead 21 = .ok (.invokestatic 216, 3) := by decide +kernel
theorem dX7_ahead_24 : decode cX7_ahead 24 = .ok (.ifCond .ne 6, 3) := by decide +kernel
theorem dX7_ahead_27 : decode cX7_ahead 27 = .ok (.ldc 73, 2) := by decide +kernel
theorem dX7_ahead_29 : decode cX7_ahead 29 = .ok (.ireturn, 1) := by decide +kernel
theorem dX7_ahead_30 : decode cX7_ahead 30 = .ok (.aload_n 0, 1) := by decide +kernel
theorem dX7_ahead_31 : decode cX7_ahead 31 = .ok (.invokevirtual 219, 3) := by decide +kernel
theorem dX7_ahead_34 : decode cX7_ahead 34 = .ok (.aload_n 0, 1) := by decide +kernel
theorem dX7_ahead_35 : decode cX7_ahead 35 = .ok (.iload_n 2, 1) := by decide +kernel
theorem dX7_ahead_36 : decode cX7_ahead 36 = .ok (.invokevirtual 208, 3) := by decide +kernel
theorem dX7_ahead_39 : decode cX7_ahead 39 = .ok (.iload_n 3, 1) := by decide +kernel
theorem dX7_ahead_40 : decode cX7_ahead 40 = .ok (.ifCond .ne 15, 3) := by decide +kernel
theorem dX7_ahead_43 : decode cX7_ahead 43 = .ok (.aload_n 0, 1) := by decide +kernel
theorem dX7_ahead_44 : decode cX7_ahead 44 = .ok (.getfield 19, 3) := by decide +kernel
theorem dX7_ahead_47 : decode cX7_ahead 47 = .ok (.bipush 8, 2) := by decide +kernel
theorem dX7_ahead_49 : decode cX7_ahead 49 = .ok (.iload_n 1, 1) := by decide +kernel
theorem dX7_ahead_50 : decode cX7_ahead 50 = .ok (.iadd, 1) := by decide +kernel
theorem dX7_ahead_51 : decode cX7_ahead 51 = .ok (.iaload, 1) := by decide +kernel
theorem dX7_ahead_52 : decode cX7_ahead 52 = .ok (.goto 12, 3) := by decide +kernel
theorem dX7_ahead_55 : decode cX7_ahead 55 = .ok (.aload_n 0, 1) := by decide +kernel
theorem dX7_ahead_56 : decode cX7_ahead 56 = .ok (.getfield 19, 3) := by decide +kernel
theorem dX7_ahead_59 : decode cX7_ahead 59 = .ok (.bipush 14, 2) := by decide +kernel
theorem dX7_ahead_61 : decode cX7_ahead 61 = .ok (.iload_n 1, 1) := by decide +kernel
theorem dX7_ahead_62 : decode cX7_ahead 62 = .ok (.iadd, 1) := by decide +kernel
theorem dX7_ahead_63 : decode cX7_ahead 63 = .ok (.iaload, 1) := by decide +kernel
theorem dX7_ahead_64 : decode cX7_ahead 64 = .ok (.istore 4, 2) := by decide +kernel
theorem dX7_ahead_66 : decode cX7_ahead 66 = .ok (.aload_n 0, 1) := by decide +kernel
theorem dX7_ahead_67 : decode cX7_ahead 67 = .ok (.invokevirtual 211, 3) := by decide +kernel
theorem dX7_ahead_70 : decode cX7_ahead 70 = .ok (.iload 4, 2) := by decide +kernel
theorem dX7_ahead_72 : decode cX7_ahead 72 = .ok (.ireturn, 1) := by decide +kernel
theorem dX7_later_0 : decode cX7_later 0 = .ok (.aload_n 0, 1) := by decide +kernel
theorem dX7_later_1 : decode cX7_later 1 = .ok (.iload_n 1, 1) := by decide +kernel
theorem dX7_later_2 : decode cX7_later 2 = .ok (.invokevirtual 200, 3) := by decide +kernel
theorem dX7_later_5 : decode cX7_later 5 = .ok (.ifCond .eq 22, 3) := by decide +kernel
theorem dX7_later_8 : decode cX7_later 8 = .ok (.iload_n 2, 1) := by decide +kernel
theorem dX7_later_9 : decode cX7_later 9 = .ok (.i2l, 1) := by decide +kernel
theorem dX7_later_10 : decode cX7_later 10 = .ok (.lconst 0, 1) := by decide +kernel
theorem dX7_later_11 : decode cX7_later 11 = .ok (.ldc2_w 214, 3) := by decide +kernel
theorem dX7_later_14 : decode cX7_later 14 = .ok (.invokestatic 63, 3) := by decide +kernel
theorem dX7_later_17 : decode cX7_later 17 = .ok (.ifCond .eq 10, 3) := by decide +kernel
theorem dX7_later_20 : decode cX7_later 20 = .ok (.iload_n 3, 1) := by decide +kernel
theorem dX7_later_21 : decode cX7_later 21 = .ok (.invokestatic 216, 3) := by decide +kernel
theorem dX7_later_24 : decode cX7_later 24 = .ok (.ifCond .ne 6, 3) := by decide +kernel
theorem dX7_later_27 : decode cX7_later 27 = .ok (.ldc 73, 2) := by decide +kernel
theorem dX7_later_29 : decode cX7_later 29 = .ok (.ireturn, 1) := by decide +kernel
theorem dX7_later_30 : decode cX7_later 30 = .ok (.aload_n 0, 1) := by decide +kernel
theorem dX7_later_31 : decode cX7_later 31 = .ok (.invokevirtual 219, 3) := by decide +kernel
theorem dX7_later_34 : decode cX7_later 34 = .ok (.aload_n 0, 1) := by decide +kernel
theorem dX7_later_35 : decode cX7_later 35 = .ok (.iload_n 2, 1) := by decide +kernel
theorem dX7_later_36 : decode cX7_later 36 = .ok (.invokevirtual 208, 3) := by decide +kernel
theorem dX7_later_39 : decode cX7_later 39 = .ok (.iload_n 3, 1) := by decide +kernel
theorem dX7_later_40 : decode cX7_later 40 = .ok (.iconst 1, 1) := by decide +kernel
theorem dX7_later_41 : decode cX7_later 41 = .ok (.if_icmp .ne 15, 3) := by decide +kernel
theorem dX7_later_44 : decode cX7_later 44 = .ok (.aload_n 0, 1) := by decide +kernel
theorem dX7_later_45 : decode cX7_later 45 = .ok (.getfield 19, 3) := by decide +kernel
theorem dX7_later_48 : decode cX7_later 48 = .ok (.bipush 36, 2) := by decide +kernel
theorem dX7_later_50 : decode cX7_later 50 = .ok (.iload_n 1, 1) := by decide +kernel
theorem dX7_later_51 : decode cX7_later 51 = .ok (.iadd, 1) := by decide +kernel
theorem dX7_later_52 : decode cX7_later 52 = .ok (.iaload, 1) := by decide +kernel
theorem dX7_later_53 : decode cX7_later 53 = .ok (.goto 25, 3) := by decide +kernel
theorem dX7_later_56 : decode cX7_later 56 = .ok (.aload_n 0, 1) := by decide +kernel
theorem dX7_later_57 : decode cX7_later 57 = .ok (.iload_n 1, 1) := by decide +kernel
theorem dX7_later_58 : decode cX7_later 58 = .ok (.invokevirtual 171, 3) := by decide +kernel
theorem dX7_later_61 : decode cX7_later 61 = .ok (.ifCond .eq 8, 3) := by decide +kernel
theorem dX7_later_64 : decode cX7_later 64 = .ok (.ldc 158, 2) := by decide +kernel
theorem dX7_later_66 : decode cX7_later 66 = .ok (.goto 12, 3) := by decide +kernel
theorem dX7_later_69 : decode cX7_later 69 = .ok (.aload_n 0, 1) := by decide +kernel
theorem dX7_later_70 : decode cX7_later 70 = .ok (.getfield 19, 3) := by decide +kernel
theorem dX7_later_73 : decode cX7_later 73 = .ok (.bipush 31, 2) := by decide +kernel
theorem dX7_later_75 : decode cX7_later 75 = .ok (.iload_n 1, 1) := by decide +kernel
theorem dX7_later_76 : decode cX7_later 76 = .ok (.iadd, 1) := by decide +kernel
theorem dX7_later_77 : decode cX7_later 77 = .ok (.iaload, 1) := by decide +kernel
theorem dX7_later_78 : decode cX7_later 78 = .ok (.istore 4, 2) := by decide +kernel
theorem dX7_later_80 : decode cX7_later 80 = .ok (.aload_n 0, 1) := by decide +kernel
theorem dX7_later_81 : decode cX7_later 81 = .ok (.invokevirtual 211, 3) := by decide +kernel
theorem dX7_later_84 : decode cX7_later 84 = .ok (.iload 4, 2) := by decide +kernel
theorem dX7_later_86 : decode cX7_later 86 = .ok (.ireturn, 1) := by decide +kernel
theorem dX7_when_0 : decode cX7_when 0 = .ok (.aload_n 0, 1) := by decide +kernel
theorem dX7_when_1 : decode cX7_when 1 = .ok (.iload_n 1, 1) := by decide +kernel
theorem dX7_when_2 : decode cX7_when 2 = .ok (.invokevirtual 194, 3) := by decide +kernel
theorem dX7_when_5 : decode cX7_when 5 = .ok (.ifCond .ne 6, 3) := by decide +kernel
theorem dX7_when_8 : decode cX7_when 8 = .ok (.ldc 73, 2) := by decide +kernel
theorem dX7_when_10 : decode cX7_when 10 = .ok (.ireturn, 1) := by decide +kernel
theorem dX7_when_11 : decode cX7_when 11 = .ok (.aload_n 0, 1) := by decide +kernel
theorem dX7_when_12 : decode cX7_when 12 = .ok (.invokevirtual 219, 3) := by decide +kernel
theorem dX7_when_15 : decode cX7_when 15 = .ok (.iconst 0, 1) := by decide +kernel
theorem dX7_when_16 : decode cX7_when 16 = .ok (.istore_n 2, 1) := by decide +kernel
theorem dX7_when_17 : decode cX7_when 17 = .ok (.aload_n 0, 1) := by decide +kernel
theorem dX7_when_18 : decode cX7_when 18 = .ok (.getfield 19, 3) := by decide +kernel
theorem dX7_when_21 : decode cX7_when 21 = .ok (.bipush 8, 2) := by decide +kernel
theorem dX7_when_23 : decode cX7_when 23 = .ok (.iload_n 1, 1) := by decide +kernel
theorem dX7_when_24 : decode cX7_when 24 = .ok (.iadd, 1) := by decide +kernel
theorem dX7_when_25 : decode cX7_when 25 = .ok (.iaload, 1) := by decide +kernel
theorem dX7_when_26 : decode cX7_when 26 = .ok (.ifCond .le 19, 3) := by decide +kernel
theorem dX7_when_29 : decode cX7_when 29 = .ok (.iload_n 2, 1) := by decide +kernel
theorem dX7_when_30 : decode cX7_when 30 = .ok (.bipush 60, 2) := by decide +kernel
theorem dX7_when_32 : decode cX7_when 32 = .ok (.if_icmp .ge 13, 3) := by decide +kernel
theorem dX7_when_35 : decode cX7_when 35 = .ok (.aload_n 0, 1) := by decide +kernel
theorem dX7_when_36 : decode cX7_when 36 = .ok (.invokevirtual 187, 3) := by decide +kernel
theorem dX7_when_39 : decode cX7_when 39 = .ok (.iinc 2 1, 3) := by decide +kernel
theorem dX7_when_42 : decode cX7_when 42 = .ok (.goto (-25), 3) := by decide +kernel
theorem dX7_when_45 : decode cX7_when 45 = .ok (.aload_n 0, 1) := by decide +kernel
theorem dX7_when_46 : decode cX7_when 46 = .ok (.getfield 19, 3) := by decide +kernel
theorem dX7_when_49 : decode cX7_when 49 = .ok (.bipush 8, 2) := by decide +kernel
theorem dX7_when_51 : decode cX7_when 51 = .ok (.iload_n 1, 1) := by decide +kernel
theorem dX7_when_52 : decode cX7_when 52 = .ok (.iadd, 1) := by decide +kernel
theorem dX7_when_53 : decode cX7_when 53 = .ok (.iaload, 1) := by decide +kernel
theorem dX7_when_54 : decode cX7_when 54 = .ok (.ifCond .ne 7, 3) := by decide +kernel
theorem dX7_when_57 : decode cX7_when 57 = .ok (.iconst 1, 1) := by decide +kernel
theorem dX7_when_58 : decode cX7_when 58 = .ok (.goto 4, 3) := by decide +kernel
theorem dX7_when_61 : decode cX7_when 61 = .ok (.iconst 0, 1) := by decide +kernel
theorem dX7_when_62 : decode cX7_when 62 = .ok (.istore_n 3, 1) := by decide +kernel
theorem dX7_when_63 : decode cX7_when 63 = .ok (.aload_n 0, 1) := by decide +kernel
theorem dX7_when_64 : decode cX7_when 64 = .ok (.invokevirtual 211, 3) := by decide +kernel
theorem dX7_when_67 : decode cX7_when 67 = .ok (.iload_n 3, 1) := by decide +kernel
theorem dX7_when_68 : decode cX7_when 68 = .ok (.ifCond .eq 7, 3) := by decide +kernel
theorem dX7_when_71 : decode cX7_when 71 = .ok (.iload_n 2, 1) := by decide +kernel
theorem dX7_when_72 : decode cX7_when 72 = .ok (.goto 5, 3) := by decide +kernel
theorem dX7_when_75 : decode cX7_when 75 = .ok (.ldc 158, 2) := by decide +kernel
theorem dX7_when_77 : decode cX7_when 77 = .ok (.ireturn, 1) := by decide +kernel
theorem dX7_emptySet_0 : decode cX7_emptySet 0 = .ok (.iconst 0, 1) := by decide +kernel
theorem dX7_emptySet_1 : decode cX7_emptySet 1 = .ok (.istore_n 1, 1) := by decide +kernel
theorem dX7_emptySet_2 : decode cX7_emptySet 2 = .ok (.iconst 0, 1) := by decide +kernel
theorem dX7_emptySet_3 : decode cX7_emptySet 3 = .ok (.istore_n 2, 1) := by decide +kernel
theorem dX7_emptySet_4 : decode cX7_emptySet 4 = .ok (.iload_n 2, 1) := by decide +kernel
theorem dX7_emptySet_5 : decode cX7_emptySet 5 = .ok (.aload_n 0, 1) := by decide +kernel
theorem dX7_emptySet_6 : decode cX7_emptySet 6 = .ok (.getfield 19, 3) := by decide +kernel
theorem dX7_emptySet_9 : decode cX7_emptySet 9 = .ok (.iconst 0, 1) := by decide +kernel
theorem dX7_emptySet_10 : decode cX7_emptySet 10 = .ok (.iaload, 1) := by decide +kernel
theorem dX7_emptySet_11 : decode cX7_emptySet 11 = .ok (.if_icmp .ge 31, 3) := by decide +kernel
theorem dX7_emptySet_14 : decode cX7_emptySet 14 = .ok (.iload_n 1, 1) := by decide +kernel
theorem dX7_emptySet_15 : decode cX7_emptySet 15 = .ok (.aload_n 0, 1) := by decide +kernel
theorem dX7_emptySet_16 : decode cX7_emptySet 16 = .ok (.getfield 19, 3) := by decide +kernel
theorem dX7_emptySet_19 : decode cX7_emptySet 19 = .ok (.bipush 8, 2) := by decide +kernel
theorem dX7_emptySet_21 : decode cX7_emptySet 21 = .ok (.iload_n 2, 1) := by decide +kernel
theorem dX7_emptySet_22 : decode cX7_emptySet 22 = .ok (.iadd, 1) := by decide +kernel
theorem dX7_emptySet_23 : decode cX7_emptySet 23 = .ok (.iaload, 1) := by decide +kernel
theorem dX7_emptySet_24 : decode cX7_emptySet 24 = .ok (.ifCond .ne 9, 3) := by decide +kernel
theorem dX7_emptySet_27 : decode cX7_emptySet 27 = .ok (.iconst 1, 1) := by decide +kernel
theorem dX7_emptySet_28 : decode cX7_emptySet 28 = .ok (.iload_n 2, 1) := by decide +kernel
theorem dX7_emptySet_29 : decode cX7_emptySet 29 = .ok (.ishl, 1) := by decide +kernel
theorem dX7_emptySet_30 : decode cX7_emptySet 30 = .ok (.goto 4, 3) := by decide +kernel
theorem dX7_emptySet_33 : decode cX7_emptySet 33 = .ok (.iconst 0, 1) := by decide +kernel
theorem dX7_emptySet_34 : decode cX7_emptySet 34 = .ok (.ior, 1) := by decide +kernel
theorem dX7_emptySet_35 : decode cX7_emptySet 35 = .ok (.istore_n 1, 1) := by decide +kernel
theorem dX7_emptySet_36 : decode cX7_emptySet 36 = .ok (.iinc 2 1, 3) := by decide +kernel
theorem dX7_emptySet_39 : decode cX7_emptySet 39 = .ok (.goto (-35), 3) := by decide +kernel
theorem dX7_emptySet_42 : decode cX7_emptySet 42 = .ok (.iload_n 1, 1) := by decide +kernel
theorem dX7_emptySet_43 : decode cX7_emptySet 43 = .ok (.ireturn, 1) := by decide +kernel
theorem dX7_least_0 : decode cX7_least 0 = .ok (.iconst 0, 1) := by decide +kernel
theorem dX7_least_1 : decode cX7_least 1 = .ok (.istore_n 1, 1) := by decide +kernel
theorem dX7_least_2 : decode cX7_least 2 = .ok (.iload_n 0, 1) := by decide +kernel
theorem dX7_least_3 : decode cX7_least 3 = .ok (.iload_n 1, 1) := by decide +kernel
theorem dX7_least_4 : decode cX7_least 4 = .ok (.invokestatic 154, 3) := by decide +kernel
theorem dX7_least_7 : decode cX7_least 7 = .ok (.ifCond .ne 9, 3) := by decide +kernel
theorem dX7_least_10 : decode cX7_least 10 = .ok (.iinc 1 1, 3) := by decide +kernel
theorem dX7_least_13 : decode cX7_least 13 = .ok (.goto (-11), 3) := by decide +kernel
theorem dX7_least_16 : decode cX7_least 16 = .ok (.iload_n 1, 1) := by decide +kernel
theorem dX7_least_17 : decode cX7_least 17 = .ok (.ireturn, 1) := by decide +kernel
theorem dX7_first_0 : decode cX7_first 0 = .ok (.aload_n 0, 1) := by decide +kernel
theorem dX7_first_1 : decode cX7_first 1 = .ok (.getfield 147, 3) := by decide +kernel
theorem dX7_first_4 : decode cX7_first 4 = .ok (.ifCond .ne 6, 3) := by decide +kernel
theorem dX7_first_7 : decode cX7_first 7 = .ok (.ldc 181, 2) := by decide +kernel
theorem dX7_first_9 : decode cX7_first 9 = .ok (.ireturn, 1) := by decide +kernel
theorem dX7_first_10 : decode cX7_first 10 = .ok (.iload_n 1, 1) := by decide +kernel
theorem dX7_first_11 : decode cX7_first 11 = .ok (.invokestatic 216, 3) := by decide +kernel
theorem dX7_first_14 : decode cX7_first 14 = .ok (.ifCond .ne 6, 3) := by decide +kernel
theorem dX7_first_17 : decode cX7_first 17 = .ok (.ldc 73, 2) := by decide +kernel
theorem dX7_first_19 : decode cX7_first 19 = .ok (.ireturn, 1) := by decide +kernel
theorem dX7_first_20 : decode cX7_first 20 = .ok (.aload_n 0, 1) := by decide +kernel
theorem dX7_first_21 : decode cX7_first 21 = .ok (.invokevirtual 219, 3) := by decide +kernel
theorem dX7_first_24 : decode cX7_first 24 = .ok (.aload_n 0, 1) := by decide +kernel
theorem dX7_first_25 : decode cX7_first 25 = .ok (.invokevirtual 222, 3) := by decide +kernel
theorem dX7_first_28 : decode cX7_first 28 = .ok (.istore_n 2, 1) := by decide +kernel
theorem dX7_first_29 : decode cX7_first 29 = .ok (.iconst 0, 1) := by decide +kernel
theorem dX7_first_30 : decode cX7_first 30 = .ok (.istore_n 3, 1) := by decide +kernel
theorem dX7_first_31 : decode cX7_first 31 = .ok (.aload_n 0, 1) := by decide +kernel
theorem dX7_first_32 : decode cX7_first 32 = .ok (.invokevirtual 222, 3) := by decide +kernel
theorem dX7_first_35 : decode cX7_first 35 = .ok (.iload_n 2, 1) := by decide +kernel
theorem dX7_first_36 : decode cX7_first 36 = .ok (.if_icmp .ne 19, 3) := by decide +kernel
theorem dX7_first_39 : decode cX7_first 39 = .ok (.iload_n 3, 1) := by decide +kernel
theorem dX7_first_40 : decode cX7_first 40 = .ok (.bipush 60, 2) := by decide +kernel
theorem dX7_first_42 : decode cX7_first 42 = .ok (.if_icmp .ge 13, 3) := by decide +kernel
theorem dX7_first_45 : decode cX7_first 45 = .ok (.aload_n 0, 1) := by decide +kernel
theorem dX7_first_46 : decode cX7_first 46 = .ok (.invokevirtual 187, 3) := by decide +kernel
theorem dX7_first_49 : decode cX7_first 49 = .ok (.iinc 3 1, 3) := by decide +kernel
theorem dX7_first_52 : decode cX7_first 52 = .ok (.goto (-21), 3) := by decide +kernel
theorem dX7_first_55 : decode cX7_first 55 = .ok (.aload_n 0, 1) := by decide +kernel
theorem dX7_first_56 : decode cX7_first 56 = .ok (.invokevirtual 222, 3) := by decide +kernel
theorem dX7_first_59 : decode cX7_first 59 = .ok (.iload_n 2, 1) := by decide +kernel
theorem dX7_first_60 : decode cX7_first 60 = .ok (.iconst (-1), 1) := by decide +kernel
theorem dX7_first_61 : decode cX7_first 61 = .ok (.ixor, 1) := by decide +kernel
theorem dX7_first_62 : decode cX7_first 62 = .ok (.iand, 1) := by decide +kernel
theorem dX7_first_63 : decode cX7_first 63 = .ok (.istore 4, 2) := by decide +kernel
theorem dX7_first_65 : decode cX7_first 65 = .ok (.aload_n 0, 1) := by decide +kernel
theorem dX7_first_66 : decode cX7_first 66 = .ok (.invokevirtual 211, 3) := by decide +kernel
theorem dX7_first_69 : decode cX7_first 69 = .ok (.iload 4, 2) := by decide +kernel
theorem dX7_first_71 : decode cX7_first 71 = .ok (.ifCond .ne 8, 3) := by decide +kernel
theorem dX7_first_74 : decode cX7_first 74 = .ok (.ldc 158, 2) := by decide +kernel
theorem dX7_first_76 : decode cX7_first 76 = .ok (.goto 16, 3) := by decide +kernel
theorem dX7_first_79 : decode cX7_first 79 = .ok (.iload_n 1, 1) := by decide +kernel
theorem dX7_first_80 : decode cX7_first 80 = .ok (.ifCond .ne 11, 3) := by decide +kernel
theorem dX7_first_83 : decode cX7_first 83 = .ok (.iload 4, 2) := by decide +kernel
theorem dX7_first_85 : decode cX7_first 85 = .ok (.invokestatic 225, 3) := by decide +kernel
theorem dX7_first_88 : decode cX7_first 88 = .ok (.goto 4, 3) := by decide +kernel
theorem dX7_first_91 : decode cX7_first 91 = .ok (.iload_n 3, 1) := by decide +kernel
theorem dX7_first_92 : decode cX7_first 92 = .ok (.ireturn, 1) := by decide +kernel
theorem dX7_hole_0 : decode cX7_hole 0 = .ok (.aload_n 0, 1) := by decide +kernel
theorem dX7_hole_1 : decode cX7_hole 1 = .ok (.iload_n 1, 1) := by decide +kernel
theorem dX7_hole_2 : decode cX7_hole 2 = .ok (.invokevirtual 200, 3) := by decide +kernel
theorem dX7_hole_5 : decode cX7_hole 5 = .ok (.ifCond .eq 15, 3) := by decide +kernel
theorem dX7_hole_8 : decode cX7_hole 8 = .ok (.iload_n 2, 1) := by decide +kernel
theorem dX7_hole_9 : decode cX7_hole 9 = .ok (.i2l, 1) := by decide +kernel
theorem dX7_hole_10 : decode cX7_hole 10 = .ok (.lconst 0, 1) := by decide +kernel
theorem dX7_hole_11 : decode cX7_hole 11 = .ok (.ldc2_w 214, 3) := by decide +kernel
theorem dX7_hole_14 : decode cX7_hole 14 = .ok (.invokestatic 63, 3) := by decide +kernel
theorem dX7_hole_17 : decode cX7_hole 17 = .ok (.ifCond .ne 6, 3) := by decide +kernel
theorem dX7_hole_20 : decode cX7_hole 20 = .ok (.ldc 73, 2) := by decide +kernel
theorem dX7_hole_22 : decode cX7_hole 22 = .ok (.ireturn, 1) := by decide +kernel
theorem dX7_hole_23 : decode cX7_hole 23 = .ok (.aload_n 0, 1) := by decide +kernel
theorem dX7_hole_24 : decode cX7_hole 24 = .ok (.invokevirtual 219, 3) := by decide +kernel
theorem dX7_hole_27 : decode cX7_hole 27 = .ok (.aload_n 0, 1) := by decide +kernel
theorem dX7_hole_28 : decode cX7_hole 28 = .ok (.getfield 31, 3) := by decide +kernel
theorem dX7_hole_31 : decode cX7_hole 31 = .ok (.iload_n 1, 1) := by decide +kernel
theorem dX7_hole_32 : decode cX7_hole 32 = .ok (.iconst 0, 1) := by decide +kernel
theorem dX7_hole_33 : decode cX7_hole 33 = .ok (.iastore, 1) := by decide +kernel
theorem dX7_hole_34 : decode cX7_hole 34 = .ok (.aload_n 0, 1) := by decide +kernel
theorem dX7_hole_35 : decode cX7_hole 35 = .ok (.iload_n 2, 1) := by decide +kernel
theorem dX7_hole_36 : decode cX7_hole 36 = .ok (.invokevirtual 208, 3) := by decide +kernel
theorem dX7_hole_39 : decode cX7_hole 39 = .ok (.aload_n 0, 1) := by decide +kernel
theorem dX7_hole_40 : decode cX7_hole 40 = .ok (.invokevirtual 211, 3) := by decide +kernel
theorem dX7_hole_43 : decode cX7_hole 43 = .ok (.aload_n 0, 1) := by decide +kernel
theorem dX7_hole_44 : decode cX7_hole 44 = .ok (.getfield 31, 3) := by decide +kernel
theorem dX7_hole_47 : decode cX7_hole 47 = .ok (.iload_n 1, 1) := by decide +kernel
theorem dX7_hole_48 : decode cX7_hole 48 = .ok (.iaload, 1) := by decide +kernel
theorem dX7_hole_49 : decode cX7_hole 49 = .ok (.ireturn, 1) := by decide +kernel
theorem dX7_exchange_0 : decode cX7_exchange 0 = .ok (.aload_n 0, 1) := by decide +kernel
theorem dX7_exchange_1 : decode cX7_exchange 1 = .ok (.getfield 40, 3) := by decide +kernel
theorem dX7_exchange_4 : decode cX7_exchange 4 = .ok (.iload_n 1, 1) := by decide +kernel
theorem dX7_exchange_5 : decode cX7_exchange 5 = .ok (.iaload, 1) := by decide +kernel
theorem dX7_exchange_6 : decode cX7_exchange 6 = .ok (.istore_n 3, 1) := by decide +kernel
theorem dX7_exchange_7 : decode cX7_exchange 7 = .ok (.aload_n 0, 1) := by decide +kernel
theorem dX7_exchange_8 : decode cX7_exchange 8 = .ok (.getfield 40, 3) := by decide +kernel
theorem dX7_exchange_11 : decode cX7_exchange 11 = .ok (.iload_n 1, 1) := by decide +kernel
theorem dX7_exchange_12 : decode cX7_exchange 12 = .ok (.aload_n 0, 1) := by decide +kernel
theorem dX7_exchange_13 : decode cX7_exchange 13 = .ok (.getfield 40, 3) := by decide +kernel
theorem dX7_exchange_16 : decode cX7_exchange 16 = .ok (.iload_n 2, 1) := by decide +kernel
theorem dX7_exchange_17 : decode cX7_exchange 17 = .ok (.iaload, 1) := by decide +kernel
theorem dX7_exchange_18 : decode cX7_exchange 18 = .ok (.iastore, 1) := by decide +kernel
theorem dX7_exchange_19 : decode cX7_exchange 19 = .ok (.aload_n 0, 1) := by decide +kernel
theorem dX7_exchange_20 : decode cX7_exchange 20 = .ok (.getfield 40, 3) := by decide +kernel
theorem dX7_exchange_23 : decode cX7_exchange 23 = .ok (.iload_n 2, 1) := by decide +kernel
theorem dX7_exchange_24 : decode cX7_exchange 24 = .ok (.iload_n 3, 1) := by decide +kernel
theorem dX7_exchange_25 : decode cX7_exchange 25 = .ok (.iastore, 1) := by decide +kernel
theorem dX7_exchange_26 : decode cX7_exchange 26 = .ok (.return_, 1) := by decide +kernel
theorem dX7_isNext_0 : decode cX7_isNext 0 = .ok (.iload_n 1, 1) := by decide +kernel
theorem dX7_isNext_1 : decode cX7_isNext 1 = .ok (.iconst 2, 1) := by decide +kernel
theorem dX7_isNext_2 : decode cX7_isNext 2 = .ok (.isub, 1) := by decide +kernel
theorem dX7_isNext_3 : decode cX7_isNext 3 = .ok (.istore_n 2, 1) := by decide +kernel
theorem dX7_isNext_4 : decode cX7_isNext 4 = .ok (.iload_n 2, 1) := by decide +kernel
theorem dX7_isNext_5 : decode cX7_isNext 5 = .ok (.ifCond .lt 26, 3) := by decide +kernel
theorem dX7_isNext_8 : decode cX7_isNext 8 = .ok (.aload_n 0, 1) := by decide +kernel
theorem dX7_isNext_9 : decode cX7_isNext 9 = .ok (.getfield 40, 3) := by decide +kernel
theorem dX7_isNext_12 : decode cX7_isNext 12 = .ok (.iload_n 2, 1) := by decide +kernel
theorem dX7_isNext_13 : decode cX7_isNext 13 = .ok (.iaload, 1) := by decide +kernel
theorem dX7_isNext_14 : decode cX7_isNext 14 = .ok (.aload_n 0, 1) := by decide +kernel
theorem dX7_isNext_15 : decode cX7_isNext 15 = .ok (.getfield 40, 3) := by decide +kernel
theorem dX7_isNext_18 : decode cX7_isNext 18 = .ok (.iload_n 2, 1) := by decide +kernel
theorem dX7_isNext_19 : decode cX7_isNext 19 = .ok (.iconst 1, 1) := by decide +kernel
theorem dX7_isNext_20 : decode cX7_isNext 20 = .ok (.iadd, 1) := by decide +kernel
theorem dX7_isNext_21 : decode cX7_isNext 21 = .ok (.iaload, 1) := by decide +kernel
theorem dX7_isNext_22 : decode cX7_isNext 22 = .ok (.if_icmp .le 9, 3) := by decide +kernel
theorem dX7_isNext_25 : decode cX7_isNext 25 = .ok (.iinc 2 (-1), 3) := by decide +kernel
theorem dX7_isNext_28 : decode cX7_isNext 28 = .ok (.goto (-24), 3) := by decide +kernel
theorem dX7_isNext_31 : decode cX7_isNext 31 = .ok (.iload_n 2, 1) := by decide +kernel
theorem dX7_isNext_32 : decode cX7_isNext 32 = .ok (.ifCond .ge 5, 3) := by decide +kernel
theorem dX7_isNext_35 : decode cX7_isNext 35 = .ok (.iconst 0, 1) := by decide +kernel
theorem dX7_isNext_36 : decode cX7_isNext 36 = .ok (.ireturn, 1) := by decide +kernel
theorem dX7_isNext_37 : decode cX7_isNext 37 = .ok (.iload_n 1, 1) := by decide +kernel
theorem dX7_isNext_38 : decode cX7_isNext 38 = .ok (.iconst 1, 1) := by decide +kernel
theorem dX7_isNext_39 : decode cX7_isNext 39 = .ok (.isub, 1) := by decide +kernel
theorem dX7_isNext_40 : decode cX7_isNext 40 = .ok (.istore_n 3, 1) := by decide +kernel
theorem dX7_isNext_41 : decode cX7_isNext 41 = .ok (.aload_n 0, 1) := by decide +kernel
theorem dX7_isNext_42 : decode cX7_isNext 42 = .ok (.getfield 40, 3) := by decide +kernel
theorem dX7_isNext_45 : decode cX7_isNext 45 = .ok (.iload_n 3, 1) := by decide +kernel
theorem dX7_isNext_46 : decode cX7_isNext 46 = .ok (.iaload, 1) := by decide +kernel
theorem dX7_isNext_47 : decode cX7_isNext 47 = .ok (.aload_n 0, 1) := by decide +kernel
theorem dX7_isNext_48 : decode cX7_isNext 48 = .ok (.getfield 40, 3) := by decide +kernel
theorem dX7_isNext_51 : decode cX7_isNext 51 = .ok (.iload_n 2, 1) := by decide +kernel
theorem dX7_isNext_52 : decode cX7_isNext 52 = .ok (.iaload, 1) := by decide +kernel
theorem dX7_isNext_53 : decode cX7_isNext 53 = .ok (.if_icmp .ge 9, 3) := by decide +kernel
theorem dX7_isNext_56 : decode cX7_isNext 56 = .ok (.iinc 3 (-1), 3) := by decide +kernel
theorem dX7_isNext_59 : decode cX7_isNext 59 = .ok (.goto (-18), 3) := by decide +kernel
theorem dX7_isNext_62 : decode cX7_isNext 62 = .ok (.aload_n 0, 1) := by decide +kernel
theorem dX7_isNext_63 : decode cX7_isNext 63 = .ok (.iload_n 2, 1) := by decide +kernel
theorem dX7_isNext_64 : decode cX7_isNext 64 = .ok (.iload_n 3, 1) := by decide +kernel
theorem dX7_isNext_65 : decode cX7_isNext 65 = .ok (.invokevirtual 228, 3) := by decide +kernel
theorem dX7_isNext_68 : decode cX7_isNext 68 = .ok (.iload_n 2, 1) := by decide +kernel
theorem dX7_isNext_69 : decode cX7_isNext 69 = .ok (.iconst 1, 1) := by decide +kernel
theorem dX7_isNext_70 : decode cX7_isNext 70 = .ok (.iadd, 1) := by decide +kernel
theorem dX7_isNext_71 : decode cX7_isNext 71 = .ok (.istore 4, 2) := by decide +kernel
theorem dX7_isNext_73 : decode cX7_isNext 73 = .ok (.iload_n 1, 1) := by decide +kernel
theorem dX7_isNext_74 : decode cX7_isNext 74 = .ok (.iconst 1, 1) := by decide +kernel
theorem dX7_isNext_75 : decode cX7_isNext 75 = .ok (.isub, 1) := by decide +kernel
theorem dX7_isNext_76 : decode cX7_isNext 76 = .ok (.istore 5, 2) := by decide +kernel
theorem dX7_isNext_78 : decode cX7_isNext 78 = .ok (.iload 4, 2) := by decide +kernel
theorem dX7_isNext_80 : decode cX7_isNext 80 = .ok (.iload 5, 2) := by decide +kernel
theorem dX7_isNext_82 : decode cX7_isNext 82 = .ok (.if_icmp .ge 20, 3) := by decide +kernel
theorem dX7_isNext_85 : decode cX7_isNext 85 = .ok (.aload_n 0, 1) := by decide +kernel
theorem dX7_isNext_86 : decode cX7_isNext 86 = .ok (.iload 4, 2) := by decide +kernel
theorem dX7_isNext_88 : decode cX7_isNext 88 = .ok (.iload 5, 2) := by decide +kernel
theorem dX7_isNext_90 : decode cX7_isNext 90 = .ok (.invokevirtual 228, 3) := by decide +kernel
theorem dX7_isNext_93 : decode cX7_isNext 93 = .ok (.iinc 4 1, 3) := by decide +kernel
theorem dX7_isNext_96 : decode cX7_isNext 96 = .ok (.iinc 5 (-1), 3) := by decide +kernel
theorem dX7_isNext_99 : decode cX7_isNext 99 = .ok (.goto (-21), 3) := by decide +kernel
theorem dX7_isNext_102 : decode cX7_isNext 102 = .ok (.iconst 1, 1) := by decide +kernel
theorem dX7_isNext_103 : decode cX7_isNext 103 = .ok (.ireturn, 1) := by decide +kernel
theorem dX7_pagesOf_0 : decode cX7_pagesOf 0 = .ok (.iconst 0, 1) := by decide +kernel
theorem dX7_pagesOf_1 : decode cX7_pagesOf 1 = .ok (.istore_n 2, 1) := by decide +kernel
theorem dX7_pagesOf_2 : decode cX7_pagesOf 2 = .ok (.iconst 0, 1) := by decide +kernel
theorem dX7_pagesOf_3 : decode cX7_pagesOf 3 = .ok (.istore_n 3, 1) := by decide +kernel
theorem dX7_pagesOf_4 : decode cX7_pagesOf 4 = .ok (.iload_n 3, 1) := by decide +kernel
theorem dX7_pagesOf_5 : decode cX7_pagesOf 5 = .ok (.aload_n 0, 1) := by decide +kernel
theorem dX7_pagesOf_6 : decode cX7_pagesOf 6 = .ok (.getfield 19, 3) := by decide +kernel
theorem dX7_pagesOf_9 : decode cX7_pagesOf 9 = .ok (.iconst 0, 1) := by decide +kernel
theorem dX7_pagesOf_10 : decode cX7_pagesOf 10 = .ok (.iaload, 1) := by decide +kernel
theorem dX7_pagesOf_11 : decode cX7_pagesOf 11 = .ok (.if_icmp .ge 33, 3) := by decide +kernel
theorem dX7_pagesOf_14 : decode cX7_pagesOf 14 = .ok (.iload_n 2, 1) := by decide +kernel
theorem dX7_pagesOf_15 : decode cX7_pagesOf 15 = .ok (.iload_n 1, 1) := by decide +kernel
theorem dX7_pagesOf_16 : decode cX7_pagesOf 16 = .ok (.iload_n 3, 1) := by decide +kernel
theorem dX7_pagesOf_17 : decode cX7_pagesOf 17 = .ok (.invokestatic 154, 3) := by decide +kernel
theorem dX7_pagesOf_20 : decode cX7_pagesOf 20 = .ok (.ifCond .eq 15, 3) := by decide +kernel
theorem dX7_pagesOf_23 : decode cX7_pagesOf 23 = .ok (.aload_n 0, 1) := by decide +kernel
theorem dX7_pagesOf_24 : decode cX7_pagesOf 24 = .ok (.getfield 19, 3) := by decide +kernel
theorem dX7_pagesOf_27 : decode cX7_pagesOf 27 = .ok (.bipush 8, 2) := by decide +kernel
theorem dX7_pagesOf_29 : decode cX7_pagesOf 29 = .ok (.iload_n 3, 1) := by decide +kernel
theorem dX7_pagesOf_30 : decode cX7_pagesOf 30 = .ok (.iadd, 1) := by decide +kernel
theorem dX7_pagesOf_31 : decode cX7_pagesOf 31 = .ok (.iaload, 1) := by decide +kernel
theorem dX7_pagesOf_32 : decode cX7_pagesOf 32 = .ok (.goto 4, 3) := by decide +kernel
theorem dX7_pagesOf_35 : decode cX7_pagesOf 35 = .ok (.iconst 0, 1) := by decide +kernel
theorem dX7_pagesOf_36 : decode cX7_pagesOf 36 = .ok (.iadd, 1) := by decide +kernel
theorem dX7_pagesOf_37 : decode cX7_pagesOf 37 = .ok (.istore_n 2, 1) := by decide +kernel
theorem dX7_pagesOf_38 : decode cX7_pagesOf 38 = .ok (.iinc 3 1, 3) := by decide +kernel
theorem dX7_pagesOf_41 : decode cX7_pagesOf 41 = .ok (.goto (-37), 3) := by decide +kernel
theorem dX7_pagesOf_44 : decode cX7_pagesOf 44 = .ok (.iload_n 2, 1) := by decide +kernel
theorem dX7_pagesOf_45 : decode cX7_pagesOf 45 = .ok (.ireturn, 1) := by decide +kernel
theorem dX7_order_0 : decode cX7_order 0 = .ok (.aload_n 0, 1) := by decide +kernel
theorem dX7_order_1 : decode cX7_order 1 = .ok (.getfield 147, 3) := by decide +kernel
theorem dX7_order_4 : decode cX7_order 4 = .ok (.ifCond .ne 6, 3) := by decide +kernel
theorem dX7_order_7 : decode cX7_order 7 = .ok (.ldc 181, 2) := by decide +kernel
theorem dX7_order_9 : decode cX7_order 9 = .ok (.ireturn, 1) := by decide +kernel
theorem dX7_order_10 : decode cX7_order 10 = .ok (.iload_n 1, 1) := by decide +kernel
theorem dX7_order_11 : decode cX7_order 11 = .ok (.i2l, 1) := by decide +kernel
theorem dX7_order_12 : decode cX7_order 12 = .ok (.lconst 0, 1) := by decide +kernel
theorem dX7_order_13 : decode cX7_order 13 = .ok (.iconst 1, 1) := by decide +kernel
theorem dX7_order_14 : decode cX7_order 14 = .ok (.aload_n 0, 1) := by decide +kernel
theorem dX7_order_15 : decode cX7_order 15 = .ok (.getfield 19, 3) := by decide +kernel
theorem dX7_order_18 : decode cX7_order 18 = .ok (.iconst 0, 1) := by decide +kernel
theorem dX7_order_19 : decode cX7_order 19 = .ok (.iaload, 1) := by decide +kernel
theorem dX7_order_20 : decode cX7_order 20 = .ok (.ishl, 1) := by decide +kernel
theorem dX7_order_21 : decode cX7_order 21 = .ok (.iconst 1, 1) := by decide +kernel
theorem dX7_order_22 : decode cX7_order 22 = .ok (.isub, 1) := by decide +kernel
theorem dX7_order_23 : decode cX7_order 23 = .ok (.i2l, 1) := by decide +kernel
theorem dX7_order_24 : decode cX7_order 24 = .ok (.invokestatic 63, 3) := by decide +kernel
theorem dX7_order_27 : decode cX7_order 27 = .ok (.ifCond .eq 35, 3) := by decide +kernel
theorem dX7_order_30 : decode cX7_order 30 = .ok (.iload_n 2, 1) := by decide +kernel
theorem dX7_order_31 : decode cX7_order 31 = .ok (.i2l, 1) := by decide +kernel
theorem dX7_order_32 : decode cX7_order 32 = .ok (.lconst 1, 1) := by decide +kernel
theorem dX7_order_33 : decode cX7_order 33 = .ok (.ldc2_w 232, 3) := by decide +kernel
theorem dX7_order_36 : decode cX7_order 36 = .ok (.invokestatic 63, 3) := by decide +kernel
theorem dX7_order_39 : decode cX7_order 39 = .ok (.ifCond .eq 23, 3) := by decide +kernel
theorem dX7_order_42 : decode cX7_order 42 = .ok (.iload_n 3, 1) := by decide +kernel
theorem dX7_order_43 : decode cX7_order 43 = .ok (.i2l, 1) := by decide +kernel
theorem dX7_order_44 : decode cX7_order 44 = .ok (.ldc2_w 234, 3) := by decide +kernel
theorem dX7_order_47 : decode cX7_order 47 = .ok (.aload_n 0, 1) := by decide +kernel
theorem dX7_order_48 : decode cX7_order 48 = .ok (.getfield 19, 3) := by decide +kernel
theorem dX7_order_51 : decode cX7_order 51 = .ok (.iconst 0, 1) := by decide +kernel
theorem dX7_order_52 : decode cX7_order 52 = .ok (.iaload, 1) := by decide +kernel
theorem dX7_order_53 : decode cX7_order 53 = .ok (.iconst 1, 1) := by decide +kernel
theorem dX7_order_54 : decode cX7_order 54 = .ok (.isub, 1) := by decide +kernel
theorem dX7_order_55 : decode cX7_order 55 = .ok (.i2l, 1) := by decide +kernel
theorem dX7_order_56 : decode cX7_order 56 = .ok (.invokestatic 63, 3) := by decide +kernel
theorem dX7_order_59 : decode cX7_order 59 = .ok (.ifCond .ne 6, 3) := by decide +kernel
theorem dX7_order_62 : decode cX7_order 62 = .ok (.ldc 73, 2) := by decide +kernel
theorem dX7_order_64 : decode cX7_order 64 = .ok (.ireturn, 1) := by decide +kernel
theorem dX7_order_65 : decode cX7_order 65 = .ok (.aload_n 0, 1) := by decide +kernel
theorem dX7_order_66 : decode cX7_order 66 = .ok (.invokevirtual 219, 3) := by decide +kernel
theorem dX7_order_69 : decode cX7_order 69 = .ok (.iconst 0, 1) := by decide +kernel
theorem dX7_order_70 : decode cX7_order 70 = .ok (.istore 4, 2) := by decide +kernel
theorem dX7_order_72 : decode cX7_order 72 = .ok (.iload 4, 2) := by decide +kernel
theorem dX7_order_74 : decode cX7_order 74 = .ok (.aload_n 0, 1) := by decide +kernel
theorem dX7_order_75 : decode cX7_order 75 = .ok (.getfield 19, 3) := by decide +kernel
theorem dX7_order_78 : decode cX7_order 78 = .ok (.iconst 0, 1) := by decide +kernel
theorem dX7_order_79 : decode cX7_order 79 = .ok (.iaload, 1) := by decide +kernel
theorem dX7_order_80 : decode cX7_order 80 = .ok (.if_icmp .ge 18, 3) := by decide +kernel
theorem dX7_order_83 : decode cX7_order 83 = .ok (.aload_n 0, 1) := by decide +kernel
theorem dX7_order_84 : decode cX7_order 84 = .ok (.getfield 40, 3) := by decide +kernel
theorem dX7_order_87 : decode cX7_order 87 = .ok (.iload 4, 2) := by decide +kernel
theorem dX7_order_89 : decode cX7_order 89 = .ok (.iload 4, 2) := by decide +kernel
theorem dX7_order_91 : decode cX7_order 91 = .ok (.iastore, 1) := by decide +kernel
theorem dX7_order_92 : decode cX7_order 92 = .ok (.iinc 4 1, 3) := by decide +kernel
theorem dX7_order_95 : decode cX7_order 95 = .ok (.goto (-23), 3) := by decide +kernel
theorem dX7_order_98 : decode cX7_order 98 = .ok (.iconst (-1), 1) := by decide +kernel
theorem dX7_order_99 : decode cX7_order 99 = .ok (.istore 4, 2) := by decide +kernel
theorem dX7_order_101 : decode cX7_order 101 = .ok (.iconst 1, 1) := by decide +kernel
theorem dX7_order_102 : decode cX7_order 102 = .ok (.istore 5, 2) := by decide +kernel
theorem dX7_order_104 : decode cX7_order 104 = .ok (.iload 5, 2) := by decide +kernel
theorem dX7_order_106 : decode cX7_order 106 = .ok (.ifCond .eq 116, 3) := by decide +kernel
theorem dX7_order_109 : decode cX7_order 109 = .ok (.iconst 0, 1) := by decide +kernel
theorem dX7_order_110 : decode cX7_order 110 = .ok (.istore 6, 2) := by decide +kernel
theorem dX7_order_112 : decode cX7_order 112 = .ok (.iload 6, 2) := by decide +kernel
theorem dX7_order_114 : decode cX7_order 114 = .ok (.aload_n 0, 1) := by decide +kernel
theorem dX7_order_115 : decode cX7_order 115 = .ok (.getfield 19, 3) := by decide +kernel
theorem dX7_order_118 : decode cX7_order 118 = .ok (.iconst 0, 1) := by decide +kernel
theorem dX7_order_119 : decode cX7_order 119 = .ok (.iaload, 1) := by decide +kernel
theorem dX7_order_120 : decode cX7_order 120 = .ok (.if_icmp .ge 26, 3) := by decide +kernel
theorem dX7_order_123 : decode cX7_order 123 = .ok (.aload_n 0, 1) := by decide +kernel
theorem dX7_order_124 : decode cX7_order 124 = .ok (.getfield 19, 3) := by decide +kernel
theorem dX7_order_127 : decode cX7_order 127 = .ok (.bipush 20, 2) := by decide +kernel
theorem dX7_order_129 : decode cX7_order 129 = .ok (.aload_n 0, 1) := by decide +kernel
theorem dX7_order_130 : decode cX7_order 130 = .ok (.getfield 40, 3) := by decide +kernel
theorem dX7_order_133 : decode cX7_order 133 = .ok (.iload 6, 2) := by decide +kernel
theorem dX7_order_135 : decode cX7_order 135 = .ok (.iaload, 1) := by decide +kernel
theorem dX7_order_136 : decode cX7_order 136 = .ok (.iadd, 1) := by decide +kernel
theorem dX7_order_137 : decode cX7_order 137 = .ok (.iload 6, 2) := by decide +kernel
theorem dX7_order_139 : decode cX7_order 139 = .ok (.iastore, 1) := by decide +kernel
theorem dX7_order_140 : decode cX7_order 140 = .ok (.iinc 6 1, 3) := by decide +kernel
theorem dX7_order_143 : decode cX7_order 143 = .ok (.goto (-31), 3) := by decide +kernel
theorem dX7_order_146 : decode cX7_order 146 = .ok (.aload_n 0, 1) := by decide +kernel
theorem dX7_order_147 : decode cX7_order 147 = .ok (.iload_n 2, 1) := by decide +kernel
theorem dX7_order_148 : decode cX7_order 148 = .ok (.invokevirtual 208, 3) := by decide +kernel
theorem dX7_order_151 : decode cX7_order 151 = .ok (.aload_n 0, 1) := by decide +kernel
theorem dX7_order_152 : decode cX7_order 152 = .ok (.iload_n 1, 1) := by decide +kernel
theorem dX7_order_153 : decode cX7_order 153 = .ok (.invokevirtual 236, 3) := by decide +kernel
theorem dX7_order_156 : decode cX7_order 156 = .ok (.istore 6, 2) := by decide +kernel
theorem dX7_order_158 : decode cX7_order 158 = .ok (.aload_n 0, 1) := by decide +kernel
theorem dX7_order_159 : decode cX7_order 159 = .ok (.invokevirtual 211, 3) := by decide +kernel
theorem dX7_order_162 : decode cX7_order 162 = .ok (.iload 6, 2) := by decide +kernel
theorem dX7_order_164 : decode cX7_order 164 = .ok (.iload 4, 2) := by decide +kernel
theorem dX7_order_166 : decode cX7_order 166 = .ok (.if_icmp .le 41, 3) := by decide +kernel
theorem dX7_order_169 : decode cX7_order 169 = .ok (.iload 6, 2) := by decide +kernel
theorem dX7_order_171 : decode cX7_order 171 = .ok (.istore 4, 2) := by decide +kernel
theorem dX7_order_173 : decode cX7_order 173 = .ok (.iconst 0, 1) := by decide +kernel
theorem dX7_order_174 : decode cX7_order 174 = .ok (.istore 7, 2) := by decide +kernel
theorem dX7_order_176 : decode cX7_order 176 = .ok (.iload 7, 2) := by decide +kernel
theorem dX7_order_178 : decode cX7_order 178 = .ok (.aload_n 0, 1) := by decide +kernel
theorem dX7_order_179 : decode cX7_order 179 = .ok (.getfield 19, 3) := by decide +kernel
theorem dX7_order_182 : decode cX7_order 182 = .ok (.iconst 0, 1) := by decide +kernel
theorem dX7_order_183 : decode cX7_order 183 = .ok (.iaload, 1) := by decide +kernel
theorem dX7_order_184 : decode cX7_order 184 = .ok (.if_icmp .ge 23, 3) := by decide +kernel
theorem dX7_order_187 : decode cX7_order 187 = .ok (.aload_n 0, 1) := by decide +kernel
theorem dX7_order_188 : decode cX7_order 188 = .ok (.getfield 43, 3) := by decide +kernel
theorem dX7_order_191 : decode cX7_order 191 = .ok (.iload 7, 2) := by decide +kernel
theorem dX7_order_193 : decode cX7_order 193 = .ok (.aload_n 0, 1) := by decide +kernel
theorem dX7_order_194 : decode cX7_order 194 = .ok (.getfield 40, 3) := by decide +kernel
theorem dX7_order_197 : decode cX7_order 197 = .ok (.iload 7, 2) := by decide +kernel
theorem dX7_order_199 : decode cX7_order 199 = .ok (.iaload, 1) := by decide +kernel
theorem dX7_order_200 : decode cX7_order 200 = .ok (.iastore, 1) := by decide +kernel
theorem dX7_order_201 : decode cX7_order 201 = .ok (.iinc 7 1, 3) := by decide +kernel
theorem dX7_order_204 : decode cX7_order 204 = .ok (.goto (-28), 3) := by decide +kernel
theorem dX7_order_207 : decode cX7_order 207 = .ok (.aload_n 0, 1) := by decide +kernel
theorem dX7_order_208 : decode cX7_order 208 = .ok (.aload_n 0, 1) := by decide +kernel
theorem dX7_order_209 : decode cX7_order 209 = .ok (.getfield 19, 3) := by decide +kernel
theorem dX7_order_212 : decode cX7_order 212 = .ok (.iconst 0, 1) := by decide +kernel
theorem dX7_order_213 : decode cX7_order 213 = .ok (.iaload, 1) := by decide +kernel
theorem dX7_order_214 : decode cX7_order 214 = .ok (.invokevirtual 239, 3) := by decide +kernel
theorem dX7_order_217 : decode cX7_order 217 = .ok (.istore 5, 2) := by decide +kernel
theorem dX7_order_219 : decode cX7_order 219 = .ok (.goto (-115), 3) := by decide +kernel
theorem dX7_order_222 : decode cX7_order 222 = .ok (.iload_n 3, 1) := by decide +kernel
theorem dX7_order_223 : decode cX7_order 223 = .ok (.ifCond .ge 8, 3) := by decide +kernel
theorem dX7_order_226 : decode cX7_order 226 = .ok (.iload 4, 2) := by decide +kernel
theorem dX7_order_228 : decode cX7_order 228 = .ok (.goto 9, 3) := by decide +kernel
theorem dX7_order_231 : decode cX7_order 231 = .ok (.aload_n 0, 1) := by decide +kernel
theorem dX7_order_232 : decode cX7_order 232 = .ok (.getfield 43, 3) := by decide +kernel
theorem dX7_order_235 : decode cX7_order 235 = .ok (.iload_n 3, 1) := by decide +kernel
theorem dX7_order_236 : decode cX7_order 236 = .ok (.iaload, 1) := by decide +kernel
theorem dX7_order_237 : decode cX7_order 237 = .ok (.ireturn, 1) := by decide +kernel
theorem dX7_lamp_0 : decode cX7_lamp 0 = .ok (.aload_n 0, 1) := by decide +kernel
theorem dX7_lamp_1 : decode cX7_lamp 1 = .ok (.iload_n 1, 1) := by decide +kernel
theorem dX7_lamp_2 : decode cX7_lamp 2 = .ok (.invokevirtual 194, 3) := by decide +kernel
theorem dX7_lamp_5 : decode cX7_lamp 5 = .ok (.ifCond .eq 22, 3) := by decide +kernel
theorem dX7_lamp_8 : decode cX7_lamp 8 = .ok (.iload_n 2, 1) := by decide +kernel
theorem dX7_lamp_9 : decode cX7_lamp 9 = .ok (.i2l, 1) := by decide +kernel
theorem dX7_lamp_10 : decode cX7_lamp 10 = .ok (.lconst 1, 1) := by decide +kernel
theorem dX7_lamp_11 : decode cX7_lamp 11 = .ok (.ldc2_w 214, 3) := by decide +kernel
theorem dX7_lamp_14 : decode cX7_lamp 14 = .ok (.invokestatic 63, 3) := by decide +kernel
theorem dX7_lamp_17 : decode cX7_lamp 17 = .ok (.ifCond .eq 10, 3) := by decide +kernel
theorem dX7_lamp_20 : decode cX7_lamp 20 = .ok (.iload_n 3, 1) := by decide +kernel
theorem dX7_lamp_21 : decode cX7_lamp 21 = .ok (.invokestatic 216, 3) := by decide +kernel
theorem dX7_lamp_24 : decode cX7_lamp 24 = .ok (.ifCond .ne 6, 3) := by decide +kernel
theorem dX7_lamp_27 : decode cX7_lamp 27 = .ok (.ldc 73, 2) := by decide +kernel
theorem dX7_lamp_29 : decode cX7_lamp 29 = .ok (.ireturn, 1) := by decide +kernel
theorem dX7_lamp_30 : decode cX7_lamp 30 = .ok (.aload_n 0, 1) := by decide +kernel
theorem dX7_lamp_31 : decode cX7_lamp 31 = .ok (.invokevirtual 219, 3) := by decide +kernel
theorem dX7_lamp_34 : decode cX7_lamp 34 = .ok (.iconst 0, 1) := by decide +kernel
theorem dX7_lamp_35 : decode cX7_lamp 35 = .ok (.istore 4, 2) := by decide +kernel
theorem dX7_lamp_37 : decode cX7_lamp 37 = .ok (.iconst (-1), 1) := by decide +kernel
theorem dX7_lamp_38 : decode cX7_lamp 38 = .ok (.istore 5, 2) := by decide +kernel
theorem dX7_lamp_40 : decode cX7_lamp 40 = .ok (.iconst 0, 1) := by decide +kernel
theorem dX7_lamp_41 : decode cX7_lamp 41 = .ok (.istore 6, 2) := by decide +kernel
theorem dX7_lamp_43 : decode cX7_lamp 43 = .ok (.iload 6, 2) := by decide +kernel
theorem dX7_lamp_45 : decode cX7_lamp 45 = .ok (.iconst 1, 1) := by decide +kernel
theorem dX7_lamp_46 : decode cX7_lamp 46 = .ok (.aload_n 0, 1) := by decide +kernel
theorem dX7_lamp_47 : decode cX7_lamp 47 = .ok (.getfield 19, 3) := by decide +kernel
theorem dX7_lamp_50 : decode cX7_lamp 50 = .ok (.iconst 0, 1) := by decide +kernel
theorem dX7_lamp_51 : decode cX7_lamp 51 = .ok (.iaload, 1) := by decide +kernel
theorem dX7_lamp_52 : decode cX7_lamp 52 = .ok (.ishl, 1) := by decide +kernel
theorem dX7_lamp_53 : decode cX7_lamp 53 = .ok (.if_icmp .ge 74, 3) := by decide +kernel
theorem dX7_lamp_56 : decode cX7_lamp 56 = .ok (.iload 6, 2) := by decide +kernel
theorem dX7_lamp_58 : decode cX7_lamp 58 = .ok (.invokestatic 197, 3) := by decide +kernel
theorem dX7_lamp_61 : decode cX7_lamp 61 = .ok (.aload_n 0, 1) := by decide +kernel
theorem dX7_lamp_62 : decode cX7_lamp 62 = .ok (.getfield 19, 3) := by decide +kernel
theorem dX7_lamp_65 : decode cX7_lamp 65 = .ok (.iconst 3, 1) := by decide +kernel
theorem dX7_lamp_66 : decode cX7_lamp 66 = .ok (.iaload, 1) := by decide +kernel
theorem dX7_lamp_67 : decode cX7_lamp 67 = .ok (.if_icmp .gt 54, 3) := by decide +kernel
theorem dX7_lamp_70 : decode cX7_lamp 70 = .ok (.aload_n 0, 1) := by decide +kernel
theorem dX7_lamp_71 : decode cX7_lamp 71 = .ok (.getfield 19, 3) := by decide +kernel
theorem dX7_lamp_74 : decode cX7_lamp 74 = .ok (.iconst 5, 1) := by decide +kernel
theorem dX7_lamp_75 : decode cX7_lamp 75 = .ok (.iload 6, 2) := by decide +kernel
theorem dX7_lamp_77 : decode cX7_lamp 77 = .ok (.iastore, 1) := by decide +kernel
theorem dX7_lamp_78 : decode cX7_lamp 78 = .ok (.aload_n 0, 1) := by decide +kernel
theorem dX7_lamp_79 : decode cX7_lamp 79 = .ok (.iload_n 1, 1) := by decide +kernel
theorem dX7_lamp_80 : decode cX7_lamp 80 = .ok (.iload_n 2, 1) := by decide +kernel
theorem dX7_lamp_81 : decode cX7_lamp 81 = .ok (.invokevirtual 242, 3) := by decide +kernel
theorem dX7_lamp_84 : decode cX7_lamp 84 = .ok (.istore 7, 2) := by decide +kernel
theorem dX7_lamp_86 : decode cX7_lamp 86 = .ok (.iload 7, 2) := by decide +kernel
theorem dX7_lamp_88 : decode cX7_lamp 88 = .ok (.iload 5, 2) := by decide +kernel
theorem dX7_lamp_90 : decode cX7_lamp 90 = .ok (.if_icmp .gt 23, 3) := by decide +kernel
theorem dX7_lamp_93 : decode cX7_lamp 93 = .ok (.iload 7, 2) := by decide +kernel
theorem dX7_lamp_95 : decode cX7_lamp 95 = .ok (.iload 5, 2) := by decide +kernel
theorem dX7_lamp_97 : decode cX7_lamp 97 = .ok (.if_icmp .ne 24, 3) := by decide +kernel
theorem dX7_lamp_100 : decode cX7_lamp 100 = .ok (.iload 6, 2) := by decide +kernel
theorem dX7_lamp_102 : decode cX7_lamp 102 = .ok (.invokestatic 197, 3) := by decide +kernel
theorem dX7_lamp_105 : decode cX7_lamp 105 = .ok (.iload 4, 2) := by decide +kernel
theorem dX7_lamp_107 : decode cX7_lamp 107 = .ok (.invokestatic 197, 3) := by decide +kernel
theorem dX7_lamp_110 : decode cX7_lamp 110 = .ok (.if_icmp .ge 11, 3) := by decide +kernel
theorem dX7_lamp_113 : decode cX7_lamp 113 = .ok (.iload 6, 2) := by decide +kernel
theorem dX7_lamp_115 : decode cX7_lamp 115 = .ok (.istore 4, 2) := by decide +kernel
theorem dX7_lamp_117 : decode cX7_lamp 117 = .ok (.iload 7, 2) := by decide +kernel
theorem dX7_lamp_119 : decode cX7_lamp 119 = .ok (.istore 5, 2) := by decide +kernel
theorem dX7_lamp_121 : decode cX7_lamp 121 = .ok (.iinc 6 1, 3) := by decide +kernel
theorem dX7_lamp_124 : decode cX7_lamp 124 = .ok (.goto (-81), 3) := by decide +kernel
theorem dX7_lamp_127 : decode cX7_lamp 127 = .ok (.iload_n 3, 1) := by decide +kernel
theorem dX7_lamp_128 : decode cX7_lamp 128 = .ok (.ifCond .ne 8, 3) := by decide +kernel
theorem dX7_lamp_131 : decode cX7_lamp 131 = .ok (.iload 5, 2) := by decide +kernel
theorem dX7_lamp_133 : decode cX7_lamp 133 = .ok (.goto 5, 3) := by decide +kernel
theorem dX7_lamp_136 : decode cX7_lamp 136 = .ok (.iload 4, 2) := by decide +kernel
theorem dX7_lamp_138 : decode cX7_lamp 138 = .ok (.ireturn, 1) := by decide +kernel
theorem dX7_caught_0 : decode cX7_caught 0 = .ok (.aload_n 0, 1) := by decide +kernel
theorem dX7_caught_1 : decode cX7_caught 1 = .ok (.iload_n 1, 1) := by decide +kernel
theorem dX7_caught_2 : decode cX7_caught 2 = .ok (.invokevirtual 194, 3) := by decide +kernel
theorem dX7_caught_5 : decode cX7_caught 5 = .ok (.ifCond .eq 22, 3) := by decide +kernel
theorem dX7_caught_8 : decode cX7_caught 8 = .ok (.iload_n 2, 1) := by decide +kernel
theorem dX7_caught_9 : decode cX7_caught 9 = .ok (.i2l, 1) := by decide +kernel
theorem dX7_caught_10 : decode cX7_caught 10 = .ok (.lconst 1, 1) := by decide +kernel
theorem dX7_caught_11 : decode cX7_caught 11 = .ok (.ldc2_w 214, 3) := by decide +kernel
theorem dX7_caught_14 : decode cX7_caught 14 = .ok (.invokestatic 63, 3) := by decide +kernel
theorem dX7_caught_17 : decode cX7_caught 17 = .ok (.ifCond .eq 10, 3) := by decide +kernel
theorem dX7_caught_20 : decode cX7_caught 20 = .ok (.iload_n 3, 1) := by decide +kernel
theorem dX7_caught_21 : decode cX7_caught 21 = .ok (.invokestatic 216, 3) := by decide +kernel
theorem dX7_caught_24 : decode cX7_caught 24 = .ok (.ifCond .ne 6, 3) := by decide +kernel
theorem dX7_caught_27 : decode cX7_caught 27 = .ok (.ldc 73, 2) := by decide +kernel
theorem dX7_caught_29 : decode cX7_caught 29 = .ok (.ireturn, 1) := by decide +kernel
theorem dX7_caught_30 : decode cX7_caught 30 = .ok (.aload_n 0, 1) := by decide +kernel
theorem dX7_caught_31 : decode cX7_caught 31 = .ok (.invokevirtual 219, 3) := by decide +kernel
theorem dX7_caught_34 : decode cX7_caught 34 = .ok (.ldc 158, 2) := by decide +kernel
theorem dX7_caught_36 : decode cX7_caught 36 = .ok (.istore 4, 2) := by decide +kernel
theorem dX7_caught_38 : decode cX7_caught 38 = .ok (.iconst 0, 1) := by decide +kernel
theorem dX7_caught_39 : decode cX7_caught 39 = .ok (.istore 5, 2) := by decide +kernel
theorem dX7_caught_41 : decode cX7_caught 41 = .ok (.iload 5, 2) := by decide +kernel
theorem dX7_caught_43 : decode cX7_caught 43 = .ok (.iconst 1, 1) := by decide +kernel
theorem dX7_caught_44 : decode cX7_caught 44 = .ok (.aload_n 0, 1) := by decide +kernel
theorem dX7_caught_45 : decode cX7_caught 45 = .ok (.getfield 19, 3) := by decide +kernel
theorem dX7_caught_48 : decode cX7_caught 48 = .ok (.iconst 1, 1) := by decide +kernel
theorem dX7_caught_49 : decode cX7_caught 49 = .ok (.iaload, 1) := by decide +kernel
theorem dX7_caught_50 : decode cX7_caught 50 = .ok (.ishl, 1) := by decide +kernel
theorem dX7_caught_51 : decode cX7_caught 51 = .ok (.if_icmp .ge 79, 3) := by decide +kernel
theorem dX7_caught_54 : decode cX7_caught 54 = .ok (.iload 5, 2) := by decide +kernel
theorem dX7_caught_56 : decode cX7_caught 56 = .ok (.aload_n 0, 1) := by decide +kernel
theorem dX7_caught_57 : decode cX7_caught 57 = .ok (.getfield 19, 3) := by decide +kernel
theorem dX7_caught_60 : decode cX7_caught 60 = .ok (.bipush 7, 2) := by decide +kernel
theorem dX7_caught_62 : decode cX7_caught 62 = .ok (.iaload, 1) := by decide +kernel
theorem dX7_caught_63 : decode cX7_caught 63 = .ok (.iand, 1) := by decide +kernel
theorem dX7_caught_64 : decode cX7_caught 64 = .ok (.ifCond .ne 60, 3) := by decide +kernel
theorem dX7_caught_67 : decode cX7_caught 67 = .ok (.iload 4, 2) := by decide +kernel
theorem dX7_caught_69 : decode cX7_caught 69 = .ok (.ifCond .lt 16, 3) := by decide +kernel
theorem dX7_caught_72 : decode cX7_caught 72 = .ok (.iload 5, 2) := by decide +kernel
theorem dX7_caught_74 : decode cX7_caught 74 = .ok (.invokestatic 197, 3) := by decide +kernel
theorem dX7_caught_77 : decode cX7_caught 77 = .ok (.iload 4, 2) := by decide +kernel
theorem dX7_caught_79 : decode cX7_caught 79 = .ok (.invokestatic 197, 3) := by decide +kernel
theorem dX7_caught_82 : decode cX7_caught 82 = .ok (.if_icmp .ge 42, 3) := by decide +kernel
theorem dX7_caught_85 : decode cX7_caught 85 = .ok (.aload_n 0, 1) := by decide +kernel
theorem dX7_caught_86 : decode cX7_caught 86 = .ok (.getfield 19, 3) := by decide +kernel
theorem dX7_caught_89 : decode cX7_caught 89 = .ok (.bipush 7, 2) := by decide +kernel
theorem dX7_caught_91 : decode cX7_caught 91 = .ok (.dup2, 1) := by decide +kernel
theorem dX7_caught_92 : decode cX7_caught 92 = .ok (.iaload, 1) := by decide +kernel
theorem dX7_caught_93 : decode cX7_caught 93 = .ok (.iload 5, 2) := by decide +kernel
theorem dX7_caught_95 : decode cX7_caught 95 = .ok (.ior, 1) := by decide +kernel
theorem dX7_caught_96 : decode cX7_caught 96 = .ok (.iastore, 1) := by decide +kernel
theorem dX7_caught_97 : decode cX7_caught 97 = .ok (.aload_n 0, 1) := by decide +kernel
theorem dX7_caught_98 : decode cX7_caught 98 = .ok (.iload_n 1, 1) := by decide +kernel
theorem dX7_caught_99 : decode cX7_caught 99 = .ok (.iload_n 2, 1) := by decide +kernel
theorem dX7_caught_100 : decode cX7_caught 100 = .ok (.invokevirtual 242, 3) := by decide +kernel
theorem dX7_caught_103 : decode cX7_caught 103 = .ok (.aload_n 0, 1) := by decide +kernel
theorem dX7_caught_104 : decode cX7_caught 104 = .ok (.getfield 37, 3) := by decide +kernel
theorem dX7_caught_107 : decode cX7_caught 107 = .ok (.bipush 8, 2) := by decide +kernel
theorem dX7_caught_109 : decode cX7_caught 109 = .ok (.iload_n 1, 1) := by decide +kernel
theorem dX7_caught_110 : decode cX7_caught 110 = .ok (.iadd, 1) := by decide +kernel
theorem dX7_caught_111 : decode cX7_caught 111 = .ok (.iaload, 1) := by decide +kernel
theorem dX7_caught_112 : decode cX7_caught 112 = .ok (.if_icmp .ne 8, 3) := by decide +kernel
theorem dX7_caught_115 : decode cX7_caught 115 = .ok (.iload 5, 2) := by decide +kernel
theorem dX7_caught_117 : decode cX7_caught 117 = .ok (.goto 5, 3) := by decide +kernel
theorem dX7_caught_120 : decode cX7_caught 120 = .ok (.iload 4, 2) := by decide +kernel
theorem dX7_caught_122 : decode cX7_caught 122 = .ok (.istore 4, 2) := by decide +kernel
theorem dX7_caught_124 : decode cX7_caught 124 = .ok (.iinc 5 1, 3) := by decide +kernel
theorem dX7_caught_127 : decode cX7_caught 127 = .ok (.goto (-86), 3) := by decide +kernel
theorem dX7_caught_130 : decode cX7_caught 130 = .ok (.iload_n 3, 1) := by decide +kernel
theorem dX7_caught_131 : decode cX7_caught 131 = .ok (.ifCond .ne 11, 3) := by decide +kernel
theorem dX7_caught_134 : decode cX7_caught 134 = .ok (.iload 4, 2) := by decide +kernel
theorem dX7_caught_136 : decode cX7_caught 136 = .ok (.invokestatic 197, 3) := by decide +kernel
theorem dX7_caught_139 : decode cX7_caught 139 = .ok (.goto 5, 3) := by decide +kernel
theorem dX7_caught_142 : decode cX7_caught 142 = .ok (.iload 4, 2) := by decide +kernel
theorem dX7_caught_144 : decode cX7_caught 144 = .ok (.ireturn, 1) := by decide +kernel
theorem dX7_dustOf_0 : decode cX7_dustOf 0 = .ok (.aload_n 0, 1) := by decide +kernel
theorem dX7_dustOf_1 : decode cX7_dustOf 1 = .ok (.iload_n 1, 1) := by decide +kernel
theorem dX7_dustOf_2 : decode cX7_dustOf 2 = .ok (.invokevirtual 171, 3) := by decide +kernel
theorem dX7_dustOf_5 : decode cX7_dustOf 5 = .ok (.ifCond .eq 7, 3) := by decide +kernel
theorem dX7_dustOf_8 : decode cX7_dustOf 8 = .ok (.iconst 0, 1) := by decide +kernel
theorem dX7_dustOf_9 : decode cX7_dustOf 9 = .ok (.goto 12, 3) := by decide +kernel
theorem dX7_dustOf_12 : decode cX7_dustOf 12 = .ok (.aload_n 0, 1) := by decide +kernel
theorem dX7_dustOf_13 : decode cX7_dustOf 13 = .ok (.getfield 19, 3) := by decide +kernel
theorem dX7_dustOf_16 : decode cX7_dustOf 16 = .ok (.bipush 36, 2) := by decide +kernel
theorem dX7_dustOf_18 : decode cX7_dustOf 18 = .ok (.iload_n 1, 1) := by decide +kernel
theorem dX7_dustOf_19 : decode cX7_dustOf 19 = .ok (.iadd, 1) := by decide +kernel
theorem dX7_dustOf_20 : decode cX7_dustOf 20 = .ok (.iaload, 1) := by decide +kernel
theorem dX7_dustOf_21 : decode cX7_dustOf 21 = .ok (.ireturn, 1) := by decide +kernel
theorem dX7_grams_0 : decode cX7_grams 0 = .ok (.aload_n 0, 1) := by decide +kernel
theorem dX7_grams_1 : decode cX7_grams 1 = .ok (.iload_n 1, 1) := by decide +kernel
theorem dX7_grams_2 : decode cX7_grams 2 = .ok (.invokevirtual 200, 3) := by decide +kernel
theorem dX7_grams_5 : decode cX7_grams 5 = .ok (.ifCond .eq 15, 3) := by decide +kernel
theorem dX7_grams_8 : decode cX7_grams 8 = .ok (.iload_n 2, 1) := by decide +kernel
theorem dX7_grams_9 : decode cX7_grams 9 = .ok (.i2l, 1) := by decide +kernel
theorem dX7_grams_10 : decode cX7_grams 10 = .ok (.lconst 0, 1) := by decide +kernel
theorem dX7_grams_11 : decode cX7_grams 11 = .ok (.ldc2_w 245, 3) := by decide +kernel
theorem dX7_grams_14 : decode cX7_grams 14 = .ok (.invokestatic 63, 3) := by decide +kernel
theorem dX7_grams_17 : decode cX7_grams 17 = .ok (.ifCond .ne 6, 3) := by decide +kernel
theorem dX7_grams_20 : decode cX7_grams 20 = .ok (.ldc 73, 2) := by decide +kernel
theorem dX7_grams_22 : decode cX7_grams 22 = .ok (.ireturn, 1) := by decide +kernel
theorem dX7_grams_23 : decode cX7_grams 23 = .ok (.iconst 0, 1) := by decide +kernel
theorem dX7_grams_24 : decode cX7_grams 24 = .ok (.istore_n 3, 1) := by decide +kernel
theorem dX7_grams_25 : decode cX7_grams 25 = .ok (.iconst 0, 1) := by decide +kernel
theorem dX7_grams_26 : decode cX7_grams 26 = .ok (.istore 4, 2) := by decide +kernel
theorem dX7_grams_28 : decode cX7_grams 28 = .ok (.iload 4, 2) := by decide +kernel
theorem dX7_grams_30 : decode cX7_grams 30 = .ok (.aload_n 0, 1) := by decide +kernel
theorem dX7_grams_31 : decode cX7_grams 31 = .ok (.getfield 19, 3) := by decide +kernel
theorem dX7_grams_34 : decode cX7_grams 34 = .ok (.iconst 1, 1) := by decide +kernel
theorem dX7_grams_35 : decode cX7_grams 35 = .ok (.iaload, 1) := by decide +kernel
theorem dX7_grams_36 : decode cX7_grams 36 = .ok (.if_icmp .ge 18, 3) := by decide +kernel
theorem dX7_grams_39 : decode cX7_grams 39 = .ok (.iload_n 3, 1) := by decide +kernel
theorem dX7_grams_40 : decode cX7_grams 40 = .ok (.aload_n 0, 1) := by decide +kernel
theorem dX7_grams_41 : decode cX7_grams 41 = .ok (.iload 4, 2) := by decide +kernel
theorem dX7_grams_43 : decode cX7_grams 43 = .ok (.invokevirtual 247, 3) := by decide +kernel
theorem dX7_grams_46 : decode cX7_grams 46 = .ok (.iadd, 1) := by decide +kernel
theorem dX7_grams_47 : decode cX7_grams 47 = .ok (.istore_n 3, 1) := by decide +kernel
theorem dX7_grams_48 : decode cX7_grams 48 = .ok (.iinc 4 1, 3) := by decide +kernel
theorem dX7_grams_51 : decode cX7_grams 51 = .ok (.goto (-23), 3) := by decide +kernel
theorem dX7_grams_54 : decode cX7_grams 54 = .ok (.iload_n 3, 1) := by decide +kernel
theorem dX7_grams_55 : decode cX7_grams 55 = .ok (.ifCond .ne 5, 3) := by decide +kernel
theorem dX7_grams_58 : decode cX7_grams 58 = .ok (.iconst 0, 1) := by decide +kernel
theorem dX7_grams_59 : decode cX7_grams 59 = .ok (.ireturn, 1) := by decide +kernel
theorem dX7_grams_60 : decode cX7_grams 60 = .ok (.iload_n 2, 1) := by decide +kernel
theorem dX7_grams_61 : decode cX7_grams 61 = .ok (.istore 4, 2) := by decide +kernel
theorem dX7_grams_63 : decode cX7_grams 63 = .ok (.iconst 0, 1) := by decide +kernel
theorem dX7_grams_64 : decode cX7_grams 64 = .ok (.istore 5, 2) := by decide +kernel
theorem dX7_grams_66 : decode cX7_grams 66 = .ok (.iload 5, 2) := by decide +kernel
theorem dX7_grams_68 : decode cX7_grams 68 = .ok (.aload_n 0, 1) := by decide +kernel
theorem dX7_grams_69 : decode cX7_grams 69 = .ok (.getfield 19, 3) := by decide +kernel
theorem dX7_grams_72 : decode cX7_grams 72 = .ok (.iconst 1, 1) := by decide +kernel
theorem dX7_grams_73 : decode cX7_grams 73 = .ok (.iaload, 1) := by decide +kernel
theorem dX7_grams_74 : decode cX7_grams 74 = .ok (.if_icmp .ge 24, 3) := by decide +kernel
theorem dX7_grams_77 : decode cX7_grams 77 = .ok (.iload 4, 2) := by decide +kernel
theorem dX7_grams_79 : decode cX7_grams 79 = .ok (.iload_n 2, 1) := by decide +kernel
theorem dX7_grams_80 : decode cX7_grams 80 = .ok (.aload_n 0, 1) := by decide +kernel
theorem dX7_grams_81 : decode cX7_grams 81 = .ok (.iload 5, 2) := by decide +kernel
theorem dX7_grams_83 : decode cX7_grams 83 = .ok (.invokevirtual 247, 3) := by decide +kernel
theorem dX7_grams_86 : decode cX7_grams 86 = .ok (.imul, 1) := by decide +kernel
theorem dX7_grams_87 : decode cX7_grams 87 = .ok (.iload_n 3, 1) := by decide +kernel
theorem dX7_grams_88 : decode cX7_grams 88 = .ok (.idiv, 1) := by decide +kernel
theorem dX7_grams_89 : decode cX7_grams 89 = .ok (.isub, 1) := by decide +kernel
theorem dX7_grams_90 : decode cX7_grams 90 = .ok (.istore 4, 2) := by decide +kernel
theorem dX7_grams_92 : decode cX7_grams 92 = .ok (.iinc 5 1, 3) := by decide +kernel
theorem dX7_grams_95 : decode cX7_grams 95 = .ok (.goto (-29), 3) := by decide +kernel
theorem dX7_grams_98 : decode cX7_grams 98 = .ok (.iconst 0, 1) := by decide +kernel
theorem dX7_grams_99 : decode cX7_grams 99 = .ok (.istore 5, 2) := by decide +kernel
theorem dX7_grams_101 : decode cX7_grams 101 = .ok (.iconst 0, 1) := by decide +kernel
theorem dX7_grams_102 : decode cX7_grams 102 = .ok (.istore 6, 2) := by decide +kernel
theorem dX7_grams_104 : decode cX7_grams 104 = .ok (.iload 6, 2) := by decide +kernel
theorem dX7_grams_106 : decode cX7_grams 106 = .ok (.iload_n 1, 1) := by decide +kernel
theorem dX7_grams_107 : decode cX7_grams 107 = .ok (.if_icmp .ge 28, 3) := by decide +kernel
theorem dX7_grams_110 : decode cX7_grams 110 = .ok (.iload 5, 2) := by decide +kernel
theorem dX7_grams_112 : decode cX7_grams 112 = .ok (.aload_n 0, 1) := by decide +kernel
theorem dX7_grams_113 : decode cX7_grams 113 = .ok (.iload 6, 2) := by decide +kernel
theorem dX7_grams_115 : decode cX7_grams 115 = .ok (.invokevirtual 247, 3) := by decide +kernel
theorem dX7_grams_118 : decode cX7_grams 118 = .ok (.ifCond .le 7, 3) := by decide +kernel
theorem dX7_grams_121 : decode cX7_grams 121 = .ok (.iconst 1, 1) := by decide +kernel
theorem dX7_grams_122 : decode cX7_grams 122 = .ok (.goto 4, 3) := by decide +kernel
theorem dX7_grams_125 : decode cX7_grams 125 = .ok (.iconst 0, 1) := by decide +kernel
theorem dX7_grams_126 : decode cX7_grams 126 = .ok (.iadd, 1) := by decide +kernel
theorem dX7_grams_127 : decode cX7_grams 127 = .ok (.istore 5, 2) := by decide +kernel
theorem dX7_grams_129 : decode cX7_grams 129 = .ok (.iinc 6 1, 3) := by decide +kernel
theorem dX7_grams_132 : decode cX7_grams 132 = .ok (.goto (-28), 3) := by decide +kernel
theorem dX7_grams_135 : decode cX7_grams 135 = .ok (.iload_n 2, 1) := by decide +kernel
theorem dX7_grams_136 : decode cX7_grams 136 = .ok (.aload_n 0, 1) := by decide +kernel
theorem dX7_grams_137 : decode cX7_grams 137 = .ok (.iload_n 1, 1) := by decide +kernel
theorem dX7_grams_138 : decode cX7_grams 138 = .ok (.invokevirtual 247, 3) := by decide +kernel
theorem dX7_grams_141 : decode cX7_grams 141 = .ok (.imul, 1) := by decide +kernel
theorem dX7_grams_142 : decode cX7_grams 142 = .ok (.iload_n 3, 1) := by decide +kernel
theorem dX7_grams_143 : decode cX7_grams 143 = .ok (.idiv, 1) := by decide +kernel
theorem dX7_grams_144 : decode cX7_grams 144 = .ok (.aload_n 0, 1) := by decide +kernel
theorem dX7_grams_145 : decode cX7_grams 145 = .ok (.iload_n 1, 1) := by decide +kernel
theorem dX7_grams_146 : decode cX7_grams 146 = .ok (.invokevirtual 247, 3) := by decide +kernel
theorem dX7_grams_149 : decode cX7_grams 149 = .ok (.ifCond .le 14, 3) := by decide +kernel
theorem dX7_grams_152 : decode cX7_grams 152 = .ok (.iload 5, 2) := by decide +kernel
theorem dX7_grams_154 : decode cX7_grams 154 = .ok (.iload 4, 2) := by decide +kernel
theorem dX7_grams_156 : decode cX7_grams 156 = .ok (.if_icmp .ge 7, 3) := by decide +kernel
theorem dX7_grams_159 : decode cX7_grams 159 = .ok (.iconst 1, 1) := by decide +kernel
theorem dX7_grams_160 : decode cX7_grams 160 = .ok (.goto 4, 3) := by decide +kernel
theorem dX7_grams_163 : decode cX7_grams 163 = .ok (.iconst 0, 1) := by decide +kernel
theorem dX7_grams_164 : decode cX7_grams 164 = .ok (.iadd, 1) := by decide +kernel
theorem dX7_grams_165 : decode cX7_grams 165 = .ok (.ireturn, 1) := by decide +kernel
theorem dX7_lacks_0 : decode cX7_lacks 0 = .ok (.aload_n 0, 1) := by decide +kernel
theorem dX7_lacks_1 : decode cX7_lacks 1 = .ok (.getfield 13, 3) := by decide +kernel
theorem dX7_lacks_4 : decode cX7_lacks 4 = .ok (.iload_n 1, 1) := by decide +kernel
theorem dX7_lacks_5 : decode cX7_lacks 5 = .ok (.iaload, 1) := by decide +kernel
theorem dX7_lacks_6 : decode cX7_lacks 6 = .ok (.ifCond .ge 9, 3) := by decide +kernel
theorem dX7_lacks_9 : decode cX7_lacks 9 = .ok (.aload_n 0, 1) := by decide +kernel
theorem dX7_lacks_10 : decode cX7_lacks 10 = .ok (.iconst 1, 1) := by decide +kernel
theorem dX7_lacks_11 : decode cX7_lacks 11 = .ok (.invokevirtual 74, 3) := by decide +kernel
theorem dX7_lacks_14 : decode cX7_lacks 14 = .ok (.ireturn, 1) := by decide +kernel
theorem dX7_lacks_15 : decode cX7_lacks 15 = .ok (.iload_n 2, 1) := by decide +kernel
theorem dX7_lacks_16 : decode cX7_lacks 16 = .ok (.i2l, 1) := by decide +kernel
theorem dX7_lacks_17 : decode cX7_lacks 17 = .ok (.lconst 0, 1) := by decide +kernel
theorem dX7_lacks_18 : decode cX7_lacks 18 = .ok (.aload_n 0, 1) := by decide +kernel
theorem dX7_lacks_19 : decode cX7_lacks 19 = .ok (.getfield 13, 3) := by decide +kernel
theorem dX7_lacks_22 : decode cX7_lacks 22 = .ok (.iload_n 1, 1) := by decide +kernel
theorem dX7_lacks_23 : decode cX7_lacks 23 = .ok (.iaload, 1) := by decide +kernel
theorem dX7_lacks_24 : decode cX7_lacks 24 = .ok (.iload_n 3, 1) := by decide +kernel
theorem dX7_lacks_25 : decode cX7_lacks 25 = .ok (.isub, 1) := by decide +kernel
theorem dX7_lacks_26 : decode cX7_lacks 26 = .ok (.i2l, 1) := by decide +kernel
theorem dX7_lacks_27 : decode cX7_lacks 27 = .ok (.invokestatic 63, 3) := by decide +kernel
theorem dX7_lacks_30 : decode cX7_lacks 30 = .ok (.ifCond .eq 7, 3) := by decide +kernel
theorem dX7_lacks_33 : decode cX7_lacks 33 = .ok (.iconst 0, 1) := by decide +kernel
theorem dX7_lacks_34 : decode cX7_lacks 34 = .ok (.goto 8, 3) := by decide +kernel
theorem dX7_lacks_37 : decode cX7_lacks 37 = .ok (.aload_n 0, 1) := by decide +kernel
theorem dX7_lacks_38 : decode cX7_lacks 38 = .ok (.iconst 2, 1) := by decide +kernel
theorem dX7_lacks_39 : decode cX7_lacks 39 = .ok (.invokevirtual 74, 3) := by decide +kernel
theorem dX7_lacks_42 : decode cX7_lacks 42 = .ok (.ireturn, 1) := by decide +kernel
theorem dX7_isSo_0 : decode cX7_isSo 0 = .ok (.iconst 1, 1) := by decide +kernel
theorem dX7_isSo_1 : decode cX7_isSo 1 = .ok (.istore 4, 2) := by decide +kernel
theorem dX7_isSo_3 : decode cX7_isSo 3 = .ok (.iconst 0, 1) := by decide +kernel
theorem dX7_isSo_4 : decode cX7_isSo 4 = .ok (.istore 5, 2) := by decide +kernel
theorem dX7_isSo_6 : decode cX7_isSo 6 = .ok (.iload 5, 2) := by decide +kernel
theorem dX7_isSo_8 : decode cX7_isSo 8 = .ok (.iload_n 3, 1) := by decide +kernel
theorem dX7_isSo_9 : decode cX7_isSo 9 = .ok (.if_icmp .ge 46, 3) := by decide +kernel
theorem dX7_isSo_12 : decode cX7_isSo 12 = .ok (.aload_n 0, 1) := by decide +kernel
theorem dX7_isSo_13 : decode cX7_isSo 13 = .ok (.invokevirtual 187, 3) := by decide +kernel
theorem dX7_isSo_16 : decode cX7_isSo 16 = .ok (.iload 4, 2) := by decide +kernel
theorem dX7_isSo_18 : decode cX7_isSo 18 = .ok (.ifCond .eq 28, 3) := by decide +kernel
theorem dX7_isSo_21 : decode cX7_isSo 21 = .ok (.aload_n 0, 1) := by decide +kernel
theorem dX7_isSo_22 : decode cX7_isSo 22 = .ok (.getfield 16, 3) := by decide +kernel
theorem dX7_isSo_25 : decode cX7_isSo 25 = .ok (.iload_n 2, 1) := by decide +kernel
theorem dX7_isSo_26 : decode cX7_isSo 26 = .ok (.iload 5, 2) := by decide +kernel
theorem dX7_isSo_28 : decode cX7_isSo 28 = .ok (.iadd, 1) := by decide +kernel
theorem dX7_isSo_29 : decode cX7_isSo 29 = .ok (.iaload, 1) := by decide +kernel
theorem dX7_isSo_30 : decode cX7_isSo 30 = .ok (.aload_n 0, 1) := by decide +kernel
theorem dX7_isSo_31 : decode cX7_isSo 31 = .ok (.getfield 19, 3) := by decide +kernel
theorem dX7_isSo_34 : decode cX7_isSo 34 = .ok (.bipush 8, 2) := by decide +kernel
theorem dX7_isSo_36 : decode cX7_isSo 36 = .ok (.iload_n 1, 1) := by decide +kernel
theorem dX7_isSo_37 : decode cX7_isSo 37 = .ok (.iadd, 1) := by decide +kernel
theorem dX7_isSo_38 : decode cX7_isSo 38 = .ok (.iaload, 1) := by decide +kernel
theorem dX7_isSo_39 : decode cX7_isSo 39 = .ok (.if_icmp .ne 7, 3) := by decide +kernel
theorem dX7_isSo_42 : decode cX7_isSo 42 = .ok (.iconst 1, 1) := by decide +kernel
theorem dX7_isSo_43 : decode cX7_isSo 43 = .ok (.goto 4, 3) := by decide +kernel
theorem dX7_isSo_46 : decode cX7_isSo 46 = .ok (.iconst 0, 1) := by decide +kernel
theorem dX7_isSo_47 : decode cX7_isSo 47 = .ok (.istore 4, 2) := by decide +kernel
theorem dX7_isSo_49 : decode cX7_isSo 49 = .ok (.iinc 5 1, 3) := by decide +kernel
theorem dX7_isSo_52 : decode cX7_isSo 52 = .ok (.goto (-46), 3) := by decide +kernel
theorem dX7_isSo_55 : decode cX7_isSo 55 = .ok (.aload_n 0, 1) := by decide +kernel
theorem dX7_isSo_56 : decode cX7_isSo 56 = .ok (.invokevirtual 211, 3) := by decide +kernel
theorem dX7_isSo_59 : decode cX7_isSo 59 = .ok (.iload 4, 2) := by decide +kernel
theorem dX7_isSo_61 : decode cX7_isSo 61 = .ok (.ireturn, 1) := by decide +kernel
theorem dX7_fits_0 : decode cX7_fits 0 = .ok (.aload_n 0, 1) := by decide +kernel
theorem dX7_fits_1 : decode cX7_fits 1 = .ok (.invokevirtual 219, 3) := by decide +kernel
theorem dX7_fits_4 : decode cX7_fits 4 = .ok (.iconst 0, 1) := by decide +kernel
theorem dX7_fits_5 : decode cX7_fits 5 = .ok (.istore 7, 2) := by decide +kernel
theorem dX7_fits_7 : decode cX7_fits 7 = .ok (.iload_n 2, 1) := by decide +kernel
theorem dX7_fits_8 : decode cX7_fits 8 = .ok (.istore 8, 2) := by decide +kernel
theorem dX7_fits_10 : decode cX7_fits 10 = .ok (.iload 8, 2) := by decide +kernel
theorem dX7_fits_12 : decode cX7_fits 12 = .ok (.iload_n 3, 1) := by decide +kernel
theorem dX7_fits_13 : decode cX7_fits 13 = .ok (.if_icmp .gt 43, 3) := by decide +kernel
theorem dX7_fits_16 : decode cX7_fits 16 = .ok (.aload_n 0, 1) := by decide +kernel
theorem dX7_fits_17 : decode cX7_fits 17 = .ok (.getfield 19, 3) := by decide +kernel
theorem dX7_fits_20 : decode cX7_fits 20 = .ok (.iload_n 1, 1) := by decide +kernel
theorem dX7_fits_21 : decode cX7_fits 21 = .ok (.iload 8, 2) := by decide +kernel
theorem dX7_fits_23 : decode cX7_fits 23 = .ok (.iastore, 1) := by decide +kernel
theorem dX7_fits_24 : decode cX7_fits 24 = .ok (.iload 7, 2) := by decide +kernel
theorem dX7_fits_26 : decode cX7_fits 26 = .ok (.aload_n 0, 1) := by decide +kernel
theorem dX7_fits_27 : decode cX7_fits 27 = .ok (.iload 4, 2) := by decide +kernel
theorem dX7_fits_29 : decode cX7_fits 29 = .ok (.iload 5, 2) := by decide +kernel
theorem dX7_fits_31 : decode cX7_fits 31 = .ok (.iload 6, 2) := by decide +kernel
theorem dX7_fits_33 : decode cX7_fits 33 = .ok (.invokevirtual 250, 3) := by decide +kernel
theorem dX7_fits_36 : decode cX7_fits 36 = .ok (.ifCond .eq 10, 3) := by decide +kernel
theorem dX7_fits_39 : decode cX7_fits 39 = .ok (.iconst 1, 1) := by decide +kernel
theorem dX7_fits_40 : decode cX7_fits 40 = .ok (.iload 8, 2) := by decide +kernel
theorem dX7_fits_42 : decode cX7_fits 42 = .ok (.ishl, 1) := by decide +kernel
theorem dX7_fits_43 : decode cX7_fits 43 = .ok (.goto 4, 3) := by decide +kernel
theorem dX7_fits_46 : decode cX7_fits 46 = .ok (.iconst 0, 1) := by decide +kernel
theorem dX7_fits_47 : decode cX7_fits 47 = .ok (.ior, 1) := by decide +kernel
theorem dX7_fits_48 : decode cX7_fits 48 = .ok (.istore 7, 2) := by decide +kernel
theorem dX7_fits_50 : decode cX7_fits 50 = .ok (.iinc 8 1, 3) := by decide +kernel
theorem dX7_fits_53 : decode cX7_fits 53 = .ok (.goto (-43), 3) := by decide +kernel
theorem dX7_fits_56 : decode cX7_fits 56 = .ok (.aload_n 0, 1) := by decide +kernel
theorem dX7_fits_57 : decode cX7_fits 57 = .ok (.iload 7, 2) := by decide +kernel
theorem dX7_fits_59 : decode cX7_fits 59 = .ok (.invokevirtual 78, 3) := by decide +kernel
theorem dX7_fits_62 : decode cX7_fits 62 = .ok (.ireturn, 1) := by decide +kernel
theorem dX7_who_0 : decode cX7_who 0 = .ok (.aload_n 0, 1) := by decide +kernel
theorem dX7_who_1 : decode cX7_who 1 = .ok (.iload_n 1, 1) := by decide +kernel
theorem dX7_who_2 : decode cX7_who 2 = .ok (.invokevirtual 200, 3) := by decide +kernel
theorem dX7_who_5 : decode cX7_who 5 = .ok (.ifCond .eq 42, 3) := by decide +kernel
theorem dX7_who_8 : decode cX7_who 8 = .ok (.iload_n 2, 1) := by decide +kernel
theorem dX7_who_9 : decode cX7_who 9 = .ok (.i2l, 1) := by decide +kernel
theorem dX7_who_10 : decode cX7_who 10 = .ok (.lconst 0, 1) := by decide +kernel
theorem dX7_who_11 : decode cX7_who 11 = .ok (.lconst 1, 1) := by decide +kernel
theorem dX7_who_12 : decode cX7_who 12 = .ok (.invokestatic 63, 3) := by decide +kernel
theorem dX7_who_15 : decode cX7_who 15 = .ok (.ifCond .eq 32, 3) := by decide +kernel
theorem dX7_who_18 : decode cX7_who 18 = .ok (.aload_n 0, 1) := by decide +kernel
theorem dX7_who_19 : decode cX7_who 19 = .ok (.iload_n 3, 1) := by decide +kernel
theorem dX7_who_20 : decode cX7_who 20 = .ok (.invokevirtual 194, 3) := by decide +kernel
theorem dX7_who_23 : decode cX7_who 23 = .ok (.ifCond .eq 24, 3) := by decide +kernel
theorem dX7_who_26 : decode cX7_who 26 = .ok (.iload 4, 2) := by decide +kernel
theorem dX7_who_28 : decode cX7_who 28 = .ok (.invokestatic 67, 3) := by decide +kernel
theorem dX7_who_31 : decode cX7_who 31 = .ok (.ifCond .eq 16, 3) := by decide +kernel
theorem dX7_who_34 : decode cX7_who 34 = .ok (.iload 6, 2) := by decide +kernel
theorem dX7_who_36 : decode cX7_who 36 = .ok (.i2l, 1) := by decide +kernel
theorem dX7_who_37 : decode cX7_who 37 = .ok (.lconst 1, 1) := by decide +kernel
theorem dX7_who_38 : decode cX7_who 38 = .ok (.ldc2_w 232, 3) := by decide +kernel
theorem dX7_who_41 : decode cX7_who 41 = .ok (.invokestatic 63, 3) := by decide +kernel
theorem dX7_who_44 : decode cX7_who 44 = .ok (.ifCond .ne 6, 3) := by decide +kernel
theorem dX7_who_47 : decode cX7_who 47 = .ok (.ldc 73, 2) := by decide +kernel
theorem dX7_who_49 : decode cX7_who 49 = .ok (.ireturn, 1) := by decide +kernel
theorem dX7_who_50 : decode cX7_who 50 = .ok (.aload_n 0, 1) := by decide +kernel
theorem dX7_who_51 : decode cX7_who 51 = .ok (.iload_n 1, 1) := by decide +kernel
theorem dX7_who_52 : decode cX7_who 52 = .ok (.invokevirtual 171, 3) := by decide +kernel
theorem dX7_who_55 : decode cX7_who 55 = .ok (.ifCond .eq 8, 3) := by decide +kernel
theorem dX7_who_58 : decode cX7_who 58 = .ok (.ldc 181, 2) := by decide +kernel
theorem dX7_who_60 : decode cX7_who 60 = .ok (.goto 13, 3) := by decide +kernel
theorem dX7_who_63 : decode cX7_who 63 = .ok (.aload_n 0, 1) := by decide +kernel
theorem dX7_who_64 : decode cX7_who 64 = .ok (.iload 4, 2) := by decide +kernel
theorem dX7_who_66 : decode cX7_who 66 = .ok (.iload 5, 2) := by decide +kernel
theorem dX7_who_68 : decode cX7_who 68 = .ok (.iload 6, 2) := by decide +kernel
theorem dX7_who_70 : decode cX7_who 70 = .ok (.invokevirtual 254, 3) := by decide +kernel
theorem dX7_who_73 : decode cX7_who 73 = .ok (.istore 7, 2) := by decide +kernel
theorem dX7_who_75 : decode cX7_who 75 = .ok (.iload 7, 2) := by decide +kernel
theorem dX7_who_77 : decode cX7_who 77 = .ok (.ifCond .ge 6, 3) := by decide +kernel
theorem dX7_who_80 : decode cX7_who 80 = .ok (.iload 7, 2) := by decide +kernel
theorem dX7_who_82 : decode cX7_who 82 = .ok (.ireturn, 1) := by decide +kernel
theorem dX7_who_83 : decode cX7_who 83 = .ok (.iload_n 2, 1) := by decide +kernel
theorem dX7_who_84 : decode cX7_who 84 = .ok (.ifCond .ne 27, 3) := by decide +kernel
theorem dX7_who_87 : decode cX7_who 87 = .ok (.aload_n 0, 1) := by decide +kernel
theorem dX7_who_88 : decode cX7_who 88 = .ok (.bipush 26, 2) := by decide +kernel
theorem dX7_who_90 : decode cX7_who 90 = .ok (.iload_n 1, 1) := by decide +kernel
theorem dX7_who_91 : decode cX7_who 91 = .ok (.iadd, 1) := by decide +kernel
theorem dX7_who_92 : decode cX7_who 92 = .ok (.iconst 1, 1) := by decide +kernel
theorem dX7_who_93 : decode cX7_who 93 = .ok (.iconst 5, 1) := by decide +kernel
theorem dX7_who_94 : decode cX7_who 94 = .ok (.iload_n 3, 1) := by decide +kernel
theorem dX7_who_95 : decode cX7_who 95 = .ok (.bipush 40, 2) := by decide +kernel
theorem dX7_who_97 : decode cX7_who 97 = .ok (.iload 4, 2) := by decide +kernel
theorem dX7_who_99 : decode cX7_who 99 = .ok (.imul, 1) := by decide +kernel
theorem dX7_who_100 : decode cX7_who 100 = .ok (.iload 5, 2) := by decide +kernel
theorem dX7_who_102 : decode cX7_who 102 = .ok (.iadd, 1) := by decide +kernel
theorem dX7_who_103 : decode cX7_who 103 = .ok (.iload 6, 2) := by decide +kernel
theorem dX7_who_105 : decode cX7_who 105 = .ok (.invokevirtual 258, 3) := by decide +kernel
theorem dX7_who_108 : decode cX7_who 108 = .ok (.goto 31, 3) := by decide +kernel
theorem dX7_who_111 : decode cX7_who 111 = .ok (.aload_n 0, 1) := by decide +kernel
theorem dX7_who_112 : decode cX7_who 112 = .ok (.bipush 31, 2) := by decide +kernel
theorem dX7_who_114 : decode cX7_who 114 = .ok (.iload_n 1, 1) := by decide +kernel
theorem dX7_who_115 : decode cX7_who 115 = .ok (.iadd, 1) := by decide +kernel
theorem dX7_who_116 : decode cX7_who 116 = .ok (.iconst 0, 1) := by decide +kernel
theorem dX7_who_117 : decode cX7_who 117 = .ok (.aload_n 0, 1) := by decide +kernel
theorem dX7_who_118 : decode cX7_who 118 = .ok (.getfield 19, 3) := by decide +kernel
theorem dX7_who_121 : decode cX7_who 121 = .ok (.iconst 0, 1) := by decide +kernel
theorem dX7_who_122 : decode cX7_who 122 = .ok (.iaload, 1) := by decide +kernel
theorem dX7_who_123 : decode cX7_who 123 = .ok (.iconst 1, 1) := by decide +kernel
theorem dX7_who_124 : decode cX7_who 124 = .ok (.isub, 1) := by decide +kernel
theorem dX7_who_125 : decode cX7_who 125 = .ok (.iload_n 3, 1) := by decide +kernel
theorem dX7_who_126 : decode cX7_who 126 = .ok (.bipush 40, 2) := by decide +kernel
theorem dX7_who_128 : decode cX7_who 128 = .ok (.iload 4, 2) := by decide +kernel
theorem dX7_who_130 : decode cX7_who 130 = .ok (.imul, 1) := by decide +kernel
theorem dX7_who_131 : decode cX7_who 131 = .ok (.iload 5, 2) := by decide +kernel
theorem dX7_who_133 : decode cX7_who 133 = .ok (.iadd, 1) := by decide +kernel
theorem dX7_who_134 : decode cX7_who 134 = .ok (.iload 6, 2) := by decide +kernel
theorem dX7_who_136 : decode cX7_who 136 = .ok (.invokevirtual 258, 3) := by decide +kernel
theorem dX7_who_139 : decode cX7_who 139 = .ok (.ireturn, 1) := by decide +kernel
theorem dX7_paste_0 : decode cX7_paste 0 = .ok (.aload_n 0, 1) := by decide +kernel
theorem dX7_paste_1 : decode cX7_paste 1 = .ok (.iload_n 1, 1) := by decide +kernel
theorem dX7_paste_2 : decode cX7_paste 2 = .ok (.invokevirtual 194, 3) := by decide +kernel
theorem dX7_paste_5 : decode cX7_paste 5 = .ok (.ifCond .eq 31, 3) := by decide +kernel
theorem dX7_paste_8 : decode cX7_paste 8 = .ok (.aload_n 0, 1) := by decide +kernel
theorem dX7_paste_9 : decode cX7_paste 9 = .ok (.iload_n 2, 1) := by decide +kernel
theorem dX7_paste_10 : decode cX7_paste 10 = .ok (.invokevirtual 194, 3) := by decide +kernel
theorem dX7_paste_13 : decode cX7_paste 13 = .ok (.ifCond .eq 23, 3) := by decide +kernel
theorem dX7_paste_16 : decode cX7_paste 16 = .ok (.iload_n 3, 1) := by decide +kernel
theorem dX7_paste_17 : decode cX7_paste 17 = .ok (.invokestatic 67, 3) := by decide +kernel
theorem dX7_paste_20 : decode cX7_paste 20 = .ok (.ifCond .eq 16, 3) := by decide +kernel
theorem dX7_paste_23 : decode cX7_paste 23 = .ok (.iload 5, 2) := by decide +kernel
theorem dX7_paste_25 : decode cX7_paste 25 = .ok (.i2l, 1) := by decide +kernel
theorem dX7_paste_26 : decode cX7_paste 26 = .ok (.lconst 1, 1) := by decide +kernel
theorem dX7_paste_27 : decode cX7_paste 27 = .ok (.ldc2_w 232, 3) := by decide +kernel
theorem dX7_paste_30 : decode cX7_paste 30 = .ok (.invokestatic 63, 3) := by decide +kernel
theorem dX7_paste_33 : decode cX7_paste 33 = .ok (.ifCond .ne 8, 3) := by decide +kernel
theorem dX7_paste_36 : decode cX7_paste 36 = .ok (.ldc 73, 2) := by decide +kernel
theorem dX7_paste_38 : decode cX7_paste 38 = .ok (.goto 12, 3) := by decide +kernel
theorem dX7_paste_41 : decode cX7_paste 41 = .ok (.aload_n 0, 1) := by decide +kernel
theorem dX7_paste_42 : decode cX7_paste 42 = .ok (.iload_n 3, 1) := by decide +kernel
theorem dX7_paste_43 : decode cX7_paste 43 = .ok (.iload 4, 2) := by decide +kernel
theorem dX7_paste_45 : decode cX7_paste 45 = .ok (.iload 5, 2) := by decide +kernel
theorem dX7_paste_47 : decode cX7_paste 47 = .ok (.invokevirtual 254, 3) := by decide +kernel
theorem dX7_paste_50 : decode cX7_paste 50 = .ok (.istore 6, 2) := by decide +kernel
theorem dX7_paste_52 : decode cX7_paste 52 = .ok (.iload 6, 2) := by decide +kernel
theorem dX7_paste_54 : decode cX7_paste 54 = .ok (.ifCond .ge 8, 3) := by decide +kernel
theorem dX7_paste_57 : decode cX7_paste 57 = .ok (.iload 6, 2) := by decide +kernel
theorem dX7_paste_59 : decode cX7_paste 59 = .ok (.goto 24, 3) := by decide +kernel
theorem dX7_paste_62 : decode cX7_paste 62 = .ok (.aload_n 0, 1) := by decide +kernel
theorem dX7_paste_63 : decode cX7_paste 63 = .ok (.bipush 14, 2) := by decide +kernel
theorem dX7_paste_65 : decode cX7_paste 65 = .ok (.iload_n 1, 1) := by decide +kernel
theorem dX7_paste_66 : decode cX7_paste 66 = .ok (.iadd, 1) := by decide +kernel
theorem dX7_paste_67 : decode cX7_paste 67 = .ok (.iconst 0, 1) := by decide +kernel
theorem dX7_paste_68 : decode cX7_paste 68 = .ok (.bipush 9, 2) := by decide +kernel
theorem dX7_paste_70 : decode cX7_paste 70 = .ok (.iload_n 2, 1) := by decide +kernel
theorem dX7_paste_71 : decode cX7_paste 71 = .ok (.bipush 40, 2) := by decide +kernel
theorem dX7_paste_73 : decode cX7_paste 73 = .ok (.iload_n 3, 1) := by decide +kernel
theorem dX7_paste_74 : decode cX7_paste 74 = .ok (.imul, 1) := by decide +kernel
theorem dX7_paste_75 : decode cX7_paste 75 = .ok (.iload 4, 2) := by decide +kernel
theorem dX7_paste_77 : decode cX7_paste 77 = .ok (.iadd, 1) := by decide +kernel
theorem dX7_paste_78 : decode cX7_paste 78 = .ok (.iload 5, 2) := by decide +kernel
theorem dX7_paste_80 : decode cX7_paste 80 = .ok (.invokevirtual 258, 3) := by decide +kernel
theorem dX7_paste_83 : decode cX7_paste 83 = .ok (.ireturn, 1) := by decide +kernel
theorem dX7_hungers_0 : decode cX7_hungers 0 = .ok (.aload_n 0, 1) := by decide +kernel
theorem dX7_hungers_1 : decode cX7_hungers 1 = .ok (.iload_n 1, 1) := by decide +kernel
theorem dX7_hungers_2 : decode cX7_hungers 2 = .ok (.invokevirtual 194, 3) := by decide +kernel
theorem dX7_hungers_5 : decode cX7_hungers 5 = .ok (.ifCond .eq 23, 3) := by decide +kernel
theorem dX7_hungers_8 : decode cX7_hungers 8 = .ok (.iload_n 2, 1) := by decide +kernel
theorem dX7_hungers_9 : decode cX7_hungers 9 = .ok (.invokestatic 67, 3) := by decide +kernel
theorem dX7_hungers_12 : decode cX7_hungers 12 = .ok (.ifCond .eq 16, 3) := by decide +kernel
theorem dX7_hungers_15 : decode cX7_hungers 15 = .ok (.iload 4, 2) := by decide +kernel
theorem dX7_hungers_17 : decode cX7_hungers 17 = .ok (.i2l, 1) := by decide +kernel
theorem dX7_hungers_18 : decode cX7_hungers 18 = .ok (.lconst 1, 1) := by decide +kernel
theorem dX7_hungers_19 : decode cX7_hungers 19 = .ok (.ldc2_w 232, 3) := by decide +kernel
theorem dX7_hungers_22 : decode cX7_hungers 22 = .ok (.invokestatic 63, 3) := by decide +kernel
theorem dX7_hungers_25 : decode cX7_hungers 25 = .ok (.ifCond .ne 8, 3) := by decide +kernel
theorem dX7_hungers_28 : decode cX7_hungers 28 = .ok (.ldc 73, 2) := by decide +kernel
theorem dX7_hungers_30 : decode cX7_hungers 30 = .ok (.goto 11, 3) := by decide +kernel
theorem dX7_hungers_33 : decode cX7_hungers 33 = .ok (.aload_n 0, 1) := by decide +kernel
theorem dX7_hungers_34 : decode cX7_hungers 34 = .ok (.iload_n 2, 1) := by decide +kernel
theorem dX7_hungers_35 : decode cX7_hungers 35 = .ok (.iload_n 3, 1) := by decide +kernel
theorem dX7_hungers_36 : decode cX7_hungers 36 = .ok (.iload 4, 2) := by decide +kernel
theorem dX7_hungers_38 : decode cX7_hungers 38 = .ok (.invokevirtual 254, 3) := by decide +kernel
theorem dX7_hungers_41 : decode cX7_hungers 41 = .ok (.istore 5, 2) := by decide +kernel
theorem dX7_hungers_43 : decode cX7_hungers 43 = .ok (.iload 5, 2) := by decide +kernel
theorem dX7_hungers_45 : decode cX7_hungers 45 = .ok (.ifCond .ge 8, 3) := by decide +kernel
theorem dX7_hungers_48 : decode cX7_hungers 48 = .ok (.iload 5, 2) := by decide +kernel
theorem dX7_hungers_50 : decode cX7_hungers 50 = .ok (.goto 20, 3) := by decide +kernel
theorem dX7_hungers_53 : decode cX7_hungers 53 = .ok (.aload_n 0, 1) := by decide +kernel
theorem dX7_hungers_54 : decode cX7_hungers 54 = .ok (.iconst 2, 1) := by decide +kernel
theorem dX7_hungers_55 : decode cX7_hungers 55 = .ok (.iconst 1, 1) := by decide +kernel
theorem dX7_hungers_56 : decode cX7_hungers 56 = .ok (.bipush 9, 2) := by decide +kernel
theorem dX7_hungers_58 : decode cX7_hungers 58 = .ok (.iload_n 1, 1) := by decide +kernel
theorem dX7_hungers_59 : decode cX7_hungers 59 = .ok (.bipush 40, 2) := by decide +kernel
theorem dX7_hungers_61 : decode cX7_hungers 61 = .ok (.iload_n 2, 1) := by decide +kernel
theorem dX7_hungers_62 : decode cX7_hungers 62 = .ok (.imul, 1) := by decide +kernel
theorem dX7_hungers_63 : decode cX7_hungers 63 = .ok (.iload_n 3, 1) := by decide +kernel
theorem dX7_hungers_64 : decode cX7_hungers 64 = .ok (.iadd, 1) := by decide +kernel
theorem dX7_hungers_65 : decode cX7_hungers 65 = .ok (.iload 4, 2) := by decide +kernel
theorem dX7_hungers_67 : decode cX7_hungers 67 = .ok (.invokevirtual 258, 3) := by decide +kernel
theorem dX7_hungers_70 : decode cX7_hungers 70 = .ok (.ireturn, 1) := by decide +kernel
theorem dX7_dark_0 : decode cX7_dark 0 = .ok (.aload_n 0, 1) := by decide +kernel
theorem dX7_dark_1 : decode cX7_dark 1 = .ok (.iload_n 1, 1) := by decide +kernel
theorem dX7_dark_2 : decode cX7_dark 2 = .ok (.invokevirtual 194, 3) := by decide +kernel
theorem dX7_dark_5 : decode cX7_dark 5 = .ok (.ifCond .eq 35, 3) := by decide +kernel
theorem dX7_dark_8 : decode cX7_dark 8 = .ok (.iload_n 2, 1) := by decide +kernel
theorem dX7_dark_9 : decode cX7_dark 9 = .ok (.i2l, 1) := by decide +kernel
theorem dX7_dark_10 : decode cX7_dark 10 = .ok (.lconst 0, 1) := by decide +kernel
theorem dX7_dark_11 : decode cX7_dark 11 = .ok (.ldc2_w 214, 3) := by decide +kernel
theorem dX7_dark_14 : decode cX7_dark 14 = .ok (.invokestatic 63, 3) := by decide +kernel
theorem dX7_dark_17 : decode cX7_dark 17 = .ok (.ifCond .eq 23, 3) := by decide +kernel
theorem dX7_dark_20 : decode cX7_dark 20 = .ok (.iload_n 3, 1) := by decide +kernel
theorem dX7_dark_21 : decode cX7_dark 21 = .ok (.i2l, 1) := by decide +kernel
theorem dX7_dark_22 : decode cX7_dark 22 = .ok (.lconst 0, 1) := by decide +kernel
theorem dX7_dark_23 : decode cX7_dark 23 = .ok (.ldc2_w 262, 3) := by decide +kernel
theorem dX7_dark_26 : decode cX7_dark 26 = .ok (.invokestatic 63, 3) := by decide +kernel
theorem dX7_dark_29 : decode cX7_dark 29 = .ok (.ifCond .eq 11, 3) := by decide +kernel
theorem dX7_dark_32 : decode cX7_dark 32 = .ok (.iload 4, 2) := by decide +kernel
theorem dX7_dark_34 : decode cX7_dark 34 = .ok (.invokestatic 216, 3) := by decide +kernel
theorem dX7_dark_37 : decode cX7_dark 37 = .ok (.ifCond .ne 7, 3) := by decide +kernel
theorem dX7_dark_40 : decode cX7_dark 40 = .ok (.ldc2_w 264, 3) := by decide +kernel
theorem dX7_dark_43 : decode cX7_dark 43 = .ok (.lreturn, 1) := by decide +kernel
theorem dX7_dark_44 : decode cX7_dark 44 = .ok (.aload_n 0, 1) := by decide +kernel
theorem dX7_dark_45 : decode cX7_dark 45 = .ok (.invokevirtual 219, 3) := by decide +kernel
theorem dX7_dark_48 : decode cX7_dark 48 = .ok (.aload_n 0, 1) := by decide +kernel
theorem dX7_dark_49 : decode cX7_dark 49 = .ok (.getfield 19, 3) := by decide +kernel
theorem dX7_dark_52 : decode cX7_dark 52 = .ok (.iconst 5, 1) := by decide +kernel
theorem dX7_dark_53 : decode cX7_dark 53 = .ok (.iaload, 1) := by decide +kernel
theorem dX7_dark_54 : decode cX7_dark 54 = .ok (.istore 5, 2) := by decide +kernel
theorem dX7_dark_56 : decode cX7_dark 56 = .ok (.lconst 0, 1) := by decide +kernel
theorem dX7_dark_57 : decode cX7_dark 57 = .ok (.lstore 6, 2) := by decide +kernel
theorem dX7_dark_59 : decode cX7_dark 59 = .ok (.lconst 1, 1) := by decide +kernel
theorem dX7_dark_60 : decode cX7_dark 60 = .ok (.lstore 8, 2) := by decide +kernel
theorem dX7_dark_62 : decode cX7_dark 62 = .ok (.iload 5, 2) := by decide +kernel
theorem dX7_dark_64 : decode cX7_dark 64 = .ok (.invokestatic 197, 3) := by decide +kernel
theorem dX7_dark_67 : decode cX7_dark 67 = .ok (.istore 10, 2) := by decide +kernel
theorem dX7_dark_69 : decode cX7_dark 69 = .ok (.iload 10, 2) := by decide +kernel
theorem dX7_dark_71 : decode cX7_dark 71 = .ok (.ifCond .le 17, 3) := by decide +kernel
theorem dX7_dark_74 : decode cX7_dark 74 = .ok (.lload 8, 2) := by decide +kernel
theorem dX7_dark_76 : decode cX7_dark 76 = .ok (.ldc2_w 262, 3) := by decide +kernel
theorem dX7_dark_79 : decode cX7_dark 79 = .ok (.lmul, 1) := by decide +kernel
theorem dX7_dark_80 : decode cX7_dark 80 = .ok (.lstore 8, 2) := by decide +kernel
theorem dX7_dark_82 : decode cX7_dark 82 = .ok (.iinc 10 (-1), 3) := by decide +kernel
theorem dX7_dark_85 : decode cX7_dark 85 = .ok (.goto (-16), 3) := by decide +kernel
theorem dX7_dark_88 : decode cX7_dark 88 = .ok (.iconst 0, 1) := by decide +kernel
theorem dX7_dark_89 : decode cX7_dark 89 = .ok (.istore 10, 2) := by decide +kernel
theorem dX7_dark_91 : decode cX7_dark 91 = .ok (.iload 10, 2) := by decide +kernel
theorem dX7_dark_93 : decode cX7_dark 93 = .ok (.iload 5, 2) := by decide +kernel
theorem dX7_dark_95 : decode cX7_dark 95 = .ok (.if_icmp .gt 114, 3) := by decide +kernel
theorem dX7_dark_98 : decode cX7_dark 98 = .ok (.iload 10, 2) := by decide +kernel
theorem dX7_dark_100 : decode cX7_dark 100 = .ok (.iload 5, 2) := by decide +kernel
theorem dX7_dark_102 : decode cX7_dark 102 = .ok (.iconst (-1), 1) := by decide +kernel
theorem dX7_dark_103 : decode cX7_dark 103 = .ok (.ixor, 1) := by decide +kernel
theorem dX7_dark_104 : decode cX7_dark 104 = .ok (.iand, 1) := by decide +kernel
theorem dX7_dark_105 : decode cX7_dark 105 = .ok (.ifCond .ne 98, 3) := by decide +kernel
theorem dX7_dark_108 : decode cX7_dark 108 = .ok (.lconst 1, 1) := by decide +kernel
theorem dX7_dark_109 : decode cX7_dark 109 = .ok (.lstore 11, 2) := by decide +kernel
theorem dX7_dark_111 : decode cX7_dark 111 = .ok (.iconst 0, 1) := by decide +kernel
theorem dX7_dark_112 : decode cX7_dark 112 = .ok (.istore 13, 2) := by decide +kernel
theorem dX7_dark_114 : decode cX7_dark 114 = .ok (.iload 13, 2) := by decide +kernel
theorem dX7_dark_116 : decode cX7_dark 116 = .ok (.aload_n 0, 1) := by decide +kernel
theorem dX7_dark_117 : decode cX7_dark 117 = .ok (.getfield 19, 3) := by decide +kernel
theorem dX7_dark_120 : decode cX7_dark 120 = .ok (.iconst 0, 1) := by decide +kernel
theorem dX7_dark_121 : decode cX7_dark 121 = .ok (.iaload, 1) := by decide +kernel
theorem dX7_dark_122 : decode cX7_dark 122 = .ok (.if_icmp .ge 48, 3) := by decide +kernel
theorem dX7_dark_125 : decode cX7_dark 125 = .ok (.lload 11, 2) := by decide +kernel
theorem dX7_dark_127 : decode cX7_dark 127 = .ok (.iload 5, 2) := by decide +kernel
theorem dX7_dark_129 : decode cX7_dark 129 = .ok (.iload 13, 2) := by decide +kernel
theorem dX7_dark_131 : decode cX7_dark 131 = .ok (.invokestatic 154, 3) := by decide +kernel
theorem dX7_dark_134 : decode cX7_dark 134 = .ok (.ifCond .ne 7, 3) := by decide +kernel
theorem dX7_dark_137 : decode cX7_dark 137 = .ok (.lconst 1, 1) := by decide +kernel
theorem dX7_dark_138 : decode cX7_dark 138 = .ok (.goto 23, 3) := by decide +kernel
theorem dX7_dark_141 : decode cX7_dark 141 = .ok (.iload 10, 2) := by decide +kernel
theorem dX7_dark_143 : decode cX7_dark 143 = .ok (.iload 13, 2) := by decide +kernel
theorem dX7_dark_145 : decode cX7_dark 145 = .ok (.invokestatic 154, 3) := by decide +kernel
theorem dX7_dark_148 : decode cX7_dark 148 = .ok (.ifCond .eq 8, 3) := by decide +kernel
theorem dX7_dark_151 : decode cX7_dark 151 = .ok (.iload_n 3, 1) := by decide +kernel
theorem dX7_dark_152 : decode cX7_dark 152 = .ok (.i2l, 1) := by decide +kernel
theorem dX7_dark_153 : decode cX7_dark 153 = .ok (.goto 8, 3) := by decide +kernel
theorem dX7_dark_156 : decode cX7_dark 156 = .ok (.bipush 10, 2) := by decide +kernel
theorem dX7_dark_158 : decode cX7_dark 158 = .ok (.iload_n 3, 1) := by decide +kernel
theorem dX7_dark_159 : decode cX7_dark 159 = .ok (.isub, 1) := by decide +kernel
theorem dX7_dark_160 : decode cX7_dark 160 = .ok (.i2l, 1) := by decide +kernel
theorem dX7_dark_161 : decode cX7_dark 161 = .ok (.lmul, 1) := by decide +kernel
theorem dX7_dark_162 : decode cX7_dark 162 = .ok (.lstore 11, 2) := by decide +kernel
theorem dX7_dark_164 : decode cX7_dark 164 = .ok (.iinc 13 1, 3) := by decide +kernel
theorem dX7_dark_167 : decode cX7_dark 167 = .ok (.goto (-53), 3) := by decide +kernel
theorem dX7_dark_170 : decode cX7_dark 170 = .ok (.aload_n 0, 1) := by decide +kernel
theorem dX7_dark_171 : decode cX7_dark 171 = .ok (.getfield 19, 3) := by decide +kernel
theorem dX7_dark_174 : decode cX7_dark 174 = .ok (.iconst 5, 1) := by decide +kernel
theorem dX7_dark_175 : decode cX7_dark 175 = .ok (.iload 5, 2) := by decide +kernel
theorem dX7_dark_177 : decode cX7_dark 177 = .ok (.iload 10, 2) := by decide +kernel
theorem dX7_dark_179 : decode cX7_dark 179 = .ok (.iconst (-1), 1) := by decide +kernel
theorem dX7_dark_180 : decode cX7_dark 180 = .ok (.ixor, 1) := by decide +kernel
theorem dX7_dark_181 : decode cX7_dark 181 = .ok (.iand, 1) := by decide +kernel
theorem dX7_dark_182 : decode cX7_dark 182 = .ok (.iastore, 1) := by decide +kernel
theorem dX7_dark_183 : decode cX7_dark 183 = .ok (.lload 6, 2) := by decide +kernel
theorem dX7_dark_185 : decode cX7_dark 185 = .ok (.aload_n 0, 1) := by decide +kernel
theorem dX7_dark_186 : decode cX7_dark 186 = .ok (.iload_n 1, 1) := by decide +kernel
theorem dX7_dark_187 : decode cX7_dark 187 = .ok (.iload_n 2, 1) := by decide +kernel
theorem dX7_dark_188 : decode cX7_dark 188 = .ok (.invokevirtual 242, 3) := by decide +kernel
theorem dX7_dark_191 : decode cX7_dark 191 = .ok (.ifCond .le 8, 3) := by decide +kernel
theorem dX7_dark_194 : decode cX7_dark 194 = .ok (.lload 11, 2) := by decide +kernel
theorem dX7_dark_196 : decode cX7_dark 196 = .ok (.goto 4, 3) := by decide +kernel
theorem dX7_dark_199 : decode cX7_dark 199 = .ok (.lconst 0, 1) := by decide +kernel
theorem dX7_dark_200 : decode cX7_dark 200 = .ok (.ladd, 1) := by decide +kernel
theorem dX7_dark_201 : decode cX7_dark 201 = .ok (.lstore 6, 2) := by decide +kernel
theorem dX7_dark_203 : decode cX7_dark 203 = .ok (.iinc 10 1, 3) := by decide +kernel
theorem dX7_dark_206 : decode cX7_dark 206 = .ok (.goto (-115), 3) := by decide +kernel
theorem dX7_dark_209 : decode cX7_dark 209 = .ok (.lload 6, 2) := by decide +kernel
theorem dX7_dark_211 : decode cX7_dark 211 = .ok (.lstore 10, 2) := by decide +kernel
theorem dX7_dark_213 : decode cX7_dark 213 = .ok (.lload 8, 2) := by decide +kernel
theorem dX7_dark_215 : decode cX7_dark 215 = .ok (.lstore 12, 2) := by decide +kernel
theorem dX7_dark_217 : decode cX7_dark 217 = .ok (.lload 12, 2) := by decide +kernel
theorem dX7_dark_219 : decode cX7_dark 219 = .ok (.lconst 0, 1) := by decide +kernel
theorem dX7_dark_220 : decode cX7_dark 220 = .ok (.lcmp, 1) := by decide +kernel
theorem dX7_dark_221 : decode cX7_dark 221 = .ok (.ifCond .eq 21, 3) := by decide +kernel
theorem dX7_dark_224 : decode cX7_dark 224 = .ok (.lload 10, 2) := by decide +kernel
theorem dX7_dark_226 : decode cX7_dark 226 = .ok (.lload 12, 2) := by decide +kernel
theorem dX7_dark_228 : decode cX7_dark 228 = .ok (.lrem, 1) := by decide +kernel
theorem dX7_dark_229 : decode cX7_dark 229 = .ok (.lstore 14, 2) := by decide +kernel
theorem dX7_dark_231 : decode cX7_dark 231 = .ok (.lload 12, 2) := by decide +kernel
theorem dX7_dark_233 : decode cX7_dark 233 = .ok (.lstore 10, 2) := by decide +kernel
theorem dX7_dark_235 : decode cX7_dark 235 = .ok (.lload 14, 2) := by decide +kernel
theorem dX7_dark_237 : decode cX7_dark 237 = .ok (.lstore 12, 2) := by decide +kernel
theorem dX7_dark_239 : decode cX7_dark 239 = .ok (.goto (-22), 3) := by decide +kernel
theorem dX7_dark_242 : decode cX7_dark 242 = .ok (.iload 4, 2) := by decide +kernel
theorem dX7_dark_244 : decode cX7_dark 244 = .ok (.ifCond .ne 11, 3) := by decide +kernel
theorem dX7_dark_247 : decode cX7_dark 247 = .ok (.lload 6, 2) := by decide +kernel
theorem dX7_dark_249 : decode cX7_dark 249 = .ok (.lload 10, 2) := by decide +kernel
theorem dX7_dark_251 : decode cX7_dark 251 = .ok (.ldiv, 1) := by decide +kernel
theorem dX7_dark_252 : decode cX7_dark 252 = .ok (.goto 8, 3) := by decide +kernel
theorem dX7_dark_255 : decode cX7_dark 255 = .ok (.lload 8, 2) := by decide +kernel
theorem dX7_dark_257 : decode cX7_dark 257 = .ok (.lload 10, 2) := by decide +kernel
theorem dX7_dark_259 : decode cX7_dark 259 = .ok (.ldiv, 1) := by decide +kernel
theorem dX7_dark_260 : decode cX7_dark 260 = .ok (.lreturn, 1) := by decide +kernel
theorem dX7_drawn_0 : decode cX7_drawn 0 = .ok (.aload_n 0, 1) := by decide +kernel
theorem dX7_drawn_1 : decode cX7_drawn 1 = .ok (.getfield 147, 3) := by decide +kernel
theorem dX7_drawn_4 : decode cX7_drawn 4 = .ok (.ifCond .ne 6, 3) := by decide +kernel
theorem dX7_drawn_7 : decode cX7_drawn 7 = .ok (.ldc 181, 2) := by decide +kernel
theorem dX7_drawn_9 : decode cX7_drawn 9 = .ok (.ireturn, 1) := by decide +kernel
theorem dX7_drawn_10 : decode cX7_drawn 10 = .ok (.iload_n 1, 1) := by decide +kernel
theorem dX7_drawn_11 : decode cX7_drawn 11 = .ok (.i2l, 1) := by decide +kernel
theorem dX7_drawn_12 : decode cX7_drawn 12 = .ok (.lconst 0, 1) := by decide +kernel
theorem dX7_drawn_13 : decode cX7_drawn 13 = .ok (.ldc2_w 214, 3) := by decide +kernel
theorem dX7_drawn_16 : decode cX7_drawn 16 = .ok (.invokestatic 63, 3) := by decide +kernel
theorem dX7_drawn_19 : decode cX7_drawn 19 = .ok (.ifCond .eq 22, 3) := by decide +kernel
theorem dX7_drawn_22 : decode cX7_drawn 22 = .ok (.iload_n 2, 1) := by decide +kernel
theorem dX7_drawn_23 : decode cX7_drawn 23 = .ok (.i2l, 1) := by decide +kernel
theorem dX7_drawn_24 : decode cX7_drawn 24 = .ok (.lconst 1, 1) := by decide +kernel
theorem dX7_drawn_25 : decode cX7_drawn 25 = .ok (.ldc2_w 266, 3) := by decide +kernel
theorem dX7_drawn_28 : decode cX7_drawn 28 = .ok (.invokestatic 63, 3) := by decide +kernel
theorem dX7_drawn_31 : decode cX7_drawn 31 = .ok (.ifCond .eq 10, 3) := by decide +kernel
theorem dX7_drawn_34 : decode cX7_drawn 34 = .ok (.iload_n 3, 1) := by decide +kernel
theorem dX7_drawn_35 : decode cX7_drawn 35 = .ok (.invokestatic 216, 3) := by decide +kernel
theorem dX7_drawn_38 : decode cX7_drawn 38 = .ok (.ifCond .ne 6, 3) := by decide +kernel
theorem dX7_drawn_41 : decode cX7_drawn 41 = .ok (.ldc 73, 2) := by decide +kernel
theorem dX7_drawn_43 : decode cX7_drawn 43 = .ok (.ireturn, 1) := by decide +kernel
theorem dX7_drawn_44 : decode cX7_drawn 44 = .ok (.aload_n 0, 1) := by decide +kernel
theorem dX7_drawn_45 : decode cX7_drawn 45 = .ok (.invokevirtual 219, 3) := by decide +kernel
theorem dX7_drawn_48 : decode cX7_drawn 48 = .ok (.iload_n 2, 1) := by decide +kernel
theorem dX7_drawn_49 : decode cX7_drawn 49 = .ok (.i2l, 1) := by decide +kernel
theorem dX7_drawn_50 : decode cX7_drawn 50 = .ok (.lstore 4, 2) := by decide +kernel
theorem dX7_drawn_52 : decode cX7_drawn 52 = .ok (.iconst 0, 1) := by decide +kernel
theorem dX7_drawn_53 : decode cX7_drawn 53 = .ok (.istore 6, 2) := by decide +kernel
theorem dX7_drawn_55 : decode cX7_drawn 55 = .ok (.iload 6, 2) := by decide +kernel
theorem dX7_drawn_57 : decode cX7_drawn 57 = .ok (.iload_n 1, 1) := by decide +kernel
theorem dX7_drawn_58 : decode cX7_drawn 58 = .ok (.if_icmp .ge 136, 3) := by decide +kernel
theorem dX7_drawn_61 : decode cX7_drawn 61 = .ok (.lload 4, 2) := by decide +kernel
theorem dX7_drawn_63 : decode cX7_drawn 63 = .ok (.ldc2_w 268, 3) := by decide +kernel
theorem dX7_drawn_66 : decode cX7_drawn 66 = .ok (.lmul, 1) := by decide +kernel
theorem dX7_drawn_67 : decode cX7_drawn 67 = .ok (.ldc2_w 270, 3) := by decide +kernel
theorem dX7_drawn_70 : decode cX7_drawn 70 = .ok (.lrem, 1) := by decide +kernel
theorem dX7_drawn_71 : decode cX7_drawn 71 = .ok (.lstore 4, 2) := by decide +kernel
theorem dX7_drawn_73 : decode cX7_drawn 73 = .ok (.lload 4, 2) := by decide +kernel
theorem dX7_drawn_75 : decode cX7_drawn 75 = .ok (.aload_n 0, 1) := by decide +kernel
theorem dX7_drawn_76 : decode cX7_drawn 76 = .ok (.getfield 19, 3) := by decide +kernel
theorem dX7_drawn_79 : decode cX7_drawn 79 = .ok (.iconst 0, 1) := by decide +kernel
theorem dX7_drawn_80 : decode cX7_drawn 80 = .ok (.iaload, 1) := by decide +kernel
theorem dX7_drawn_81 : decode cX7_drawn 81 = .ok (.i2l, 1) := by decide +kernel
theorem dX7_drawn_82 : decode cX7_drawn 82 = .ok (.lrem, 1) := by decide +kernel
theorem dX7_drawn_83 : decode cX7_drawn 83 = .ok (.l2i, 1) := by decide +kernel
theorem dX7_drawn_84 : decode cX7_drawn 84 = .ok (.istore 7, 2) := by decide +kernel
theorem dX7_drawn_86 : decode cX7_drawn 86 = .ok (.aload_n 0, 1) := by decide +kernel
theorem dX7_drawn_87 : decode cX7_drawn 87 = .ok (.getfield 19, 3) := by decide +kernel
theorem dX7_drawn_90 : decode cX7_drawn 90 = .ok (.iconst 5, 1) := by decide +kernel
theorem dX7_drawn_91 : decode cX7_drawn 91 = .ok (.iaload, 1) := by decide +kernel
theorem dX7_drawn_92 : decode cX7_drawn 92 = .ok (.iload 7, 2) := by decide +kernel
theorem dX7_drawn_94 : decode cX7_drawn 94 = .ok (.invokestatic 154, 3) := by decide +kernel
theorem dX7_drawn_97 : decode cX7_drawn 97 = .ok (.ifCond .eq 45, 3) := by decide +kernel
theorem dX7_drawn_100 : decode cX7_drawn 100 = .ok (.aload_n 0, 1) := by decide +kernel
theorem dX7_drawn_101 : decode cX7_drawn 101 = .ok (.getfield 19, 3) := by decide +kernel
theorem dX7_drawn_104 : decode cX7_drawn 104 = .ok (.iconst 5, 1) := by decide +kernel
theorem dX7_drawn_105 : decode cX7_drawn 105 = .ok (.lload 4, 2) := by decide +kernel
theorem dX7_drawn_107 : decode cX7_drawn 107 = .ok (.ldc2_w 272, 3) := by decide +kernel
theorem dX7_drawn_110 : decode cX7_drawn 110 = .ok (.lrem, 1) := by decide +kernel
theorem dX7_drawn_111 : decode cX7_drawn 111 = .ok (.lconst 0, 1) := by decide +kernel
theorem dX7_drawn_112 : decode cX7_drawn 112 = .ok (.lcmp, 1) := by decide +kernel
theorem dX7_drawn_113 : decode cX7_drawn 113 = .ok (.ifCond .ne 19, 3) := by decide +kernel
theorem dX7_drawn_116 : decode cX7_drawn 116 = .ok (.aload_n 0, 1) := by decide +kernel
theorem dX7_drawn_117 : decode cX7_drawn 117 = .ok (.getfield 19, 3) := by decide +kernel
theorem dX7_drawn_120 : decode cX7_drawn 120 = .ok (.iconst 5, 1) := by decide +kernel
theorem dX7_drawn_121 : decode cX7_drawn 121 = .ok (.iaload, 1) := by decide +kernel
theorem dX7_drawn_122 : decode cX7_drawn 122 = .ok (.iconst 1, 1) := by decide +kernel
theorem dX7_drawn_123 : decode cX7_drawn 123 = .ok (.iload 7, 2) := by decide +kernel
theorem dX7_drawn_125 : decode cX7_drawn 125 = .ok (.ishl, 1) := by decide +kernel
theorem dX7_drawn_126 : decode cX7_drawn 126 = .ok (.iconst (-1), 1) := by decide +kernel
theorem dX7_drawn_127 : decode cX7_drawn 127 = .ok (.ixor, 1) := by decide +kernel
theorem dX7_drawn_128 : decode cX7_drawn 128 = .ok (.iand, 1) := by decide +kernel
theorem dX7_drawn_129 : decode cX7_drawn 129 = .ok (.goto 9, 3) := by decide +kernel
theorem dX7_drawn_132 : decode cX7_drawn 132 = .ok (.aload_n 0, 1) := by decide +kernel
theorem dX7_drawn_133 : decode cX7_drawn 133 = .ok (.getfield 19, 3) := by decide +kernel
theorem dX7_drawn_136 : decode cX7_drawn 136 = .ok (.iconst 5, 1) := by decide +kernel
theorem dX7_drawn_137 : decode cX7_drawn 137 = .ok (.iaload, 1) := by decide +kernel
theorem dX7_drawn_138 : decode cX7_drawn 138 = .ok (.iastore, 1) := by decide +kernel
theorem dX7_drawn_139 : decode cX7_drawn 139 = .ok (.goto 45, 3) := by decide +kernel
theorem dX7_drawn_142 : decode cX7_drawn 142 = .ok (.lload 4, 2) := by decide +kernel
theorem dX7_drawn_144 : decode cX7_drawn 144 = .ok (.ldc2_w 206, 3) := by decide +kernel
theorem dX7_drawn_147 : decode cX7_drawn 147 = .ok (.lrem, 1) := by decide +kernel
theorem dX7_drawn_148 : decode cX7_drawn 148 = .ok (.lconst 0, 1) := by decide +kernel
theorem dX7_drawn_149 : decode cX7_drawn 149 = .ok (.lcmp, 1) := by decide +kernel
theorem dX7_drawn_150 : decode cX7_drawn 150 = .ok (.ifCond .ne 34, 3) := by decide +kernel
theorem dX7_drawn_153 : decode cX7_drawn 153 = .ok (.aload_n 0, 1) := by decide +kernel
theorem dX7_drawn_154 : decode cX7_drawn 154 = .ok (.getfield 19, 3) := by decide +kernel
theorem dX7_drawn_157 : decode cX7_drawn 157 = .ok (.iconst 5, 1) := by decide +kernel
theorem dX7_drawn_158 : decode cX7_drawn 158 = .ok (.iaload, 1) := by decide +kernel
theorem dX7_drawn_159 : decode cX7_drawn 159 = .ok (.invokestatic 197, 3) := by decide +kernel
theorem dX7_drawn_162 : decode cX7_drawn 162 = .ok (.aload_n 0, 1) := by decide +kernel
theorem dX7_drawn_163 : decode cX7_drawn 163 = .ok (.getfield 19, 3) := by decide +kernel
theorem dX7_drawn_166 : decode cX7_drawn 166 = .ok (.iconst 3, 1) := by decide +kernel
theorem dX7_drawn_167 : decode cX7_drawn 167 = .ok (.iaload, 1) := by decide +kernel
theorem dX7_drawn_168 : decode cX7_drawn 168 = .ok (.if_icmp .ge 16, 3) := by decide +kernel
theorem dX7_drawn_171 : decode cX7_drawn 171 = .ok (.aload_n 0, 1) := by decide +kernel
theorem dX7_drawn_172 : decode cX7_drawn 172 = .ok (.getfield 19, 3) := by decide +kernel
theorem dX7_drawn_175 : decode cX7_drawn 175 = .ok (.iconst 5, 1) := by decide +kernel
theorem dX7_drawn_176 : decode cX7_drawn 176 = .ok (.dup2, 1) := by decide +kernel
theorem dX7_drawn_177 : decode cX7_drawn 177 = .ok (.iaload, 1) := by decide +kernel
theorem dX7_drawn_178 : decode cX7_drawn 178 = .ok (.iconst 1, 1) := by decide +kernel
theorem dX7_drawn_179 : decode cX7_drawn 179 = .ok (.iload 7, 2) := by decide +kernel
theorem dX7_drawn_181 : decode cX7_drawn 181 = .ok (.ishl, 1) := by decide +kernel
theorem dX7_drawn_182 : decode cX7_drawn 182 = .ok (.ior, 1) := by decide +kernel
theorem dX7_drawn_183 : decode cX7_drawn 183 = .ok (.iastore, 1) := by decide +kernel
theorem dX7_drawn_184 : decode cX7_drawn 184 = .ok (.aload_n 0, 1) := by decide +kernel
theorem dX7_drawn_185 : decode cX7_drawn 185 = .ok (.invokevirtual 187, 3) := by decide +kernel
theorem dX7_drawn_188 : decode cX7_drawn 188 = .ok (.iinc 6 1, 3) := by decide +kernel
theorem dX7_drawn_191 : decode cX7_drawn 191 = .ok (.goto (-136), 3) := by decide +kernel
theorem dX7_drawn_194 : decode cX7_drawn 194 = .ok (.iload_n 3, 1) := by decide +kernel
theorem dX7_drawn_195 : decode cX7_drawn 195 = .ok (.ifCond .ne 10, 3) := by decide +kernel
theorem dX7_drawn_198 : decode cX7_drawn 198 = .ok (.aload_n 0, 1) := by decide +kernel
theorem dX7_drawn_199 : decode cX7_drawn 199 = .ok (.invokevirtual 190, 3) := by decide +kernel
theorem dX7_drawn_202 : decode cX7_drawn 202 = .ok (.goto 10, 3) := by decide +kernel
theorem dX7_drawn_205 : decode cX7_drawn 205 = .ok (.aload_n 0, 1) := by decide +kernel
theorem dX7_drawn_206 : decode cX7_drawn 206 = .ok (.invokevirtual 222, 3) := by decide +kernel
theorem dX7_drawn_209 : decode cX7_drawn 209 = .ok (.invokestatic 197, 3) := by decide +kernel
theorem dX7_drawn_212 : decode cX7_drawn 212 = .ok (.istore 6, 2) := by decide +kernel
theorem dX7_drawn_214 : decode cX7_drawn 214 = .ok (.aload_n 0, 1) := by decide +kernel
theorem dX7_drawn_215 : decode cX7_drawn 215 = .ok (.invokevirtual 211, 3) := by decide +kernel
theorem dX7_drawn_218 : decode cX7_drawn 218 = .ok (.iload 6, 2) := by decide +kernel
theorem dX7_drawn_220 : decode cX7_drawn 220 = .ok (.ireturn, 1) := by decide +kernel
theorem dX7_image_0 : decode cX7_image 0 = .ok (.iload_n 1, 1) := by decide +kernel
theorem dX7_image_1 : decode cX7_image 1 = .ok (.i2l, 1) := by decide +kernel
theorem dX7_image_2 : decode cX7_image 2 = .ok (.lconst 0, 1) := by decide +kernel
theorem dX7_image_3 : decode cX7_image 3 = .ok (.lconst 1, 1) := by decide +kernel
theorem dX7_image_4 : decode cX7_image 4 = .ok (.invokestatic 63, 3) := by decide +kernel
theorem dX7_image_7 : decode cX7_image 7 = .ok (.ifCond .ne 6, 3) := by decide +kernel
theorem dX7_image_10 : decode cX7_image 10 = .ok (.ldc 73, 2) := by decide +kernel
theorem dX7_image_12 : decode cX7_image 12 = .ok (.ireturn, 1) := by decide +kernel
theorem dX7_image_13 : decode cX7_image 13 = .ok (.aload_n 0, 1) := by decide +kernel
theorem dX7_image_14 : decode cX7_image 14 = .ok (.getfield 147, 3) := by decide +kernel
theorem dX7_image_17 : decode cX7_image 17 = .ok (.ifCond .ne 6, 3) := by decide +kernel
theorem dX7_image_20 : decode cX7_image 20 = .ok (.ldc 181, 2) := by decide +kernel
theorem dX7_image_22 : decode cX7_image 22 = .ok (.ireturn, 1) := by decide +kernel
theorem dX7_image_23 : decode cX7_image 23 = .ok (.iconst 0, 1) := by decide +kernel
theorem dX7_image_24 : decode cX7_image 24 = .ok (.istore_n 2, 1) := by decide +kernel
theorem dX7_image_25 : decode cX7_image 25 = .ok (.iload_n 2, 1) := by decide +kernel
theorem dX7_image_26 : decode cX7_image 26 = .ok (.bipush 41, 2) := by decide +kernel
theorem dX7_image_28 : decode cX7_image 28 = .ok (.if_icmp .ge 26, 3) := by decide +kernel
theorem dX7_image_31 : decode cX7_image 31 = .ok (.aload_n 0, 1) := by decide +kernel
theorem dX7_image_32 : decode cX7_image 32 = .ok (.getfield 50, 3) := by decide +kernel
theorem dX7_image_35 : decode cX7_image 35 = .ok (.bipush 41, 2) := by decide +kernel
theorem dX7_image_37 : decode cX7_image 37 = .ok (.iload_n 1, 1) := by decide +kernel
theorem dX7_image_38 : decode cX7_image 38 = .ok (.imul, 1) := by decide +kernel
theorem dX7_image_39 : decode cX7_image 39 = .ok (.iload_n 2, 1) := by decide +kernel
theorem dX7_image_40 : decode cX7_image 40 = .ok (.iadd, 1) := by decide +kernel
theorem dX7_image_41 : decode cX7_image 41 = .ok (.aload_n 0, 1) := by decide +kernel
theorem dX7_image_42 : decode cX7_image 42 = .ok (.getfield 19, 3) := by decide +kernel
theorem dX7_image_45 : decode cX7_image 45 = .ok (.iload_n 2, 1) := by decide +kernel
theorem dX7_image_46 : decode cX7_image 46 = .ok (.iaload, 1) := by decide +kernel
theorem dX7_image_47 : decode cX7_image 47 = .ok (.iastore, 1) := by decide +kernel
theorem dX7_image_48 : decode cX7_image 48 = .ok (.iinc 2 1, 3) := by decide +kernel
theorem dX7_image_51 : decode cX7_image 51 = .ok (.goto (-26), 3) := by decide +kernel
theorem dX7_image_54 : decode cX7_image 54 = .ok (.aload_n 0, 1) := by decide +kernel
theorem dX7_image_55 : decode cX7_image 55 = .ok (.getfield 46, 3) := by decide +kernel
theorem dX7_image_58 : decode cX7_image 58 = .ok (.iload_n 1, 1) := by decide +kernel
theorem dX7_image_59 : decode cX7_image 59 = .ok (.iconst 1, 1) := by decide +kernel
theorem dX7_image_60 : decode cX7_image 60 = .ok (.bastore, 1) := by decide +kernel
theorem dX7_image_61 : decode cX7_image 61 = .ok (.iconst 1, 1) := by decide +kernel
theorem dX7_image_62 : decode cX7_image 62 = .ok (.ireturn, 1) := by decide +kernel
theorem dX7_restore_0 : decode cX7_restore 0 = .ok (.iload_n 1, 1) := by decide +kernel
theorem dX7_restore_1 : decode cX7_restore 1 = .ok (.i2l, 1) := by decide +kernel
theorem dX7_restore_2 : decode cX7_restore 2 = .ok (.lconst 0, 1) := by decide +kernel
theorem dX7_restore_3 : decode cX7_restore 3 = .ok (.lconst 1, 1) := by decide +kernel
theorem dX7_restore_4 : decode cX7_restore 4 = .ok (.invokestatic 63, 3) := by decide +kernel
theorem dX7_restore_7 : decode cX7_restore 7 = .ok (.ifCond .ne 6, 3) := by decide +kernel
theorem dX7_restore_10 : decode cX7_restore 10 = .ok (.ldc 73, 2) := by decide +kernel
theorem dX7_restore_12 : decode cX7_restore 12 = .ok (.ireturn, 1) := by decide +kernel
theorem dX7_restore_13 : decode cX7_restore 13 = .ok (.aload_n 0, 1) := by decide +kernel
theorem dX7_restore_14 : decode cX7_restore 14 = .ok (.getfield 46, 3) := by decide +kernel
theorem dX7_restore_17 : decode cX7_restore 17 = .ok (.iload_n 1, 1) := by decide +kernel
theorem dX7_restore_18 : decode cX7_restore 18 = .ok (.baload, 1) := by decide +kernel
theorem dX7_restore_19 : decode cX7_restore 19 = .ok (.ifCond .ne 6, 3) := by decide +kernel
theorem dX7_restore_22 : decode cX7_restore 22 = .ok (.ldc 181, 2) := by decide +kernel
theorem dX7_restore_24 : decode cX7_restore 24 = .ok (.ireturn, 1) := by decide +kernel
theorem dX7_restore_25 : decode cX7_restore 25 = .ok (.iconst 0, 1) := by decide +kernel
theorem dX7_restore_26 : decode cX7_restore 26 = .ok (.istore_n 2, 1) := by decide +kernel
theorem dX7_restore_27 : decode cX7_restore 27 = .ok (.iload_n 2, 1) := by decide +kernel
theorem dX7_restore_28 : decode cX7_restore 28 = .ok (.bipush 41, 2) := by decide +kernel
theorem dX7_restore_30 : decode cX7_restore 30 = .ok (.if_icmp .ge 26, 3) := by decide +kernel
theorem dX7_restore_33 : decode cX7_restore 33 = .ok (.aload_n 0, 1) := by decide +kernel
theorem dX7_restore_34 : decode cX7_restore 34 = .ok (.getfield 19, 3) := by decide +kernel
theorem dX7_restore_37 : decode cX7_restore 37 = .ok (.iload_n 2, 1) := by decide +kernel
theorem dX7_restore_38 : decode cX7_restore 38 = .ok (.aload_n 0, 1) := by decide +kernel
theorem dX7_restore_39 : decode cX7_restore 39 = .ok (.getfield 50, 3) := by decide +kernel
theorem dX7_restore_42 : decode cX7_restore 42 = .ok (.bipush 41, 2) := by decide +kernel
theorem dX7_restore_44 : decode cX7_restore 44 = .ok (.iload_n 1, 1) := by decide +kernel
theorem dX7_restore_45 : decode cX7_restore 45 = .ok (.imul, 1) := by decide +kernel
theorem dX7_restore_46 : decode cX7_restore 46 = .ok (.iload_n 2, 1) := by decide +kernel
theorem dX7_restore_47 : decode cX7_restore 47 = .ok (.iadd, 1) := by decide +kernel
theorem dX7_restore_48 : decode cX7_restore 48 = .ok (.iaload, 1) := by decide +kernel
theorem dX7_restore_49 : decode cX7_restore 49 = .ok (.iastore, 1) := by decide +kernel
theorem dX7_restore_50 : decode cX7_restore 50 = .ok (.iinc 2 1, 3) := by decide +kernel
theorem dX7_restore_53 : decode cX7_restore 53 = .ok (.goto (-26), 3) := by decide +kernel
theorem dX7_restore_56 : decode cX7_restore 56 = .ok (.aload_n 0, 1) := by decide +kernel
theorem dX7_restore_57 : decode cX7_restore 57 = .ok (.iconst 0, 1) := by decide +kernel
theorem dX7_restore_58 : decode cX7_restore 58 = .ok (.putfield 151, 3) := by decide +kernel
theorem dX7_restore_61 : decode cX7_restore 61 = .ok (.iconst 1, 1) := by decide +kernel
theorem dX7_restore_62 : decode cX7_restore 62 = .ok (.ireturn, 1) := by decide +kernel
theorem dX7_kind_0 : decode cX7_kind 0 = .ok (.aload_n 0, 1) := by decide +kernel
theorem dX7_kind_1 : decode cX7_kind 1 = .ok (.iload_n 1, 1) := by decide +kernel
theorem dX7_kind_2 : decode cX7_kind 2 = .ok (.invokevirtual 200, 3) := by decide +kernel
theorem dX7_kind_5 : decode cX7_kind 5 = .ok (.ifCond .eq 15, 3) := by decide +kernel
theorem dX7_kind_8 : decode cX7_kind 8 = .ok (.aload_n 0, 1) := by decide +kernel
theorem dX7_kind_9 : decode cX7_kind 9 = .ok (.getfield 19, 3) := by decide +kernel
theorem dX7_kind_12 : decode cX7_kind 12 = .ok (.bipush 26, 2) := by decide +kernel
theorem dX7_kind_14 : decode cX7_kind 14 = .ok (.iload_n 1, 1) := by decide +kernel
theorem dX7_kind_15 : decode cX7_kind 15 = .ok (.iadd, 1) := by decide +kernel
theorem dX7_kind_16 : decode cX7_kind 16 = .ok (.iaload, 1) := by decide +kernel
theorem dX7_kind_17 : decode cX7_kind 17 = .ok (.goto 5, 3) := by decide +kernel
theorem dX7_kind_20 : decode cX7_kind 20 = .ok (.ldc 73, 2) := by decide +kernel
theorem dX7_kind_22 : decode cX7_kind 22 = .ok (.ireturn, 1) := by decide +kernel
theorem dX7_isKind_0 : decode cX7_isKind 0 = .ok (.iload_n 1, 1) := by decide +kernel
theorem dX7_isKind_1 : decode cX7_isKind 1 = .ok (.ifCond .eq 28, 3) := by decide +kernel
theorem dX7_isKind_4 : decode cX7_isKind 4 = .ok (.iload_n 0, 1) := by decide +kernel
theorem dX7_isKind_5 : decode cX7_isKind 5 = .ok (.iload_n 1, 1) := by decide +kernel
theorem dX7_isKind_6 : decode cX7_isKind 6 = .ok (.if_icmp .eq 23, 3) := by decide +kernel
theorem dX7_isKind_9 : decode cX7_isKind 9 = .ok (.iload_n 1, 1) := by decide +kernel
theorem dX7_isKind_10 : decode cX7_isKind 10 = .ok (.iconst 1, 1) := by decide +kernel
theorem dX7_isKind_11 : decode cX7_isKind 11 = .ok (.if_icmp .ne 8, 3) := by decide +kernel
theorem dX7_isKind_14 : decode cX7_isKind 14 = .ok (.iload_n 0, 1) := by decide +kernel
theorem dX7_isKind_15 : decode cX7_isKind 15 = .ok (.iconst 4, 1) := by decide +kernel
theorem dX7_isKind_16 : decode cX7_isKind 16 = .ok (.if_icmp .lt 13, 3) := by decide +kernel
theorem dX7_isKind_19 : decode cX7_isKind 19 = .ok (.iload_n 1, 1) := by decide +kernel
theorem dX7_isKind_20 : decode cX7_isKind 20 = .ok (.iconst 4, 1) := by decide +kernel
theorem dX7_isKind_21 : decode cX7_isKind 21 = .ok (.if_icmp .ne 12, 3) := by decide +kernel
theorem dX7_isKind_24 : decode cX7_isKind 24 = .ok (.iload_n 0, 1) := by decide +kernel
theorem dX7_isKind_25 : decode cX7_isKind 25 = .ok (.iconst 5, 1) := by decide +kernel
theorem dX7_isKind_26 : decode cX7_isKind 26 = .ok (.if_icmp .ne 7, 3) := by decide +kernel
theorem dX7_isKind_29 : decode cX7_isKind 29 = .ok (.iconst 1, 1) := by decide +kernel
theorem dX7_isKind_30 : decode cX7_isKind 30 = .ok (.goto 4, 3) := by decide +kernel
theorem dX7_isKind_33 : decode cX7_isKind 33 = .ok (.iconst 0, 1) := by decide +kernel
theorem dX7_isKind_34 : decode cX7_isKind 34 = .ok (.ireturn, 1) := by decide +kernel
theorem dX7_as_0 : decode cX7_as 0 = .ok (.aload_n 0, 1) := by decide +kernel
theorem dX7_as_1 : decode cX7_as 1 = .ok (.iload_n 1, 1) := by decide +kernel
theorem dX7_as_2 : decode cX7_as 2 = .ok (.invokevirtual 200, 3) := by decide +kernel
theorem dX7_as_5 : decode cX7_as 5 = .ok (.ifCond .eq 15, 3) := by decide +kernel
theorem dX7_as_8 : decode cX7_as 8 = .ok (.iload_n 2, 1) := by decide +kernel
theorem dX7_as_9 : decode cX7_as 9 = .ok (.i2l, 1) := by decide +kernel
theorem dX7_as_10 : decode cX7_as 10 = .ok (.lconst 0, 1) := by decide +kernel
theorem dX7_as_11 : decode cX7_as 11 = .ok (.ldc2_w 272, 3) := by decide +kernel
theorem dX7_as_14 : decode cX7_as 14 = .ok (.invokestatic 63, 3) := by decide +kernel
theorem dX7_as_17 : decode cX7_as 17 = .ok (.ifCond .ne 6, 3) := by decide +kernel
theorem dX7_as_20 : decode cX7_as 20 = .ok (.ldc 73, 2) := by decide +kernel
theorem dX7_as_22 : decode cX7_as 22 = .ok (.ireturn, 1) := by decide +kernel
theorem dX7_as_23 : decode cX7_as 23 = .ok (.aload_n 0, 1) := by decide +kernel
theorem dX7_as_24 : decode cX7_as 24 = .ok (.getfield 19, 3) := by decide +kernel
theorem dX7_as_27 : decode cX7_as 27 = .ok (.bipush 26, 2) := by decide +kernel
theorem dX7_as_29 : decode cX7_as 29 = .ok (.iload_n 1, 1) := by decide +kernel
theorem dX7_as_30 : decode cX7_as 30 = .ok (.iadd, 1) := by decide +kernel
theorem dX7_as_31 : decode cX7_as 31 = .ok (.iaload, 1) := by decide +kernel
theorem dX7_as_32 : decode cX7_as 32 = .ok (.iload_n 2, 1) := by decide +kernel
theorem dX7_as_33 : decode cX7_as 33 = .ok (.invokestatic 274, 3) := by decide +kernel
theorem dX7_as_36 : decode cX7_as 36 = .ok (.ifCond .eq 11, 3) := by decide +kernel
theorem dX7_as_39 : decode cX7_as 39 = .ok (.aload_n 0, 1) := by decide +kernel
theorem dX7_as_40 : decode cX7_as 40 = .ok (.iload_n 1, 1) := by decide +kernel
theorem dX7_as_41 : decode cX7_as 41 = .ok (.invokevirtual 78, 3) := by decide +kernel
theorem dX7_as_44 : decode cX7_as 44 = .ok (.goto 8, 3) := by decide +kernel
theorem dX7_as_47 : decode cX7_as 47 = .ok (.aload_n 0, 1) := by decide +kernel
theorem dX7_as_48 : decode cX7_as 48 = .ok (.iconst 3, 1) := by decide +kernel
theorem dX7_as_49 : decode cX7_as 49 = .ok (.invokevirtual 74, 3) := by decide +kernel
theorem dX7_as_52 : decode cX7_as 52 = .ok (.ireturn, 1) := by decide +kernel
theorem dX7_begin_0 : decode cX7_begin 0 = .ok (.aload_n 0, 1) := by decide +kernel
theorem dX7_begin_1 : decode cX7_begin 1 = .ok (.getfield 277, 3) := by decide +kernel
theorem dX7_begin_4 : decode cX7_begin 4 = .ok (.bipush 16, 2) := by decide +kernel
theorem dX7_begin_6 : decode cX7_begin 6 = .ok (.if_icmp .ge 23, 3) := by decide +kernel
theorem dX7_begin_9 : decode cX7_begin 9 = .ok (.aload_n 0, 1) := by decide +kernel
theorem dX7_begin_10 : decode cX7_begin 10 = .ok (.getfield 53, 3) := by decide +kernel
theorem dX7_begin_13 : decode cX7_begin 13 = .ok (.aload_n 0, 1) := by decide +kernel
theorem dX7_begin_14 : decode cX7_begin 14 = .ok (.getfield 277, 3) := by decide +kernel
theorem dX7_begin_17 : decode cX7_begin 17 = .ok (.iload_n 1, 1) := by decide +kernel
theorem dX7_begin_18 : decode cX7_begin 18 = .ok (.iastore, 1) := by decide +kernel
theorem dX7_begin_19 : decode cX7_begin 19 = .ok (.aload_n 0, 1) := by decide +kernel
theorem dX7_begin_20 : decode cX7_begin 20 = .ok (.dup, 1) := by decide +kernel
theorem dX7_begin_21 : decode cX7_begin 21 = .ok (.getfield 277, 3) := by decide +kernel
theorem dX7_begin_24 : decode cX7_begin 24 = .ok (.iconst 1, 1) := by decide +kernel
theorem dX7_begin_25 : decode cX7_begin 25 = .ok (.iadd, 1) := by decide +kernel
theorem dX7_begin_26 : decode cX7_begin 26 = .ok (.putfield 277, 3) := by decide +kernel
theorem dX7_begin_29 : decode cX7_begin 29 = .ok (.return_, 1) := by decide +kernel
theorem dX7_lent_0 : decode cX7_lent 0 = .ok (.aload_n 0, 1) := by decide +kernel
theorem dX7_lent_1 : decode cX7_lent 1 = .ok (.iload_n 2, 1) := by decide +kernel
theorem dX7_lent_2 : decode cX7_lent 2 = .ok (.invokevirtual 280, 3) := by decide +kernel
theorem dX7_lent_5 : decode cX7_lent 5 = .ok (.iload_n 2, 1) := by decide +kernel
theorem dX7_lent_6 : decode cX7_lent 6 = .ok (.bipush 10, 2) := by decide +kernel
theorem dX7_lent_8 : decode cX7_lent 8 = .ok (.if_icmp .ne 15, 3) := by decide +kernel
theorem dX7_lent_11 : decode cX7_lent 11 = .ok (.aload_n 0, 1) := by decide +kernel
theorem dX7_lent_12 : decode cX7_lent 12 = .ok (.getfield 19, 3) := by decide +kernel
theorem dX7_lent_15 : decode cX7_lent 15 = .ok (.bipush 36, 2) := by decide +kernel
theorem dX7_lent_17 : decode cX7_lent 17 = .ok (.iload_n 1, 1) := by decide +kernel
theorem dX7_lent_18 : decode cX7_lent 18 = .ok (.iadd, 1) := by decide +kernel
theorem dX7_lent_19 : decode cX7_lent 19 = .ok (.iaload, 1) := by decide +kernel
theorem dX7_lent_20 : decode cX7_lent 20 = .ok (.goto 4, 3) := by decide +kernel
theorem dX7_lent_23 : decode cX7_lent 23 = .ok (.iload_n 1, 1) := by decide +kernel
theorem dX7_lent_24 : decode cX7_lent 24 = .ok (.ireturn, 1) := by decide +kernel
theorem dX7_readerMark_0 : decode cX7_readerMark 0 = .ok (.aload_n 0, 1) := by decide +kernel
theorem dX7_readerMark_1 : decode cX7_readerMark 1 = .ok (.bipush 21, 2) := by decide +kernel
theorem dX7_readerMark_3 : decode cX7_readerMark 3 = .ok (.invokevirtual 280, 3) := by decide +kernel
theorem dX7_readerMark_6 : decode cX7_readerMark 6 = .ok (.aload_n 0, 1) := by decide +kernel
theorem dX7_readerMark_7 : decode cX7_readerMark 7 = .ok (.iload_n 1, 1) := by decide +kernel
theorem dX7_readerMark_8 : decode cX7_readerMark 8 = .ok (.bipush 20, 2) := by decide +kernel
theorem dX7_readerMark_10 : decode cX7_readerMark 10 = .ok (.invokevirtual 283, 3) := by decide +kernel
theorem dX7_readerMark_13 : decode cX7_readerMark 13 = .ok (.aload_n 0, 1) := by decide +kernel
theorem dX7_readerMark_14 : decode cX7_readerMark 14 = .ok (.getfield 19, 3) := by decide +kernel
theorem dX7_readerMark_17 : decode cX7_readerMark 17 = .ok (.bipush 31, 2) := by decide +kernel
theorem dX7_readerMark_19 : decode cX7_readerMark 19 = .ok (.iload_n 1, 1) := by decide +kernel
theorem dX7_readerMark_20 : decode cX7_readerMark 20 = .ok (.iadd, 1) := by decide +kernel
theorem dX7_readerMark_21 : decode cX7_readerMark 21 = .ok (.iaload, 1) := by decide +kernel
theorem dX7_readerMark_22 : decode cX7_readerMark 22 = .ok (.iadd, 1) := by decide +kernel
theorem dX7_readerMark_23 : decode cX7_readerMark 23 = .ok (.ireturn, 1) := by decide +kernel
theorem dX7_wandererSize_0 : decode cX7_wandererSize 0 = .ok (.aload_n 0, 1) := by decide +kernel
theorem dX7_wandererSize_1 : decode cX7_wandererSize 1 = .ok (.bipush 13, 2) := by decide +kernel
theorem dX7_wandererSize_3 : decode cX7_wandererSize 3 = .ok (.invokevirtual 280, 3) := by decide +kernel
theorem dX7_wandererSize_6 : decode cX7_wandererSize 6 = .ok (.aload_n 0, 1) := by decide +kernel
theorem dX7_wandererSize_7 : decode cX7_wandererSize 7 = .ok (.iload_n 1, 1) := by decide +kernel
theorem dX7_wandererSize_8 : decode cX7_wandererSize 8 = .ok (.bipush 10, 2) := by decide +kernel
theorem dX7_wandererSize_10 : decode cX7_wandererSize 10 = .ok (.invokevirtual 283, 3) := by decide +kernel
theorem dX7_wandererSize_13 : decode cX7_wandererSize 13 = .ok (.bipush 100, 2) := by decide +kernel
theorem dX7_wandererSize_15 : decode cX7_wandererSize 15 = .ok (.isub, 1) := by decide +kernel
theorem dX7_wandererSize_16 : decode cX7_wandererSize 16 = .ok (.ireturn, 1) := by decide +kernel
theorem dX7_sizeOfWanderer_0 : decode cX7_sizeOfWanderer 0 = .ok (.aload_n 0, 1) := by decide +kernel
theorem dX7_sizeOfWanderer_1 : decode cX7_sizeOfWanderer 1 = .ok (.getfield 19, 3) := by decide +kernel
theorem dX7_sizeOfWanderer_4 : decode cX7_sizeOfWanderer 4 = .ok (.bipush 26, 2) := by decide +kernel
theorem dX7_sizeOfWanderer_6 : decode cX7_sizeOfWanderer 6 = .ok (.iload_n 1, 1) := by decide +kernel
theorem dX7_sizeOfWanderer_7 : decode cX7_sizeOfWanderer 7 = .ok (.iadd, 1) := by decide +kernel
theorem dX7_sizeOfWanderer_8 : decode cX7_sizeOfWanderer 8 = .ok (.iaload, 1) := by decide +kernel
theorem dX7_sizeOfWanderer_9 : decode cX7_sizeOfWanderer 9 = .ok (.iconst 5, 1) := by decide +kernel
theorem dX7_sizeOfWanderer_10 : decode cX7_sizeOfWanderer 10 = .ok (.if_icmp .ne 17, 3) := by decide +kernel
theorem dX7_sizeOfWanderer_13 : decode cX7_sizeOfWanderer 13 = .ok (.aload_n 0, 1) := by decide +kernel
theorem dX7_sizeOfWanderer_14 : decode cX7_sizeOfWanderer 14 = .ok (.bipush 14, 2) := by decide +kernel
theorem dX7_sizeOfWanderer_16 : decode cX7_sizeOfWanderer 16 = .ok (.invokevirtual 280, 3) := by decide +kernel
theorem dX7_sizeOfWanderer_19 : decode cX7_sizeOfWanderer 19 = .ok (.iconst 2, 1) := by decide +kernel
theorem dX7_sizeOfWanderer_20 : decode cX7_sizeOfWanderer 20 = .ok (.aload_n 0, 1) := by decide +kernel
theorem dX7_sizeOfWanderer_21 : decode cX7_sizeOfWanderer 21 = .ok (.iload_n 1, 1) := by decide +kernel
theorem dX7_sizeOfWanderer_22 : decode cX7_sizeOfWanderer 22 = .ok (.invokevirtual 286, 3) := by decide +kernel
theorem dX7_sizeOfWanderer_25 : decode cX7_sizeOfWanderer 25 = .ok (.imul, 1) := by decide +kernel
theorem dX7_sizeOfWanderer_26 : decode cX7_sizeOfWanderer 26 = .ok (.ireturn, 1) := by decide +kernel
theorem dX7_sizeOfWanderer_27 : decode cX7_sizeOfWanderer 27 = .ok (.aload_n 0, 1) := by decide +kernel
theorem dX7_sizeOfWanderer_28 : decode cX7_sizeOfWanderer 28 = .ok (.iload_n 1, 1) := by decide +kernel
theorem dX7_sizeOfWanderer_29 : decode cX7_sizeOfWanderer 29 = .ok (.invokevirtual 286, 3) := by decide +kernel
theorem dX7_sizeOfWanderer_32 : decode cX7_sizeOfWanderer 32 = .ok (.ireturn, 1) := by decide +kernel
theorem dX7_markOf_0 : decode cX7_markOf 0 = .ok (.aload_n 0, 1) := by decide +kernel
theorem dX7_markOf_1 : decode cX7_markOf 1 = .ok (.getfield 19, 3) := by decide +kernel
theorem dX7_markOf_4 : decode cX7_markOf 4 = .ok (.bipush 26, 2) := by decide +kernel
theorem dX7_markOf_6 : decode cX7_markOf 6 = .ok (.iload_n 1, 1) := by decide +kernel
theorem dX7_markOf_7 : decode cX7_markOf 7 = .ok (.iadd, 1) := by decide +kernel
theorem dX7_markOf_8 : decode cX7_markOf 8 = .ok (.iaload, 1) := by decide +kernel
theorem dX7_markOf_9 : decode cX7_markOf 9 = .ok (.istore_n 2, 1) := by decide +kernel
theorem dX7_markOf_10 : decode cX7_markOf 10 = .ok (.iload_n 2, 1) := by decide +kernel
theorem dX7_markOf_11 : decode cX7_markOf 11 = .ok (.iconst 2, 1) := by decide +kernel
theorem dX7_markOf_12 : decode cX7_markOf 12 = .ok (.if_icmp .ne 17, 3) := by decide +kernel
theorem dX7_markOf_15 : decode cX7_markOf 15 = .ok (.aload_n 0, 1) := by decide +kernel
theorem dX7_markOf_16 : decode cX7_markOf 16 = .ok (.bipush 24, 2) := by decide +kernel
theorem dX7_markOf_18 : decode cX7_markOf 18 = .ok (.invokevirtual 280, 3) := by decide +kernel
theorem dX7_markOf_21 : decode cX7_markOf 21 = .ok (.iconst 2, 1) := by decide +kernel
theorem dX7_markOf_22 : decode cX7_markOf 22 = .ok (.aload_n 0, 1) := by decide +kernel
theorem dX7_markOf_23 : decode cX7_markOf 23 = .ok (.iload_n 1, 1) := by decide +kernel
theorem dX7_markOf_24 : decode cX7_markOf 24 = .ok (.invokevirtual 289, 3) := by decide +kernel
theorem dX7_markOf_27 : decode cX7_markOf 27 = .ok (.imul, 1) := by decide +kernel
theorem dX7_markOf_28 : decode cX7_markOf 28 = .ok (.ireturn, 1) := by decide +kernel
theorem dX7_markOf_29 : decode cX7_markOf 29 = .ok (.iload_n 2, 1) := by decide +kernel
theorem dX7_markOf_30 : decode cX7_markOf 30 = .ok (.iconst 3, 1) := by decide +kernel
theorem dX7_markOf_31 : decode cX7_markOf 31 = .ok (.if_icmp .ne 19, 3) := by decide +kernel
theorem dX7_markOf_34 : decode cX7_markOf 34 = .ok (.aload_n 0, 1) := by decide +kernel
theorem dX7_markOf_35 : decode cX7_markOf 35 = .ok (.bipush 22, 2) := by decide +kernel
theorem dX7_markOf_37 : decode cX7_markOf 37 = .ok (.invokevirtual 280, 3) := by decide +kernel
theorem dX7_markOf_40 : decode cX7_markOf 40 = .ok (.aload_n 0, 1) := by decide +kernel
theorem dX7_markOf_41 : decode cX7_markOf 41 = .ok (.iload_n 1, 1) := by decide +kernel
theorem dX7_markOf_42 : decode cX7_markOf 42 = .ok (.invokevirtual 289, 3) := by decide +kernel
theorem dX7_markOf_45 : decode cX7_markOf 45 = .ok (.sipush 1000, 3) := by decide +kernel
theorem dX7_markOf_48 : decode cX7_markOf 48 = .ok (.isub, 1) := by decide +kernel
theorem dX7_markOf_49 : decode cX7_markOf 49 = .ok (.ireturn, 1) := by decide +kernel
theorem dX7_markOf_50 : decode cX7_markOf 50 = .ok (.iload_n 2, 1) := by decide +kernel
theorem dX7_markOf_51 : decode cX7_markOf 51 = .ok (.iconst 1, 1) := by decide +kernel
theorem dX7_markOf_52 : decode cX7_markOf 52 = .ok (.if_icmp .ne 9, 3) := by decide +kernel
theorem dX7_markOf_55 : decode cX7_markOf 55 = .ok (.aload_n 0, 1) := by decide +kernel
theorem dX7_markOf_56 : decode cX7_markOf 56 = .ok (.iload_n 1, 1) := by decide +kernel
theorem dX7_markOf_57 : decode cX7_markOf 57 = .ok (.invokevirtual 289, 3) := by decide +kernel
theorem dX7_markOf_60 : decode cX7_markOf 60 = .ok (.ireturn, 1) := by decide +kernel
theorem dX7_markOf_61 : decode cX7_markOf 61 = .ok (.aload_n 0, 1) := by decide +kernel
theorem dX7_markOf_62 : decode cX7_markOf 62 = .ok (.bipush 23, 2) := by decide +kernel
theorem dX7_markOf_64 : decode cX7_markOf 64 = .ok (.invokevirtual 280, 3) := by decide +kernel
theorem dX7_markOf_67 : decode cX7_markOf 67 = .ok (.aload_n 0, 1) := by decide +kernel
theorem dX7_markOf_68 : decode cX7_markOf 68 = .ok (.iload_n 1, 1) := by decide +kernel
theorem dX7_markOf_69 : decode cX7_markOf 69 = .ok (.bipush 20, 2) := by decide +kernel
theorem dX7_markOf_71 : decode cX7_markOf 71 = .ok (.invokevirtual 283, 3) := by decide +kernel
theorem dX7_markOf_74 : decode cX7_markOf 74 = .ok (.istore_n 3, 1) := by decide +kernel
theorem dX7_markOf_75 : decode cX7_markOf 75 = .ok (.iload_n 3, 1) := by decide +kernel
theorem dX7_markOf_76 : decode cX7_markOf 76 = .ok (.aload_n 0, 1) := by decide +kernel
theorem dX7_markOf_77 : decode cX7_markOf 77 = .ok (.iload_n 1, 1) := by decide +kernel
theorem dX7_markOf_78 : decode cX7_markOf 78 = .ok (.invokevirtual 292, 3) := by decide +kernel
theorem dX7_markOf_81 : decode cX7_markOf 81 = .ok (.isub, 1) := by decide +kernel
theorem dX7_markOf_82 : decode cX7_markOf 82 = .ok (.ireturn, 1) := by decide +kernel
theorem dX7_readerSize_0 : decode cX7_readerSize 0 = .ok (.aload_n 0, 1) := by decide +kernel
theorem dX7_readerSize_1 : decode cX7_readerSize 1 = .ok (.bipush 11, 2) := by decide +kernel
theorem dX7_readerSize_3 : decode cX7_readerSize 3 = .ok (.invokevirtual 280, 3) := by decide +kernel
theorem dX7_readerSize_6 : decode cX7_readerSize 6 = .ok (.aload_n 0, 1) := by decide +kernel
theorem dX7_readerSize_7 : decode cX7_readerSize 7 = .ok (.iload_n 1, 1) := by decide +kernel
theorem dX7_readerSize_8 : decode cX7_readerSize 8 = .ok (.bipush 10, 2) := by decide +kernel
theorem dX7_readerSize_10 : decode cX7_readerSize 10 = .ok (.invokevirtual 283, 3) := by decide +kernel
theorem dX7_readerSize_13 : decode cX7_readerSize 13 = .ok (.istore_n 2, 1) := by decide +kernel
theorem dX7_readerSize_14 : decode cX7_readerSize 14 = .ok (.iload_n 2, 1) := by decide +kernel
theorem dX7_readerSize_15 : decode cX7_readerSize 15 = .ok (.aload_n 0, 1) := by decide +kernel
theorem dX7_readerSize_16 : decode cX7_readerSize 16 = .ok (.iload_n 1, 1) := by decide +kernel
theorem dX7_readerSize_17 : decode cX7_readerSize 17 = .ok (.invokevirtual 295, 3) := by decide +kernel
theorem dX7_readerSize_20 : decode cX7_readerSize 20 = .ok (.iadd, 1) := by decide +kernel
theorem dX7_readerSize_21 : decode cX7_readerSize 21 = .ok (.ireturn, 1) := by decide +kernel
theorem dX7_sizeOf_0 : decode cX7_sizeOf 0 = .ok (.aload_n 0, 1) := by decide +kernel
theorem dX7_sizeOf_1 : decode cX7_sizeOf 1 = .ok (.getfield 19, 3) := by decide +kernel
theorem dX7_sizeOf_4 : decode cX7_sizeOf 4 = .ok (.bipush 26, 2) := by decide +kernel
theorem dX7_sizeOf_6 : decode cX7_sizeOf 6 = .ok (.iload_n 1, 1) := by decide +kernel
theorem dX7_sizeOf_7 : decode cX7_sizeOf 7 = .ok (.iadd, 1) := by decide +kernel
theorem dX7_sizeOf_8 : decode cX7_sizeOf 8 = .ok (.iaload, 1) := by decide +kernel
theorem dX7_sizeOf_9 : decode cX7_sizeOf 9 = .ok (.istore_n 2, 1) := by decide +kernel
theorem dX7_sizeOf_10 : decode cX7_sizeOf 10 = .ok (.iload_n 2, 1) := by decide +kernel
theorem dX7_sizeOf_11 : decode cX7_sizeOf 11 = .ok (.iconst 2, 1) := by decide +kernel
theorem dX7_sizeOf_12 : decode cX7_sizeOf 12 = .ok (.if_icmp .ne 16, 3) := by decide +kernel
theorem dX7_sizeOf_15 : decode cX7_sizeOf 15 = .ok (.aload_n 0, 1) := by decide +kernel
theorem dX7_sizeOf_16 : decode cX7_sizeOf 16 = .ok (.bipush 12, 2) := by decide +kernel
theorem dX7_sizeOf_18 : decode cX7_sizeOf 18 = .ok (.invokevirtual 280, 3) := by decide +kernel
theorem dX7_sizeOf_21 : decode cX7_sizeOf 21 = .ok (.aload_n 0, 1) := by decide +kernel
theorem dX7_sizeOf_22 : decode cX7_sizeOf 22 = .ok (.iload_n 1, 1) := by decide +kernel
theorem dX7_sizeOf_23 : decode cX7_sizeOf 23 = .ok (.invokevirtual 298, 3) := by decide +kernel
theorem dX7_sizeOf_26 : decode cX7_sizeOf 26 = .ok (.ineg, 1) := by decide +kernel
theorem dX7_sizeOf_27 : decode cX7_sizeOf 27 = .ok (.ireturn, 1) := by decide +kernel
theorem dX7_sizeOf_28 : decode cX7_sizeOf 28 = .ok (.iload_n 2, 1) := by decide +kernel
theorem dX7_sizeOf_29 : decode cX7_sizeOf 29 = .ok (.iconst 4, 1) := by decide +kernel
theorem dX7_sizeOf_30 : decode cX7_sizeOf 30 = .ok (.if_icmp .lt 11, 3) := by decide +kernel
theorem dX7_sizeOf_33 : decode cX7_sizeOf 33 = .ok (.aload_n 0, 1) := by decide +kernel
theorem dX7_sizeOf_34 : decode cX7_sizeOf 34 = .ok (.iload_n 1, 1) := by decide +kernel
theorem dX7_sizeOf_35 : decode cX7_sizeOf 35 = .ok (.invokevirtual 292, 3) := by decide +kernel
theorem dX7_sizeOf_38 : decode cX7_sizeOf 38 = .ok (.goto 8, 3) := by decide +kernel
theorem dX7_sizeOf_41 : decode cX7_sizeOf 41 = .ok (.aload_n 0, 1) := by decide +kernel
theorem dX7_sizeOf_42 : decode cX7_sizeOf 42 = .ok (.iload_n 1, 1) := by decide +kernel
theorem dX7_sizeOf_43 : decode cX7_sizeOf 43 = .ok (.invokevirtual 298, 3) := by decide +kernel
theorem dX7_sizeOf_46 : decode cX7_sizeOf 46 = .ok (.ireturn, 1) := by decide +kernel
theorem dX7_ask_0 : decode cX7_ask 0 = .ok (.aload_n 0, 1) := by decide +kernel
theorem dX7_ask_1 : decode cX7_ask 1 = .ok (.iload_n 1, 1) := by decide +kernel
theorem dX7_ask_2 : decode cX7_ask 2 = .ok (.invokevirtual 200, 3) := by decide +kernel
theorem dX7_ask_5 : decode cX7_ask 5 = .ok (.ifCond .eq 13, 3) := by decide +kernel
theorem dX7_ask_8 : decode cX7_ask 8 = .ok (.iload_n 2, 1) := by decide +kernel
theorem dX7_ask_9 : decode cX7_ask 9 = .ok (.i2l, 1) := by decide +kernel
theorem dX7_ask_10 : decode cX7_ask 10 = .ok (.lconst 0, 1) := by decide +kernel
theorem dX7_ask_11 : decode cX7_ask 11 = .ok (.lconst 1, 1) := by decide +kernel
theorem dX7_ask_12 : decode cX7_ask 12 = .ok (.invokestatic 63, 3) := by decide +kernel
theorem dX7_ask_15 : decode cX7_ask 15 = .ok (.ifCond .ne 6, 3) := by decide +kernel
theorem dX7_ask_18 : decode cX7_ask 18 = .ok (.ldc 73, 2) := by decide +kernel
theorem dX7_ask_20 : decode cX7_ask 20 = .ok (.ireturn, 1) := by decide +kernel
theorem dX7_ask_21 : decode cX7_ask 21 = .ok (.aload_n 0, 1) := by decide +kernel
theorem dX7_ask_22 : decode cX7_ask 22 = .ok (.iconst 0, 1) := by decide +kernel
theorem dX7_ask_23 : decode cX7_ask 23 = .ok (.putfield 277, 3) := by decide +kernel
theorem dX7_ask_26 : decode cX7_ask 26 = .ok (.iload_n 2, 1) := by decide +kernel
theorem dX7_ask_27 : decode cX7_ask 27 = .ok (.ifCond .ne 11, 3) := by decide +kernel
theorem dX7_ask_30 : decode cX7_ask 30 = .ok (.aload_n 0, 1) := by decide +kernel
theorem dX7_ask_31 : decode cX7_ask 31 = .ok (.iload_n 1, 1) := by decide +kernel
theorem dX7_ask_32 : decode cX7_ask 32 = .ok (.invokevirtual 301, 3) := by decide +kernel
theorem dX7_ask_35 : decode cX7_ask 35 = .ok (.goto 8, 3) := by decide +kernel
theorem dX7_ask_38 : decode cX7_ask 38 = .ok (.aload_n 0, 1) := by decide +kernel
theorem dX7_ask_39 : decode cX7_ask 39 = .ok (.iload_n 1, 1) := by decide +kernel
theorem dX7_ask_40 : decode cX7_ask 40 = .ok (.invokevirtual 295, 3) := by decide +kernel
theorem dX7_ask_43 : decode cX7_ask 43 = .ok (.ireturn, 1) := by decide +kernel
theorem dX7_trace_0 : decode cX7_trace 0 = .ok (.iload_n 1, 1) := by decide +kernel
theorem dX7_trace_1 : decode cX7_trace 1 = .ok (.i2l, 1) := by decide +kernel
theorem dX7_trace_2 : decode cX7_trace 2 = .ok (.lconst 0, 1) := by decide +kernel
theorem dX7_trace_3 : decode cX7_trace 3 = .ok (.aload_n 0, 1) := by decide +kernel
theorem dX7_trace_4 : decode cX7_trace 4 = .ok (.getfield 277, 3) := by decide +kernel
theorem dX7_trace_7 : decode cX7_trace 7 = .ok (.iconst 1, 1) := by decide +kernel
theorem dX7_trace_8 : decode cX7_trace 8 = .ok (.isub, 1) := by decide +kernel
theorem dX7_trace_9 : decode cX7_trace 9 = .ok (.i2l, 1) := by decide +kernel
theorem dX7_trace_10 : decode cX7_trace 10 = .ok (.invokestatic 63, 3) := by decide +kernel
theorem dX7_trace_13 : decode cX7_trace 13 = .ok (.ifCond .eq 12, 3) := by decide +kernel
theorem dX7_trace_16 : decode cX7_trace 16 = .ok (.aload_n 0, 1) := by decide +kernel
theorem dX7_trace_17 : decode cX7_trace 17 = .ok (.getfield 53, 3) := by decide +kernel
theorem dX7_trace_20 : decode cX7_trace 20 = .ok (.iload_n 1, 1) := by decide +kernel
theorem dX7_trace_21 : decode cX7_trace 21 = .ok (.iaload, 1) := by decide +kernel
theorem dX7_trace_22 : decode cX7_trace 22 = .ok (.goto 5, 3) := by decide +kernel
theorem dX7_trace_25 : decode cX7_trace 25 = .ok (.ldc 158, 2) := by decide +kernel
theorem dX7_trace_27 : decode cX7_trace 27 = .ok (.ireturn, 1) := by decide +kernel
theorem dX7_count_0 : decode cX7_count 0 = .ok (.iconst 0, 1) := by decide +kernel
theorem dX7_count_1 : decode cX7_count 1 = .ok (.istore_n 2, 1) := by decide +kernel
theorem dX7_count_2 : decode cX7_count 2 = .ok (.iconst 0, 1) := by decide +kernel
theorem dX7_count_3 : decode cX7_count 3 = .ok (.istore_n 3, 1) := by decide +kernel
theorem dX7_count_4 : decode cX7_count 4 = .ok (.iload_n 3, 1) := by decide +kernel
theorem dX7_count_5 : decode cX7_count 5 = .ok (.bipush 8, 2) := by decide +kernel
theorem dX7_count_7 : decode cX7_count 7 = .ok (.if_icmp .ge 26, 3) := by decide +kernel
theorem dX7_count_10 : decode cX7_count 10 = .ok (.iload_n 2, 1) := by decide +kernel
theorem dX7_count_11 : decode cX7_count 11 = .ok (.aload_n 0, 1) := by decide +kernel
theorem dX7_count_12 : decode cX7_count 12 = .ok (.getfield 13, 3) := by decide +kernel
theorem dX7_count_15 : decode cX7_count 15 = .ok (.iload_n 3, 1) := by decide +kernel
theorem dX7_count_16 : decode cX7_count 16 = .ok (.iaload, 1) := by decide +kernel
theorem dX7_count_17 : decode cX7_count 17 = .ok (.ifCond .lt 7, 3) := by decide +kernel
theorem dX7_count_20 : decode cX7_count 20 = .ok (.iconst 1, 1) := by decide +kernel
theorem dX7_count_21 : decode cX7_count 21 = .ok (.goto 4, 3) := by decide +kernel
theorem dX7_count_24 : decode cX7_count 24 = .ok (.iconst 0, 1) := by decide +kernel
theorem dX7_count_25 : decode cX7_count 25 = .ok (.iadd, 1) := by decide +kernel
theorem dX7_count_26 : decode cX7_count 26 = .ok (.istore_n 2, 1) := by decide +kernel
theorem dX7_count_27 : decode cX7_count 27 = .ok (.iinc 3 1, 3) := by decide +kernel
theorem dX7_count_30 : decode cX7_count 30 = .ok (.goto (-26), 3) := by decide +kernel
theorem dX7_count_33 : decode cX7_count 33 = .ok (.iconst 0, 1) := by decide +kernel
theorem dX7_count_34 : decode cX7_count 34 = .ok (.istore_n 3, 1) := by decide +kernel
theorem dX7_count_35 : decode cX7_count 35 = .ok (.iconst 0, 1) := by decide +kernel
theorem dX7_count_36 : decode cX7_count 36 = .ok (.istore 4, 2) := by decide +kernel
theorem dX7_count_38 : decode cX7_count 38 = .ok (.iload 4, 2) := by decide +kernel
theorem dX7_count_40 : decode cX7_count 40 = .ok (.aload_n 0, 1) := by decide +kernel
theorem dX7_count_41 : decode cX7_count 41 = .ok (.getfield 19, 3) := by decide +kernel
theorem dX7_count_44 : decode cX7_count 44 = .ok (.iconst 1, 1) := by decide +kernel
theorem dX7_count_45 : decode cX7_count 45 = .ok (.iaload, 1) := by decide +kernel
theorem dX7_count_46 : decode cX7_count 46 = .ok (.if_icmp .ge 22, 3) := by decide +kernel
theorem dX7_count_49 : decode cX7_count 49 = .ok (.iload_n 3, 1) := by decide +kernel
theorem dX7_count_50 : decode cX7_count 50 = .ok (.aload_n 0, 1) := by decide +kernel
theorem dX7_count_51 : decode cX7_count 51 = .ok (.getfield 19, 3) := by decide +kernel
theorem dX7_count_54 : decode cX7_count 54 = .ok (.bipush 36, 2) := by decide +kernel
theorem dX7_count_56 : decode cX7_count 56 = .ok (.iload 4, 2) := by decide +kernel
theorem dX7_count_58 : decode cX7_count 58 = .ok (.iadd, 1) := by decide +kernel
theorem dX7_count_59 : decode cX7_count 59 = .ok (.iaload, 1) := by decide +kernel
theorem dX7_count_60 : decode cX7_count 60 = .ok (.iadd, 1) := by decide +kernel
theorem dX7_count_61 : decode cX7_count 61 = .ok (.istore_n 3, 1) := by decide +kernel
theorem dX7_count_62 : decode cX7_count 62 = .ok (.iinc 4 1, 3) := by decide +kernel
theorem dX7_count_65 : decode cX7_count 65 = .ok (.goto (-27), 3) := by decide +kernel
theorem dX7_count_68 : decode cX7_count 68 = .ok (.iload_n 1, 1) := by decide +kernel
theorem dX7_count_69 : decode cX7_count 69 = .ok (.tableswitch 87 0 7 #[47, 49, 56, 63, 70, 75, 77, 82], 47) := by decide +kernel
theorem dX7_count_116 : decode cX7_count 116 = .ok (.iload_n 2, 1) := by decide +kernel
theorem dX7_count_117 : decode cX7_count 117 = .ok (.ireturn, 1) := by decide +kernel
theorem dX7_count_118 : decode cX7_count 118 = .ok (.aload_n 0, 1) := by decide +kernel
theorem dX7_count_119 : decode cX7_count 119 = .ok (.getfield 19, 3) := by decide +kernel
theorem dX7_count_122 : decode cX7_count 122 = .ok (.iconst 0, 1) := by decide +kernel
theorem dX7_count_123 : decode cX7_count 123 = .ok (.iaload, 1) := by decide +kernel
theorem dX7_count_124 : decode cX7_count 124 = .ok (.ireturn, 1) := by decide +kernel
theorem dX7_count_125 : decode cX7_count 125 = .ok (.aload_n 0, 1) := by decide +kernel
theorem dX7_count_126 : decode cX7_count 126 = .ok (.getfield 19, 3) := by decide +kernel
theorem dX7_count_129 : decode cX7_count 129 = .ok (.iconst 1, 1) := by decide +kernel
theorem dX7_count_130 : decode cX7_count 130 = .ok (.iaload, 1) := by decide +kernel
theorem dX7_count_131 : decode cX7_count 131 = .ok (.ireturn, 1) := by decide +kernel
theorem dX7_count_132 : decode cX7_count 132 = .ok (.aload_n 0, 1) := by decide +kernel
theorem dX7_count_133 : decode cX7_count 133 = .ok (.getfield 19, 3) := by decide +kernel
theorem dX7_count_136 : decode cX7_count 136 = .ok (.iconst 4, 1) := by decide +kernel
theorem dX7_count_137 : decode cX7_count 137 = .ok (.iaload, 1) := by decide +kernel
theorem dX7_count_138 : decode cX7_count 138 = .ok (.ireturn, 1) := by decide +kernel
theorem dX7_count_139 : decode cX7_count 139 = .ok (.aload_n 0, 1) := by decide +kernel
theorem dX7_count_140 : decode cX7_count 140 = .ok (.invokevirtual 190, 3) := by decide +kernel
theorem dX7_count_143 : decode cX7_count 143 = .ok (.ireturn, 1) := by decide +kernel
theorem dX7_count_144 : decode cX7_count 144 = .ok (.iload_n 3, 1) := by decide +kernel
theorem dX7_count_145 : decode cX7_count 145 = .ok (.ireturn, 1) := by decide +kernel
theorem dX7_count_146 : decode cX7_count 146 = .ok (.aload_n 0, 1) := by decide +kernel
theorem dX7_count_147 : decode cX7_count 147 = .ok (.getfield 151, 3) := by decide +kernel
theorem dX7_count_150 : decode cX7_count 150 = .ok (.ireturn, 1) := by decide +kernel
theorem dX7_count_151 : decode cX7_count 151 = .ok (.aload_n 0, 1) := by decide +kernel
theorem dX7_count_152 : decode cX7_count 152 = .ok (.getfield 87, 3) := by decide +kernel
theorem dX7_count_155 : decode cX7_count 155 = .ok (.ireturn, 1) := by decide +kernel
theorem dX7_count_156 : decode cX7_count 156 = .ok (.ldc 73, 2) := by decide +kernel
theorem dX7_count_158 : decode cX7_count 158 = .ok (.ireturn, 1) := by decide +kernel
theorem dX7_status_0 : decode cX7_status 0 = .ok (.aload_n 0, 1) := by decide +kernel
theorem dX7_status_1 : decode cX7_status 1 = .ok (.getfield 56, 3) := by decide +kernel
theorem dX7_status_4 : decode cX7_status 4 = .ok (.ireturn, 1) := by decide +kernel
