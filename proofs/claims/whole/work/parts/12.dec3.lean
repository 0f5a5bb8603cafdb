theorem dX7_in_0 : decode cX7_in 0 = .ok (.lload_n 0, 1) := by decide +kernel
theorem dX7_in_1 : decode cX7_in 1 = .ok (.lload_n 2, 1) := by decide +kernel
theorem dX7_in_2 : decode cX7_in 2 = .ok (.lcmp, 1) := by decide +kernel
theorem dX7_in_3 : decode cX7_in 3 = .ok (.ifCond .lt 14, 3) := by decide +kernel
theorem dX7_in_6 : decode cX7_in 6 = .ok (.lload_n 0, 1) := by decide +kernel
theorem dX7_in_7 : decode cX7_in 7 = .ok (.lload 4, 2) := by decide +kernel
theorem dX7_in_9 : decode cX7_in 9 = .ok (.lcmp, 1) := by decide +kernel
theorem dX7_in_10 : decode cX7_in 10 = .ok (.ifCond .gt 7, 3) := by decide +kernel
theorem dX7_in_13 : decode cX7_in 13 = .ok (.iconst 1, 1) := by decide +kernel
theorem dX7_in_14 : decode cX7_in 14 = .ok (.goto 4, 3) := by decide +kernel
theorem dX7_in_17 : decode cX7_in 17 = .ok (.iconst 0, 1) := by decide +kernel
theorem dX7_in_18 : decode cX7_in 18 = .ok (.ireturn, 1) := by decide +kernel
theorem dX7_has_0 : decode cX7_has 0 = .ok (.iload_n 0, 1) := by decide +kernel
theorem dX7_has_1 : decode cX7_has 1 = .ok (.iload_n 1, 1) := by decide +kernel
theorem dX7_has_2 : decode cX7_has 2 = .ok (.ishr, 1) := by decide +kernel
theorem dX7_has_3 : decode cX7_has 3 = .ok (.iconst 1, 1) := by decide +kernel
theorem dX7_has_4 : decode cX7_has 4 = .ok (.iand, 1) := by decide +kernel
theorem dX7_has_5 : decode cX7_has 5 = .ok (.iconst 1, 1) := by decide +kernel
theorem dX7_has_6 : decode cX7_has 6 = .ok (.if_icmp .ne 7, 3) := by decide +kernel
theorem dX7_has_9 : decode cX7_has 9 = .ok (.iconst 1, 1) := by decide +kernel
theorem dX7_has_10 : decode cX7_has 10 = .ok (.goto 4, 3) := by decide +kernel
theorem dX7_has_13 : decode cX7_has 13 = .ok (.iconst 0, 1) := by decide +kernel
theorem dX7_has_14 : decode cX7_has 14 = .ok (.ireturn, 1) := by decide +kernel
theorem dX7_ones_0 : decode cX7_ones 0 = .ok (.iconst 0, 1) := by decide +kernel
theorem dX7_ones_1 : decode cX7_ones 1 = .ok (.istore_n 1, 1) := by decide +kernel
theorem dX7_ones_2 : decode cX7_ones 2 = .ok (.iload_n 0, 1) := by decide +kernel
theorem dX7_ones_3 : decode cX7_ones 3 = .ok (.istore_n 2, 1) := by decide +kernel
theorem dX7_ones_4 : decode cX7_ones 4 = .ok (.iload_n 2, 1) := by decide +kernel
theorem dX7_ones_5 : decode cX7_ones 5 = .ok (.ifCond .eq 15, 3) := by decide +kernel
theorem dX7_ones_8 : decode cX7_ones 8 = .ok (.iinc 1 1, 3) := by decide +kernel
theorem dX7_ones_11 : decode cX7_ones 11 = .ok (.iload_n 2, 1) := by decide +kernel
theorem dX7_ones_12 : decode cX7_ones 12 = .ok (.iload_n 2, 1) := by decide +kernel
theorem dX7_ones_13 : decode cX7_ones 13 = .ok (.iconst 1, 1) := by decide +kernel
theorem dX7_ones_14 : decode cX7_ones 14 = .ok (.isub, 1) := by decide +kernel
theorem dX7_ones_15 : decode cX7_ones 15 = .ok (.iand, 1) := by decide +kernel
theorem dX7_ones_16 : decode cX7_ones 16 = .ok (.istore_n 2, 1) := by decide +kernel
theorem dX7_ones_17 : decode cX7_ones 17 = .ok (.goto (-13), 3) := by decide +kernel
theorem dX7_ones_20 : decode cX7_ones 20 = .ok (.iload_n 1, 1) := by decide +kernel
theorem dX7_ones_21 : decode cX7_ones 21 = .ok (.ireturn, 1) := by decide +kernel
theorem dX7_find_0 : decode cX7_find 0 = .ok (.aload_n 0, 1) := by decide +kernel
theorem dX7_find_1 : decode cX7_find 1 = .ok (.iload_n 1, 1) := by decide +kernel
theorem dX7_find_2 : decode cX7_find 2 = .ok (.putfield 56, 3) := by decide +kernel
theorem dX7_find_5 : decode cX7_find 5 = .ok (.ldc 60, 2) := by decide +kernel
theorem dX7_find_7 : decode cX7_find 7 = .ok (.iload_n 1, 1) := by decide +kernel
theorem dX7_find_8 : decode cX7_find 8 = .ok (.isub, 1) := by decide +kernel
theorem dX7_find_9 : decode cX7_find 9 = .ok (.ireturn, 1) := by decide +kernel
theorem dX7_well_0 : decode cX7_well 0 = .ok (.aload_n 0, 1) := by decide +kernel
theorem dX7_well_1 : decode cX7_well 1 = .ok (.iconst 0, 1) := by decide +kernel
theorem dX7_well_2 : decode cX7_well 2 = .ok (.putfield 56, 3) := by decide +kernel
theorem dX7_well_5 : decode cX7_well 5 = .ok (.iload_n 1, 1) := by decide +kernel
theorem dX7_well_6 : decode cX7_well 6 = .ok (.ireturn, 1) := by decide +kernel
theorem dX7_isRow_0 : decode cX7_isRow 0 = .ok (.iload_n 0, 1) := by decide +kernel
theorem dX7_isRow_1 : decode cX7_isRow 1 = .ok (.i2l, 1) := by decide +kernel
theorem dX7_isRow_2 : decode cX7_isRow 2 = .ok (.lconst 0, 1) := by decide +kernel
theorem dX7_isRow_3 : decode cX7_isRow 3 = .ok (.ldc2_w 61, 3) := by decide +kernel
theorem dX7_isRow_6 : decode cX7_isRow 6 = .ok (.invokestatic 63, 3) := by decide +kernel
theorem dX7_isRow_9 : decode cX7_isRow 9 = .ok (.ireturn, 1) := by decide +kernel
theorem dX7_row_0 : decode cX7_row 0 = .ok (.iload_n 1, 1) := by decide +kernel
theorem dX7_row_1 : decode cX7_row 1 = .ok (.invokestatic 67, 3) := by decide +kernel
theorem dX7_row_4 : decode cX7_row 4 = .ok (.ifCond .eq 21, 3) := by decide +kernel
theorem dX7_row_7 : decode cX7_row 7 = .ok (.iload_n 2, 1) := by decide +kernel
theorem dX7_row_8 : decode cX7_row 8 = .ok (.i2l, 1) := by decide +kernel
theorem dX7_row_9 : decode cX7_row 9 = .ok (.lconst 0, 1) := by decide +kernel
theorem dX7_row_10 : decode cX7_row 10 = .ok (.ldc2_w 71, 3) := by decide +kernel
theorem dX7_row_13 : decode cX7_row 13 = .ok (.invokestatic 63, 3) := by decide +kernel
theorem dX7_row_16 : decode cX7_row 16 = .ok (.ifCond .eq 9, 3) := by decide +kernel
theorem dX7_row_19 : decode cX7_row 19 = .ok (.iload_n 3, 1) := by decide +kernel
theorem dX7_row_20 : decode cX7_row 20 = .ok (.bipush 40, 2) := by decide +kernel
theorem dX7_row_22 : decode cX7_row 22 = .ok (.if_icmp .le 6, 3) := by decide +kernel
theorem dX7_row_25 : decode cX7_row 25 = .ok (.ldc 73, 2) := by decide +kernel
theorem dX7_row_27 : decode cX7_row 27 = .ok (.ireturn, 1) := by decide +kernel
theorem dX7_row_28 : decode cX7_row 28 = .ok (.iload_n 3, 1) := by decide +kernel
theorem dX7_row_29 : decode cX7_row 29 = .ok (.ifCond .ge 9, 3) := by decide +kernel
theorem dX7_row_32 : decode cX7_row 32 = .ok (.aload_n 0, 1) := by decide +kernel
theorem dX7_row_33 : decode cX7_row 33 = .ok (.iconst 4, 1) := by decide +kernel
theorem dX7_row_34 : decode cX7_row 34 = .ok (.invokevirtual 74, 3) := by decide +kernel
theorem dX7_row_37 : decode cX7_row 37 = .ok (.ireturn, 1) := by decide +kernel
theorem dX7_row_38 : decode cX7_row 38 = .ok (.aload_n 0, 1) := by decide +kernel
theorem dX7_row_39 : decode cX7_row 39 = .ok (.getfield 7, 3) := by decide +kernel
theorem dX7_row_42 : decode cX7_row 42 = .ok (.iload_n 1, 1) := by decide +kernel
theorem dX7_row_43 : decode cX7_row 43 = .ok (.iload_n 2, 1) := by decide +kernel
theorem dX7_row_44 : decode cX7_row 44 = .ok (.iastore, 1) := by decide +kernel
theorem dX7_row_45 : decode cX7_row 45 = .ok (.aload_n 0, 1) := by decide +kernel
theorem dX7_row_46 : decode cX7_row 46 = .ok (.getfield 13, 3) := by decide +kernel
theorem dX7_row_49 : decode cX7_row 49 = .ok (.iload_n 1, 1) := by decide +kernel
theorem dX7_row_50 : decode cX7_row 50 = .ok (.iload_n 3, 1) := by decide +kernel
theorem dX7_row_51 : decode cX7_row 51 = .ok (.iastore, 1) := by decide +kernel
theorem dX7_row_52 : decode cX7_row 52 = .ok (.iconst 0, 1) := by decide +kernel
theorem dX7_row_53 : decode cX7_row 53 = .ok (.istore 4, 2) := by decide +kernel
theorem dX7_row_55 : decode cX7_row 55 = .ok (.iload 4, 2) := by decide +kernel
theorem dX7_row_57 : decode cX7_row 57 = .ok (.bipush 40, 2) := by decide +kernel
theorem dX7_row_59 : decode cX7_row 59 = .ok (.if_icmp .ge 22, 3) := by decide +kernel
theorem dX7_row_62 : decode cX7_row 62 = .ok (.aload_n 0, 1) := by decide +kernel
theorem dX7_row_63 : decode cX7_row 63 = .ok (.getfield 16, 3) := by decide +kernel
theorem dX7_row_66 : decode cX7_row 66 = .ok (.bipush 40, 2) := by decide +kernel
theorem dX7_row_68 : decode cX7_row 68 = .ok (.iload_n 1, 1) := by decide +kernel
theorem dX7_row_69 : decode cX7_row 69 = .ok (.imul, 1) := by decide +kernel
theorem dX7_row_70 : decode cX7_row 70 = .ok (.iload 4, 2) := by decide +kernel
theorem dX7_row_72 : decode cX7_row 72 = .ok (.iadd, 1) := by decide +kernel
theorem dX7_row_73 : decode cX7_row 73 = .ok (.iconst 0, 1) := by decide +kernel
theorem dX7_row_74 : decode cX7_row 74 = .ok (.iastore, 1) := by decide +kernel
theorem dX7_row_75 : decode cX7_row 75 = .ok (.iinc 4 1, 3) := by decide +kernel
theorem dX7_row_78 : decode cX7_row 78 = .ok (.goto (-23), 3) := by decide +kernel
theorem dX7_row_81 : decode cX7_row 81 = .ok (.aload_n 0, 1) := by decide +kernel
theorem dX7_row_82 : decode cX7_row 82 = .ok (.iload_n 3, 1) := by decide +kernel
theorem dX7_row_83 : decode cX7_row 83 = .ok (.invokevirtual 78, 3) := by decide +kernel
theorem dX7_row_86 : decode cX7_row 86 = .ok (.ireturn, 1) := by decide +kernel
theorem dX7_asLane_0 : decode cX7_asLane 0 = .ok (.iload_n 0, 1) := by decide +kernel
theorem dX7_asLane_1 : decode cX7_asLane 1 = .ok (.ifCond .ne 13, 3) := by decide +kernel
theorem dX7_asLane_4 : decode cX7_asLane 4 = .ok (.iload_n 1, 1) := by decide +kernel
theorem dX7_asLane_5 : decode cX7_asLane 5 = .ok (.bipush 24, 2) := by decide +kernel
theorem dX7_asLane_7 : decode cX7_asLane 7 = .ok (.ishl, 1) := by decide +kernel
theorem dX7_asLane_8 : decode cX7_asLane 8 = .ok (.bipush 24, 2) := by decide +kernel
theorem dX7_asLane_10 : decode cX7_asLane 10 = .ok (.ishr, 1) := by decide +kernel
theorem dX7_asLane_11 : decode cX7_asLane 11 = .ok (.goto 19, 3) := by decide +kernel
theorem dX7_asLane_14 : decode cX7_asLane 14 = .ok (.iload_n 0, 1) := by decide +kernel
theorem dX7_asLane_15 : decode cX7_asLane 15 = .ok (.iconst 1, 1) := by decide +kernel
theorem dX7_asLane_16 : decode cX7_asLane 16 = .ok (.if_icmp .ne 13, 3) := by decide +kernel
theorem dX7_asLane_19 : decode cX7_asLane 19 = .ok (.iload_n 1, 1) := by decide +kernel
theorem dX7_asLane_20 : decode cX7_asLane 20 = .ok (.bipush 16, 2) := by decide +kernel
theorem dX7_asLane_22 : decode cX7_asLane 22 = .ok (.ishl, 1) := by decide +kernel
theorem dX7_asLane_23 : decode cX7_asLane 23 = .ok (.bipush 16, 2) := by decide +kernel
theorem dX7_asLane_25 : decode cX7_asLane 25 = .ok (.ishr, 1) := by decide +kernel
theorem dX7_asLane_26 : decode cX7_asLane 26 = .ok (.goto 4, 3) := by decide +kernel
theorem dX7_asLane_29 : decode cX7_asLane 29 = .ok (.iload_n 1, 1) := by decide +kernel
theorem dX7_asLane_30 : decode cX7_asLane 30 = .ok (.ireturn, 1) := by decide +kernel
theorem dX7_set_0 : decode cX7_set 0 = .ok (.iload_n 1, 1) := by decide +kernel
theorem dX7_set_1 : decode cX7_set 1 = .ok (.invokestatic 67, 3) := by decide +kernel
theorem dX7_set_4 : decode cX7_set 4 = .ok (.ifCond .ne 6, 3) := by decide +kernel
theorem dX7_set_7 : decode cX7_set 7 = .ok (.ldc 73, 2) := by decide +kernel
theorem dX7_set_9 : decode cX7_set 9 = .ok (.ireturn, 1) := by decide +kernel
theorem dX7_set_10 : decode cX7_set 10 = .ok (.aload_n 0, 1) := by decide +kernel
theorem dX7_set_11 : decode cX7_set 11 = .ok (.getfield 13, 3) := by decide +kernel
theorem dX7_set_14 : decode cX7_set 14 = .ok (.iload_n 1, 1) := by decide +kernel
theorem dX7_set_15 : decode cX7_set 15 = .ok (.iaload, 1) := by decide +kernel
theorem dX7_set_16 : decode cX7_set 16 = .ok (.ifCond .ge 9, 3) := by decide +kernel
theorem dX7_set_19 : decode cX7_set 19 = .ok (.aload_n 0, 1) := by decide +kernel
theorem dX7_set_20 : decode cX7_set 20 = .ok (.iconst 1, 1) := by decide +kernel
theorem dX7_set_21 : decode cX7_set 21 = .ok (.invokevirtual 74, 3) := by decide +kernel
theorem dX7_set_24 : decode cX7_set 24 = .ok (.ireturn, 1) := by decide +kernel
theorem dX7_set_25 : decode cX7_set 25 = .ok (.iload_n 2, 1) := by decide +kernel
theorem dX7_set_26 : decode cX7_set 26 = .ok (.i2l, 1) := by decide +kernel
theorem dX7_set_27 : decode cX7_set 27 = .ok (.lconst 0, 1) := by decide +kernel
theorem dX7_set_28 : decode cX7_set 28 = .ok (.aload_n 0, 1) := by decide +kernel
theorem dX7_set_29 : decode cX7_set 29 = .ok (.getfield 13, 3) := by decide +kernel
theorem dX7_set_32 : decode cX7_set 32 = .ok (.iload_n 1, 1) := by decide +kernel
theorem dX7_set_33 : decode cX7_set 33 = .ok (.iaload, 1) := by decide +kernel
theorem dX7_set_34 : decode cX7_set 34 = .ok (.iconst 1, 1) := by decide +kernel
theorem dX7_set_35 : decode cX7_set 35 = .ok (.isub, 1) := by decide +kernel
theorem dX7_set_36 : decode cX7_set 36 = .ok (.i2l, 1) := by decide +kernel
theorem dX7_set_37 : decode cX7_set 37 = .ok (.invokestatic 63, 3) := by decide +kernel
theorem dX7_set_40 : decode cX7_set 40 = .ok (.ifCond .ne 9, 3) := by decide +kernel
theorem dX7_set_43 : decode cX7_set 43 = .ok (.aload_n 0, 1) := by decide +kernel
theorem dX7_set_44 : decode cX7_set 44 = .ok (.iconst 2, 1) := by decide +kernel
theorem dX7_set_45 : decode cX7_set 45 = .ok (.invokevirtual 74, 3) := by decide +kernel
theorem dX7_set_48 : decode cX7_set 48 = .ok (.ireturn, 1) := by decide +kernel
theorem dX7_set_49 : decode cX7_set 49 = .ok (.aload_n 0, 1) := by decide +kernel
theorem dX7_set_50 : decode cX7_set 50 = .ok (.getfield 16, 3) := by decide +kernel
theorem dX7_set_53 : decode cX7_set 53 = .ok (.bipush 40, 2) := by decide +kernel
theorem dX7_set_55 : decode cX7_set 55 = .ok (.iload_n 1, 1) := by decide +kernel
theorem dX7_set_56 : decode cX7_set 56 = .ok (.imul, 1) := by decide +kernel
theorem dX7_set_57 : decode cX7_set 57 = .ok (.iload_n 2, 1) := by decide +kernel
theorem dX7_set_58 : decode cX7_set 58 = .ok (.iadd, 1) := by decide +kernel
theorem dX7_set_59 : decode cX7_set 59 = .ok (.aload_n 0, 1) := by decide +kernel
theorem dX7_set_60 : decode cX7_set 60 = .ok (.getfield 7, 3) := by decide +kernel
theorem dX7_set_63 : decode cX7_set 63 = .ok (.iload_n 1, 1) := by decide +kernel
theorem dX7_set_64 : decode cX7_set 64 = .ok (.iaload, 1) := by decide +kernel
theorem dX7_set_65 : decode cX7_set 65 = .ok (.iload_n 3, 1) := by decide +kernel
theorem dX7_set_66 : decode cX7_set 66 = .ok (.invokestatic 81, 3) := by decide +kernel
theorem dX7_set_69 : decode cX7_set 69 = .ok (.iastore, 1) := by decide +kernel
theorem dX7_set_70 : decode cX7_set 70 = .ok (.aload_n 0, 1) := by decide +kernel
theorem dX7_set_71 : decode cX7_set 71 = .ok (.aload_n 0, 1) := by decide +kernel
theorem dX7_set_72 : decode cX7_set 72 = .ok (.getfield 16, 3) := by decide +kernel
theorem dX7_set_75 : decode cX7_set 75 = .ok (.bipush 40, 2) := by decide +kernel
theorem dX7_set_77 : decode cX7_set 77 = .ok (.iload_n 1, 1) := by decide +kernel
theorem dX7_set_78 : decode cX7_set 78 = .ok (.imul, 1) := by decide +kernel
theorem dX7_set_79 : decode cX7_set 79 = .ok (.iload_n 2, 1) := by decide +kernel
theorem dX7_set_80 : decode cX7_set 80 = .ok (.iadd, 1) := by decide +kernel
theorem dX7_set_81 : decode cX7_set 81 = .ok (.iaload, 1) := by decide +kernel
theorem dX7_set_82 : decode cX7_set 82 = .ok (.invokevirtual 78, 3) := by decide +kernel
theorem dX7_set_85 : decode cX7_set 85 = .ok (.ireturn, 1) := by decide +kernel
theorem dX7_copy_0 : decode cX7_copy 0 = .ok (.iload_n 1, 1) := by decide +kernel
theorem dX7_copy_1 : decode cX7_copy 1 = .ok (.invokestatic 67, 3) := by decide +kernel
theorem dX7_copy_4 : decode cX7_copy 4 = .ok (.ifCond .eq 10, 3) := by decide +kernel
theorem dX7_copy_7 : decode cX7_copy 7 = .ok (.iload_n 3, 1) := by decide +kernel
theorem dX7_copy_8 : decode cX7_copy 8 = .ok (.invokestatic 67, 3) := by decide +kernel
theorem dX7_copy_11 : decode cX7_copy 11 = .ok (.ifCond .ne 6, 3) := by decide +kernel
theorem dX7_copy_14 : decode cX7_copy 14 = .ok (.ldc 73, 2) := by decide +kernel
theorem dX7_copy_16 : decode cX7_copy 16 = .ok (.ireturn, 1) := by decide +kernel
theorem dX7_copy_17 : decode cX7_copy 17 = .ok (.aload_n 0, 1) := by decide +kernel
theorem dX7_copy_18 : decode cX7_copy 18 = .ok (.getfield 13, 3) := by decide +kernel
theorem dX7_copy_21 : decode cX7_copy 21 = .ok (.iload_n 1, 1) := by decide +kernel
theorem dX7_copy_22 : decode cX7_copy 22 = .ok (.iaload, 1) := by decide +kernel
theorem dX7_copy_23 : decode cX7_copy 23 = .ok (.ifCond .lt 12, 3) := by decide +kernel
theorem dX7_copy_26 : decode cX7_copy 26 = .ok (.aload_n 0, 1) := by decide +kernel
theorem dX7_copy_27 : decode cX7_copy 27 = .ok (.getfield 13, 3) := by decide +kernel
theorem dX7_copy_30 : decode cX7_copy 30 = .ok (.iload_n 3, 1) := by decide +kernel
theorem dX7_copy_31 : decode cX7_copy 31 = .ok (.iaload, 1) := by decide +kernel
theorem dX7_copy_32 : decode cX7_copy 32 = .ok (.ifCond .ge 9, 3) := by decide +kernel
theorem dX7_copy_35 : decode cX7_copy 35 = .ok (.aload_n 0, 1) := by decide +kernel
theorem dX7_copy_36 : decode cX7_copy 36 = .ok (.iconst 1, 1) := by decide +kernel
theorem dX7_copy_37 : decode cX7_copy 37 = .ok (.invokevirtual 74, 3) := by decide +kernel
theorem dX7_copy_40 : decode cX7_copy 40 = .ok (.ireturn, 1) := by decide +kernel
theorem dX7_copy_41 : decode cX7_copy 41 = .ok (.aload_n 0, 1) := by decide +kernel
theorem dX7_copy_42 : decode cX7_copy 42 = .ok (.getfield 7, 3) := by decide +kernel
theorem dX7_copy_45 : decode cX7_copy 45 = .ok (.iload_n 1, 1) := by decide +kernel
theorem dX7_copy_46 : decode cX7_copy 46 = .ok (.iaload, 1) := by decide +kernel
theorem dX7_copy_47 : decode cX7_copy 47 = .ok (.aload_n 0, 1) := by decide +kernel
theorem dX7_copy_48 : decode cX7_copy 48 = .ok (.getfield 7, 3) := by decide +kernel
theorem dX7_copy_51 : decode cX7_copy 51 = .ok (.iload_n 3, 1) := by decide +kernel
theorem dX7_copy_52 : decode cX7_copy 52 = .ok (.iaload, 1) := by decide +kernel
theorem dX7_copy_53 : decode cX7_copy 53 = .ok (.if_icmp .eq 9, 3) := by decide +kernel
theorem dX7_copy_56 : decode cX7_copy 56 = .ok (.aload_n 0, 1) := by decide +kernel
theorem dX7_copy_57 : decode cX7_copy 57 = .ok (.iconst 5, 1) := by decide +kernel
theorem dX7_copy_58 : decode cX7_copy 58 = .ok (.invokevirtual 74, 3) := by decide +kernel
theorem dX7_copy_61 : decode cX7_copy 61 = .ok (.ireturn, 1) := by decide +kernel
theorem dX7_copy_62 : decode cX7_copy 62 = .ok (.iload 5, 2) := by decide +kernel
theorem dX7_copy_64 : decode cX7_copy 64 = .ok (.ifCond .lt 44, 3) := by decide +kernel
theorem dX7_copy_67 : decode cX7_copy 67 = .ok (.iload_n 2, 1) := by decide +kernel
theorem dX7_copy_68 : decode cX7_copy 68 = .ok (.i2l, 1) := by decide +kernel
theorem dX7_copy_69 : decode cX7_copy 69 = .ok (.lconst 0, 1) := by decide +kernel
theorem dX7_copy_70 : decode cX7_copy 70 = .ok (.aload_n 0, 1) := by decide +kernel
theorem dX7_copy_71 : decode cX7_copy 71 = .ok (.getfield 13, 3) := by decide +kernel
theorem dX7_copy_74 : decode cX7_copy 74 = .ok (.iload_n 1, 1) := by decide +kernel
theorem dX7_copy_75 : decode cX7_copy 75 = .ok (.iaload, 1) := by decide +kernel
theorem dX7_copy_76 : decode cX7_copy 76 = .ok (.i2l, 1) := by decide +kernel
theorem dX7_copy_77 : decode cX7_copy 77 = .ok (.iload 5, 2) := by decide +kernel
theorem dX7_copy_79 : decode cX7_copy 79 = .ok (.i2l, 1) := by decide +kernel
theorem dX7_copy_80 : decode cX7_copy 80 = .ok (.lsub, 1) := by decide +kernel
theorem dX7_copy_81 : decode cX7_copy 81 = .ok (.invokestatic 63, 3) := by decide +kernel
theorem dX7_copy_84 : decode cX7_copy 84 = .ok (.ifCond .eq 24, 3) := by decide +kernel
theorem dX7_copy_87 : decode cX7_copy 87 = .ok (.iload 4, 2) := by decide +kernel
theorem dX7_copy_89 : decode cX7_copy 89 = .ok (.i2l, 1) := by decide +kernel
theorem dX7_copy_90 : decode cX7_copy 90 = .ok (.lconst 0, 1) := by decide +kernel
theorem dX7_copy_91 : decode cX7_copy 91 = .ok (.aload_n 0, 1) := by decide +kernel
theorem dX7_copy_92 : decode cX7_copy 92 = .ok (.getfield 13, 3) := by decide +kernel
theorem dX7_copy_95 : decode cX7_copy 95 = .ok (.iload_n 3, 1) := by decide +kernel
theorem dX7_copy_96 : decode cX7_copy 96 = .ok (.iaload, 1) := by decide +kernel
theorem dX7_copy_97 : decode cX7_copy 97 = .ok (.i2l, 1) := by decide +kernel
theorem dX7_copy_98 : decode cX7_copy 98 = .ok (.iload 5, 2) := by decide +kernel
theorem dX7_copy_100 : decode cX7_copy 100 = .ok (.i2l, 1) := by decide +kernel
theorem dX7_copy_101 : decode cX7_copy 101 = .ok (.lsub, 1) := by decide +kernel
theorem dX7_copy_102 : decode cX7_copy 102 = .ok (.invokestatic 63, 3) := by decide +kernel
theorem dX7_copy_105 : decode cX7_copy 105 = .ok (.ifCond .ne 9, 3) := by decide +kernel
theorem dX7_copy_108 : decode cX7_copy 108 = .ok (.aload_n 0, 1) := by decide +kernel
theorem dX7_copy_109 : decode cX7_copy 109 = .ok (.iconst 2, 1) := by decide +kernel
theorem dX7_copy_110 : decode cX7_copy 110 = .ok (.invokevirtual 74, 3) := by decide +kernel
theorem dX7_copy_113 : decode cX7_copy 113 = .ok (.ireturn, 1) := by decide +kernel
theorem dX7_copy_114 : decode cX7_copy 114 = .ok (.iconst 0, 1) := by decide +kernel
theorem dX7_copy_115 : decode cX7_copy 115 = .ok (.istore 6, 2) := by decide +kernel
theorem dX7_copy_117 : decode cX7_copy 117 = .ok (.iload 6, 2) := by decide +kernel
theorem dX7_copy_119 : decode cX7_copy 119 = .ok (.iload 5, 2) := by decide +kernel
theorem dX7_copy_121 : decode cX7_copy 121 = .ok (.if_icmp .ge 30, 3) := by decide +kernel
theorem dX7_copy_124 : decode cX7_copy 124 = .ok (.aload_n 0, 1) := by decide +kernel
theorem dX7_copy_125 : decode cX7_copy 125 = .ok (.getfield 22, 3) := by decide +kernel
theorem dX7_copy_128 : decode cX7_copy 128 = .ok (.iload 6, 2) := by decide +kernel
theorem dX7_copy_130 : decode cX7_copy 130 = .ok (.aload_n 0, 1) := by decide +kernel
theorem dX7_copy_131 : decode cX7_copy 131 = .ok (.getfield 16, 3) := by decide +kernel
theorem dX7_copy_134 : decode cX7_copy 134 = .ok (.bipush 40, 2) := by decide +kernel
theorem dX7_copy_136 : decode cX7_copy 136 = .ok (.iload_n 1, 1) := by decide +kernel
theorem dX7_copy_137 : decode cX7_copy 137 = .ok (.imul, 1) := by decide +kernel
theorem dX7_copy_138 : decode cX7_copy 138 = .ok (.iload_n 2, 1) := by decide +kernel
theorem dX7_copy_139 : decode cX7_copy 139 = .ok (.iadd, 1) := by decide +kernel
theorem dX7_copy_140 : decode cX7_copy 140 = .ok (.iload 6, 2) := by decide +kernel
theorem dX7_copy_142 : decode cX7_copy 142 = .ok (.iadd, 1) := by decide +kernel
theorem dX7_copy_143 : decode cX7_copy 143 = .ok (.iaload, 1) := by decide +kernel
theorem dX7_copy_144 : decode cX7_copy 144 = .ok (.iastore, 1) := by decide +kernel
theorem dX7_copy_145 : decode cX7_copy 145 = .ok (.iinc 6 1, 3) := by decide +kernel
theorem dX7_copy_148 : decode cX7_copy 148 = .ok (.goto (-31), 3) := by decide +kernel
theorem dX7_copy_151 : decode cX7_copy 151 = .ok (.iconst 0, 1) := by decide +kernel
theorem dX7_copy_152 : decode cX7_copy 152 = .ok (.istore 6, 2) := by decide +kernel
theorem dX7_copy_154 : decode cX7_copy 154 = .ok (.iload 6, 2) := by decide +kernel
theorem dX7_copy_156 : decode cX7_copy 156 = .ok (.iload 5, 2) := by decide +kernel
theorem dX7_copy_158 : decode cX7_copy 158 = .ok (.if_icmp .ge 31, 3) := by decide +kernel
theorem dX7_copy_161 : decode cX7_copy 161 = .ok (.aload_n 0, 1) := by decide +kernel
theorem dX7_copy_162 : decode cX7_copy 162 = .ok (.getfield 16, 3) := by decide +kernel
theorem dX7_copy_165 : decode cX7_copy 165 = .ok (.bipush 40, 2) := by decide +kernel
theorem dX7_copy_167 : decode cX7_copy 167 = .ok (.iload_n 3, 1) := by decide +kernel
theorem dX7_copy_168 : decode cX7_copy 168 = .ok (.imul, 1) := by decide +kernel
theorem dX7_copy_169 : decode cX7_copy 169 = .ok (.iload 4, 2) := by decide +kernel
theorem dX7_copy_171 : decode cX7_copy 171 = .ok (.iadd, 1) := by decide +kernel
theorem dX7_copy_172 : decode cX7_copy 172 = .ok (.iload 6, 2) := by decide +kernel
theorem dX7_copy_174 : decode cX7_copy 174 = .ok (.iadd, 1) := by decide +kernel
theorem dX7_copy_175 : decode cX7_copy 175 = .ok (.aload_n 0, 1) := by decide +kernel
theorem dX7_copy_176 : decode cX7_copy 176 = .ok (.getfield 22, 3) := by decide +kernel
theorem dX7_copy_179 : decode cX7_copy 179 = .ok (.iload 6, 2) := by decide +kernel
theorem dX7_copy_181 : decode cX7_copy 181 = .ok (.iaload, 1) := by decide +kernel
theorem dX7_copy_182 : decode cX7_copy 182 = .ok (.iastore, 1) := by decide +kernel
theorem dX7_copy_183 : decode cX7_copy 183 = .ok (.iinc 6 1, 3) := by decide +kernel
theorem dX7_copy_186 : decode cX7_copy 186 = .ok (.goto (-32), 3) := by decide +kernel
theorem dX7_copy_189 : decode cX7_copy 189 = .ok (.aload_n 0, 1) := by decide +kernel
theorem dX7_copy_190 : decode cX7_copy 190 = .ok (.iload 5, 2) := by decide +kernel
theorem dX7_copy_192 : decode cX7_copy 192 = .ok (.invokevirtual 78, 3) := by decide +kernel
theorem dX7_copy_195 : decode cX7_copy 195 = .ok (.ireturn, 1) := by decide +kernel
theorem dX7_drop_0 : decode cX7_drop 0 = .ok (.iload_n 1, 1) := by decide +kernel
theorem dX7_drop_1 : decode cX7_drop 1 = .ok (.invokestatic 67, 3) := by decide +kernel
theorem dX7_drop_4 : decode cX7_drop 4 = .ok (.ifCond .ne 6, 3) := by decide +kernel
theorem dX7_drop_7 : decode cX7_drop 7 = .ok (.ldc 73, 2) := by decide +kernel
theorem dX7_drop_9 : decode cX7_drop 9 = .ok (.ireturn, 1) := by decide +kernel
theorem dX7_drop_10 : decode cX7_drop 10 = .ok (.aload_n 0, 1) := by decide +kernel
theorem dX7_drop_11 : decode cX7_drop 11 = .ok (.getfield 13, 3) := by decide +kernel
theorem dX7_drop_14 : decode cX7_drop 14 = .ok (.iload_n 1, 1) := by decide +kernel
theorem dX7_drop_15 : decode cX7_drop 15 = .ok (.iaload, 1) := by decide +kernel
theorem dX7_drop_16 : decode cX7_drop 16 = .ok (.ifCond .ge 9, 3) := by decide +kernel
theorem dX7_drop_19 : decode cX7_drop 19 = .ok (.aload_n 0, 1) := by decide +kernel
theorem dX7_drop_20 : decode cX7_drop 20 = .ok (.iconst 1, 1) := by decide +kernel
theorem dX7_drop_21 : decode cX7_drop 21 = .ok (.invokevirtual 74, 3) := by decide +kernel
theorem dX7_drop_24 : decode cX7_drop 24 = .ok (.ireturn, 1) := by decide +kernel
theorem dX7_drop_25 : decode cX7_drop 25 = .ok (.aload_n 0, 1) := by decide +kernel
theorem dX7_drop_26 : decode cX7_drop 26 = .ok (.getfield 13, 3) := by decide +kernel
theorem dX7_drop_29 : decode cX7_drop 29 = .ok (.iload_n 1, 1) := by decide +kernel
theorem dX7_drop_30 : decode cX7_drop 30 = .ok (.iaload, 1) := by decide +kernel
theorem dX7_drop_31 : decode cX7_drop 31 = .ok (.istore_n 2, 1) := by decide +kernel
theorem dX7_drop_32 : decode cX7_drop 32 = .ok (.aload_n 0, 1) := by decide +kernel
theorem dX7_drop_33 : decode cX7_drop 33 = .ok (.getfield 13, 3) := by decide +kernel
theorem dX7_drop_36 : decode cX7_drop 36 = .ok (.iload_n 1, 1) := by decide +kernel
theorem dX7_drop_37 : decode cX7_drop 37 = .ok (.iconst (-1), 1) := by decide +kernel
theorem dX7_drop_38 : decode cX7_drop 38 = .ok (.iastore, 1) := by decide +kernel
theorem dX7_drop_39 : decode cX7_drop 39 = .ok (.aload_n 0, 1) := by decide +kernel
theorem dX7_drop_40 : decode cX7_drop 40 = .ok (.iload_n 2, 1) := by decide +kernel
theorem dX7_drop_41 : decode cX7_drop 41 = .ok (.invokevirtual 78, 3) := by decide +kernel
theorem dX7_drop_44 : decode cX7_drop 44 = .ok (.ireturn, 1) := by decide +kernel
theorem dX7_feed_0 : decode cX7_feed 0 = .ok (.iload_n 1, 1) := by decide +kernel
theorem dX7_feed_1 : decode cX7_feed 1 = .ok (.i2l, 1) := by decide +kernel
theorem dX7_feed_2 : decode cX7_feed 2 = .ok (.lconst 0, 1) := by decide +kernel
theorem dX7_feed_3 : decode cX7_feed 3 = .ok (.ldc2_w 85, 3) := by decide +kernel
theorem dX7_feed_6 : decode cX7_feed 6 = .ok (.invokestatic 63, 3) := by decide +kernel
theorem dX7_feed_9 : decode cX7_feed 9 = .ok (.ifCond .ne 6, 3) := by decide +kernel
theorem dX7_feed_12 : decode cX7_feed 12 = .ok (.ldc 73, 2) := by decide +kernel
theorem dX7_feed_14 : decode cX7_feed 14 = .ok (.ireturn, 1) := by decide +kernel
theorem dX7_feed_15 : decode cX7_feed 15 = .ok (.aload_n 0, 1) := by decide +kernel
theorem dX7_feed_16 : decode cX7_feed 16 = .ok (.getfield 87, 3) := by decide +kernel
theorem dX7_feed_19 : decode cX7_feed 19 = .ok (.bipush 120, 2) := by decide +kernel
theorem dX7_feed_21 : decode cX7_feed 21 = .ok (.if_icmp .ne 6, 3) := by decide +kernel
theorem dX7_feed_24 : decode cX7_feed 24 = .ok (.ldc 90, 2) := by decide +kernel
theorem dX7_feed_26 : decode cX7_feed 26 = .ok (.ireturn, 1) := by decide +kernel
theorem dX7_feed_27 : decode cX7_feed 27 = .ok (.aload_n 0, 1) := by decide +kernel
theorem dX7_feed_28 : decode cX7_feed 28 = .ok (.getfield 25, 3) := by decide +kernel
theorem dX7_feed_31 : decode cX7_feed 31 = .ok (.aload_n 0, 1) := by decide +kernel
theorem dX7_feed_32 : decode cX7_feed 32 = .ok (.getfield 87, 3) := by decide +kernel
theorem dX7_feed_35 : decode cX7_feed 35 = .ok (.iload_n 1, 1) := by decide +kernel
theorem dX7_feed_36 : decode cX7_feed 36 = .ok (.iastore, 1) := by decide +kernel
theorem dX7_feed_37 : decode cX7_feed 37 = .ok (.aload_n 0, 1) := by decide +kernel
theorem dX7_feed_38 : decode cX7_feed 38 = .ok (.dup, 1) := by decide +kernel
theorem dX7_feed_39 : decode cX7_feed 39 = .ok (.getfield 87, 3) := by decide +kernel
theorem dX7_feed_42 : decode cX7_feed 42 = .ok (.iconst 1, 1) := by decide +kernel
theorem dX7_feed_43 : decode cX7_feed 43 = .ok (.iadd, 1) := by decide +kernel
theorem dX7_feed_44 : decode cX7_feed 44 = .ok (.putfield 87, 3) := by decide +kernel
theorem dX7_feed_47 : decode cX7_feed 47 = .ok (.aload_n 0, 1) := by decide +kernel
theorem dX7_feed_48 : decode cX7_feed 48 = .ok (.getfield 87, 3) := by decide +kernel
theorem dX7_feed_51 : decode cX7_feed 51 = .ok (.ireturn, 1) := by decide +kernel
theorem dX7_nextToken_0 : decode cX7_nextToken 0 = .ok (.aload_n 0, 1) := by decide +kernel
theorem dX7_nextToken_1 : decode cX7_nextToken 1 = .ok (.aload_n 0, 1) := by decide +kernel
theorem dX7_nextToken_2 : decode cX7_nextToken 2 = .ok (.getfield 91, 3) := by decide +kernel
theorem dX7_nextToken_5 : decode cX7_nextToken 5 = .ok (.putfield 94, 3) := by decide +kernel
theorem dX7_nextToken_8 : decode cX7_nextToken 8 = .ok (.aload_n 0, 1) := by decide +kernel
theorem dX7_nextToken_9 : decode cX7_nextToken 9 = .ok (.aload_n 0, 1) := by decide +kernel
theorem dX7_nextToken_10 : decode cX7_nextToken 10 = .ok (.getfield 91, 3) := by decide +kernel
theorem dX7_nextToken_13 : decode cX7_nextToken 13 = .ok (.aload_n 0, 1) := by decide +kernel
theorem dX7_nextToken_14 : decode cX7_nextToken 14 = .ok (.getfield 87, 3) := by decide +kernel
theorem dX7_nextToken_17 : decode cX7_nextToken 17 = .ok (.if_icmp .ne 7, 3) := by decide +kernel
theorem dX7_nextToken_20 : decode cX7_nextToken 20 = .ok (.iconst 3, 1) := by decide +kernel
theorem dX7_nextToken_21 : decode cX7_nextToken 21 = .ok (.goto 4, 3) := by decide +kernel
theorem dX7_nextToken_24 : decode cX7_nextToken 24 = .ok (.iconst 0, 1) := by decide +kernel
theorem dX7_nextToken_25 : decode cX7_nextToken 25 = .ok (.putfield 97, 3) := by decide +kernel
theorem dX7_nextToken_28 : decode cX7_nextToken 28 = .ok (.aload_n 0, 1) := by decide +kernel
theorem dX7_nextToken_29 : decode cX7_nextToken 29 = .ok (.iconst 0, 1) := by decide +kernel
theorem dX7_nextToken_30 : decode cX7_nextToken 30 = .ok (.putfield 100, 3) := by decide +kernel
theorem dX7_nextToken_33 : decode cX7_nextToken 33 = .ok (.aload_n 0, 1) := by decide +kernel
theorem dX7_nextToken_34 : decode cX7_nextToken 34 = .ok (.getfield 91, 3) := by decide +kernel
theorem dX7_nextToken_37 : decode cX7_nextToken 37 = .ok (.aload_n 0, 1) := by decide +kernel
theorem dX7_nextToken_38 : decode cX7_nextToken 38 = .ok (.getfield 87, 3) := by decide +kernel
theorem dX7_nextToken_41 : decode cX7_nextToken 41 = .ok (.if_icmp .ge 78, 3) := by decide +kernel
theorem dX7_nextToken_44 : decode cX7_nextToken 44 = .ok (.aload_n 0, 1) := by decide +kernel
theorem dX7_nextToken_45 : decode cX7_nextToken 45 = .ok (.getfield 25, 3) := by decide +kernel
theorem dX7_nextToken_48 : decode cX7_nextToken 48 = .ok (.aload_n 0, 1) := by decide +kernel
theorem dX7_nextToken_49 : decode cX7_nextToken 49 = .ok (.getfield 91, 3) := by decide +kernel
theorem dX7_nextToken_52 : decode cX7_nextToken 52 = .ok (.iaload, 1) := by decide +kernel
theorem dX7_nextToken_53 : decode cX7_nextToken 53 = .ok (.i2l, 1) := by decide +kernel
theorem dX7_nextToken_54 : decode cX7_nextToken 54 = .ok (.ldc2_w 103, 3) := by decide +kernel
theorem dX7_nextToken_57 : decode cX7_nextToken 57 = .ok (.ldc2_w 105, 3) := by decide +kernel
theorem dX7_nextToken_60 : decode cX7_nextToken 60 = .ok (.invokestatic 63, 3) := by decide +kernel
theorem dX7_nextToken_63 : decode cX7_nextToken 63 = .ok (.ifCond .eq 56, 3) := by decide +kernel
theorem dX7_nextToken_66 : decode cX7_nextToken 66 = .ok (.aload_n 0, 1) := by decide +kernel
theorem dX7_nextToken_67 : decode cX7_nextToken 67 = .ok (.aload_n 0, 1) := by decide +kernel
theorem dX7_nextToken_68 : decode cX7_nextToken 68 = .ok (.getfield 100, 3) := by decide +kernel
theorem dX7_nextToken_71 : decode cX7_nextToken 71 = .ok (.bipush 99, 2) := by decide +kernel
theorem dX7_nextToken_73 : decode cX7_nextToken 73 = .ok (.if_icmp .le 10, 3) := by decide +kernel
theorem dX7_nextToken_76 : decode cX7_nextToken 76 = .ok (.aload_n 0, 1) := by decide +kernel
theorem dX7_nextToken_77 : decode cX7_nextToken 77 = .ok (.getfield 100, 3) := by decide +kernel
theorem dX7_nextToken_80 : decode cX7_nextToken 80 = .ok (.goto 23, 3) := by decide +kernel
theorem dX7_nextToken_83 : decode cX7_nextToken 83 = .ok (.bipush 10, 2) := by decide +kernel
theorem dX7_nextToken_85 : decode cX7_nextToken 85 = .ok (.aload_n 0, 1) := by decide +kernel
theorem dX7_nextToken_86 : decode cX7_nextToken 86 = .ok (.getfield 100, 3) := by decide +kernel
theorem dX7_nextToken_89 : decode cX7_nextToken 89 = .ok (.imul, 1) := by decide +kernel
theorem dX7_nextToken_90 : decode cX7_nextToken 90 = .ok (.aload_n 0, 1) := by decide +kernel
theorem dX7_nextToken_91 : decode cX7_nextToken 91 = .ok (.getfield 25, 3) := by decide +kernel
theorem dX7_nextToken_94 : decode cX7_nextToken 94 = .ok (.aload_n 0, 1) := by decide +kernel
theorem dX7_nextToken_95 : decode cX7_nextToken 95 = .ok (.getfield 91, 3) := by decide +kernel
theorem dX7_nextToken_98 : decode cX7_nextToken 98 = .ok (.iaload, 1) := by decide +kernel
theorem dX7_nextToken_99 : decode cX7_nextToken 99 = .ok (.iadd, 1) := by decide +kernel
theorem dX7_nextToken_100 : decode cX7_nextToken 100 = .ok (.bipush 48, 2) := by decide +kernel
theorem dX7_nextToken_102 : decode cX7_nextToken 102 = .ok (.isub, 1) := by decide +kernel
theorem dX7_nextToken_103 : decode cX7_nextToken 103 = .ok (.putfield 100, 3) := by decide +kernel
theorem dX7_nextToken_106 : decode cX7_nextToken 106 = .ok (.aload_n 0, 1) := by decide +kernel
theorem dX7_nextToken_107 : decode cX7_nextToken 107 = .ok (.dup, 1) := by decide +kernel
theorem dX7_nextToken_108 : decode cX7_nextToken 108 = .ok (.getfield 91, 3) := by decide +kernel
theorem dX7_nextToken_111 : decode cX7_nextToken 111 = .ok (.iconst 1, 1) := by decide +kernel
theorem dX7_nextToken_112 : decode cX7_nextToken 112 = .ok (.iadd, 1) := by decide +kernel
theorem dX7_nextToken_113 : decode cX7_nextToken 113 = .ok (.putfield 91, 3) := by decide +kernel
theorem dX7_nextToken_116 : decode cX7_nextToken 116 = .ok (.goto (-83), 3) := by decide +kernel
theorem dX7_nextToken_119 : decode cX7_nextToken 119 = .ok (.aload_n 0, 1) := by decide +kernel
theorem dX7_nextToken_120 : decode cX7_nextToken 120 = .ok (.getfield 91, 3) := by decide +kernel
theorem dX7_nextToken_123 : decode cX7_nextToken 123 = .ok (.aload_n 0, 1) := by decide +kernel
theorem dX7_nextToken_124 : decode cX7_nextToken 124 = .ok (.getfield 94, 3) := by decide +kernel
theorem dX7_nextToken_127 : decode cX7_nextToken 127 = .ok (.if_icmp .le 28, 3) := by decide +kernel
theorem dX7_nextToken_130 : decode cX7_nextToken 130 = .ok (.aload_n 0, 1) := by decide +kernel
theorem dX7_nextToken_131 : decode cX7_nextToken 131 = .ok (.aload_n 0, 1) := by decide +kernel
theorem dX7_nextToken_132 : decode cX7_nextToken 132 = .ok (.getfield 91, 3) := by decide +kernel
theorem dX7_nextToken_135 : decode cX7_nextToken 135 = .ok (.aload_n 0, 1) := by decide +kernel
theorem dX7_nextToken_136 : decode cX7_nextToken 136 = .ok (.getfield 94, 3) := by decide +kernel
theorem dX7_nextToken_139 : decode cX7_nextToken 139 = .ok (.isub, 1) := by decide +kernel
theorem dX7_nextToken_140 : decode cX7_nextToken 140 = .ok (.iconst 2, 1) := by decide +kernel
theorem dX7_nextToken_141 : decode cX7_nextToken 141 = .ok (.if_icmp .le 7, 3) := by decide +kernel
theorem dX7_nextToken_144 : decode cX7_nextToken 144 = .ok (.iconst 0, 1) := by decide +kernel
theorem dX7_nextToken_145 : decode cX7_nextToken 145 = .ok (.goto 4, 3) := by decide +kernel
theorem dX7_nextToken_148 : decode cX7_nextToken 148 = .ok (.iconst 2, 1) := by decide +kernel
theorem dX7_nextToken_149 : decode cX7_nextToken 149 = .ok (.putfield 97, 3) := by decide +kernel
theorem dX7_nextToken_152 : decode cX7_nextToken 152 = .ok (.goto 77, 3) := by decide +kernel
theorem dX7_nextToken_155 : decode cX7_nextToken 155 = .ok (.aload_n 0, 1) := by decide +kernel
theorem dX7_nextToken_156 : decode cX7_nextToken 156 = .ok (.getfield 97, 3) := by decide +kernel
theorem dX7_nextToken_159 : decode cX7_nextToken 159 = .ok (.ifCond .ne 70, 3) := by decide +kernel
theorem dX7_nextToken_162 : decode cX7_nextToken 162 = .ok (.aload_n 0, 1) := by decide +kernel
theorem dX7_nextToken_163 : decode cX7_nextToken 163 = .ok (.aload_n 0, 1) := by decide +kernel
theorem dX7_nextToken_164 : decode cX7_nextToken 164 = .ok (.getfield 25, 3) := by decide +kernel
theorem dX7_nextToken_167 : decode cX7_nextToken 167 = .ok (.aload_n 0, 1) := by decide +kernel
theorem dX7_nextToken_168 : decode cX7_nextToken 168 = .ok (.getfield 91, 3) := by decide +kernel
theorem dX7_nextToken_171 : decode cX7_nextToken 171 = .ok (.iaload, 1) := by decide +kernel
theorem dX7_nextToken_172 : decode cX7_nextToken 172 = .ok (.putfield 100, 3) := by decide +kernel
theorem dX7_nextToken_175 : decode cX7_nextToken 175 = .ok (.aload_n 0, 1) := by decide +kernel
theorem dX7_nextToken_176 : decode cX7_nextToken 176 = .ok (.aload_n 0, 1) := by decide +kernel
theorem dX7_nextToken_177 : decode cX7_nextToken 177 = .ok (.getfield 100, 3) := by decide +kernel
theorem dX7_nextToken_180 : decode cX7_nextToken 180 = .ok (.i2l, 1) := by decide +kernel
theorem dX7_nextToken_181 : decode cX7_nextToken 181 = .ok (.ldc2_w 107, 3) := by decide +kernel
theorem dX7_nextToken_184 : decode cX7_nextToken 184 = .ok (.ldc2_w 109, 3) := by decide +kernel
theorem dX7_nextToken_187 : decode cX7_nextToken 187 = .ok (.invokestatic 63, 3) := by decide +kernel
theorem dX7_nextToken_190 : decode cX7_nextToken 190 = .ok (.ifCond .ne 21, 3) := by decide +kernel
theorem dX7_nextToken_193 : decode cX7_nextToken 193 = .ok (.aload_n 0, 1) := by decide +kernel
theorem dX7_nextToken_194 : decode cX7_nextToken 194 = .ok (.getfield 100, 3) := by decide +kernel
theorem dX7_nextToken_197 : decode cX7_nextToken 197 = .ok (.bipush 44, 2) := by decide +kernel
theorem dX7_nextToken_199 : decode cX7_nextToken 199 = .ok (.if_icmp .eq 12, 3) := by decide +kernel
theorem dX7_nextToken_202 : decode cX7_nextToken 202 = .ok (.aload_n 0, 1) := by decide +kernel
theorem dX7_nextToken_203 : decode cX7_nextToken 203 = .ok (.getfield 100, 3) := by decide +kernel
theorem dX7_nextToken_206 : decode cX7_nextToken 206 = .ok (.bipush 59, 2) := by decide +kernel
theorem dX7_nextToken_208 : decode cX7_nextToken 208 = .ok (.if_icmp .ne 7, 3) := by decide +kernel
theorem dX7_nextToken_211 : decode cX7_nextToken 211 = .ok (.iconst 1, 1) := by decide +kernel
theorem dX7_nextToken_212 : decode cX7_nextToken 212 = .ok (.goto 4, 3) := by decide +kernel
theorem dX7_nextToken_215 : decode cX7_nextToken 215 = .ok (.iconst 0, 1) := by decide +kernel
theorem dX7_nextToken_216 : decode cX7_nextToken 216 = .ok (.putfield 97, 3) := by decide +kernel
theorem dX7_nextToken_219 : decode cX7_nextToken 219 = .ok (.aload_n 0, 1) := by decide +kernel
theorem dX7_nextToken_220 : decode cX7_nextToken 220 = .ok (.dup, 1) := by decide +kernel
theorem dX7_nextToken_221 : decode cX7_nextToken 221 = .ok (.getfield 91, 3) := by decide +kernel
theorem dX7_nextToken_224 : decode cX7_nextToken 224 = .ok (.iconst 1, 1) := by decide +kernel
theorem dX7_nextToken_225 : decode cX7_nextToken 225 = .ok (.iadd, 1) := by decide +kernel
theorem dX7_nextToken_226 : decode cX7_nextToken 226 = .ok (.putfield 91, 3) := by decide +kernel
theorem dX7_nextToken_229 : decode cX7_nextToken 229 = .ok (.return_, 1) := by decide +kernel
theorem dX7_faults_0 : decode cX7_faults 0 = .ok (.aload_n 0, 1) := by decide +kernel
theorem dX7_faults_1 : decode cX7_faults 1 = .ok (.iload_n 1, 1) := by decide +kernel
theorem dX7_faults_2 : decode cX7_faults 2 = .ok (.putfield 111, 3) := by decide +kernel
theorem dX7_faults_5 : decode cX7_faults 5 = .ok (.iconst 0, 1) := by decide +kernel
theorem dX7_faults_6 : decode cX7_faults 6 = .ok (.ireturn, 1) := by decide +kernel
theorem dX7_isLetter_0 : decode cX7_isLetter 0 = .ok (.aload_n 0, 1) := by decide +kernel
theorem dX7_isLetter_1 : decode cX7_isLetter 1 = .ok (.getfield 97, 3) := by decide +kernel
theorem dX7_isLetter_4 : decode cX7_isLetter 4 = .ok (.iconst 1, 1) := by decide +kernel
theorem dX7_isLetter_5 : decode cX7_isLetter 5 = .ok (.if_icmp .ne 15, 3) := by decide +kernel
theorem dX7_isLetter_8 : decode cX7_isLetter 8 = .ok (.aload_n 0, 1) := by decide +kernel
theorem dX7_isLetter_9 : decode cX7_isLetter 9 = .ok (.getfield 100, 3) := by decide +kernel
theorem dX7_isLetter_12 : decode cX7_isLetter 12 = .ok (.iload_n 1, 1) := by decide +kernel
theorem dX7_isLetter_13 : decode cX7_isLetter 13 = .ok (.if_icmp .ne 7, 3) := by decide +kernel
theorem dX7_isLetter_16 : decode cX7_isLetter 16 = .ok (.iconst 1, 1) := by decide +kernel
theorem dX7_isLetter_17 : decode cX7_isLetter 17 = .ok (.goto 4, 3) := by decide +kernel
theorem dX7_isLetter_20 : decode cX7_isLetter 20 = .ok (.iconst 0, 1) := by decide +kernel
theorem dX7_isLetter_21 : decode cX7_isLetter 21 = .ok (.ireturn, 1) := by decide +kernel
theorem dX7_takes_0 : decode cX7_takes 0 = .ok (.aload_n 0, 1) := by decide +kernel
theorem dX7_takes_1 : decode cX7_takes 1 = .ok (.iload_n 1, 1) := by decide +kernel
theorem dX7_takes_2 : decode cX7_takes 2 = .ok (.invokevirtual 114, 3) := by decide +kernel
theorem dX7_takes_5 : decode cX7_takes 5 = .ok (.ifCond .ne 9, 3) := by decide +kernel
theorem dX7_takes_8 : decode cX7_takes 8 = .ok (.aload_n 0, 1) := by decide +kernel
theorem dX7_takes_9 : decode cX7_takes 9 = .ok (.iconst 1, 1) := by decide +kernel
theorem dX7_takes_10 : decode cX7_takes 10 = .ok (.invokevirtual 117, 3) := by decide +kernel
theorem dX7_takes_13 : decode cX7_takes 13 = .ok (.ireturn, 1) := by decide +kernel
theorem dX7_takes_14 : decode cX7_takes 14 = .ok (.aload_n 0, 1) := by decide +kernel
theorem dX7_takes_15 : decode cX7_takes 15 = .ok (.invokevirtual 120, 3) := by decide +kernel
theorem dX7_takes_18 : decode cX7_takes 18 = .ok (.iconst 1, 1) := by decide +kernel
theorem dX7_takes_19 : decode cX7_takes 19 = .ok (.ireturn, 1) := by decide +kernel
theorem dX7_takesNumber_0 : decode cX7_takesNumber 0 = .ok (.aload_n 0, 1) := by decide +kernel
theorem dX7_takesNumber_1 : decode cX7_takesNumber 1 = .ok (.getfield 97, 3) := by decide +kernel
theorem dX7_takesNumber_4 : decode cX7_takesNumber 4 = .ok (.iconst 2, 1) := by decide +kernel
theorem dX7_takesNumber_5 : decode cX7_takesNumber 5 = .ok (.if_icmp .ne 18, 3) := by decide +kernel
theorem dX7_takesNumber_8 : decode cX7_takesNumber 8 = .ok (.aload_n 0, 1) := by decide +kernel
theorem dX7_takesNumber_9 : decode cX7_takesNumber 9 = .ok (.getfield 100, 3) := by decide +kernel
theorem dX7_takesNumber_12 : decode cX7_takesNumber 12 = .ok (.i2l, 1) := by decide +kernel
theorem dX7_takesNumber_13 : decode cX7_takesNumber 13 = .ok (.iload_n 1, 1) := by decide +kernel
theorem dX7_takesNumber_14 : decode cX7_takesNumber 14 = .ok (.i2l, 1) := by decide +kernel
theorem dX7_takesNumber_15 : decode cX7_takesNumber 15 = .ok (.iload_n 2, 1) := by decide +kernel
theorem dX7_takesNumber_16 : decode cX7_takesNumber 16 = .ok (.i2l, 1) := by decide +kernel
theorem dX7_takesNumber_17 : decode cX7_takesNumber 17 = .ok (.invokestatic 63, 3) := by decide +kernel
theorem dX7_takesNumber_20 : decode cX7_takesNumber 20 = .ok (.ifCond .ne 21, 3) := by decide +kernel
theorem dX7_takesNumber_23 : decode cX7_takesNumber 23 = .ok (.aload_n 0, 1) := by decide +kernel
theorem dX7_takesNumber_24 : decode cX7_takesNumber 24 = .ok (.aload_n 0, 1) := by decide +kernel
theorem dX7_takesNumber_25 : decode cX7_takesNumber 25 = .ok (.getfield 97, 3) := by decide +kernel
theorem dX7_takesNumber_28 : decode cX7_takesNumber 28 = .ok (.iconst 2, 1) := by decide +kernel
theorem dX7_takesNumber_29 : decode cX7_takesNumber 29 = .ok (.if_icmp .ne 7, 3) := by decide +kernel
theorem dX7_takesNumber_32 : decode cX7_takesNumber 32 = .ok (.iconst 2, 1) := by decide +kernel
theorem dX7_takesNumber_33 : decode cX7_takesNumber 33 = .ok (.goto 4, 3) := by decide +kernel
theorem dX7_takesNumber_36 : decode cX7_takesNumber 36 = .ok (.iconst 1, 1) := by decide +kernel
theorem dX7_takesNumber_37 : decode cX7_takesNumber 37 = .ok (.invokevirtual 117, 3) := by decide +kernel
theorem dX7_takesNumber_40 : decode cX7_takesNumber 40 = .ok (.ireturn, 1) := by decide +kernel
theorem dX7_takesNumber_41 : decode cX7_takesNumber 41 = .ok (.aload_n 0, 1) := by decide +kernel
theorem dX7_takesNumber_42 : decode cX7_takesNumber 42 = .ok (.getfield 28, 3) := by decide +kernel
theorem dX7_takesNumber_45 : decode cX7_takesNumber 45 = .ok (.iload_n 3, 1) := by decide +kernel
theorem dX7_takesNumber_46 : decode cX7_takesNumber 46 = .ok (.aload_n 0, 1) := by decide +kernel
theorem dX7_takesNumber_47 : decode cX7_takesNumber 47 = .ok (.getfield 100, 3) := by decide +kernel
theorem dX7_takesNumber_50 : decode cX7_takesNumber 50 = .ok (.iastore, 1) := by decide +kernel
theorem dX7_takesNumber_51 : decode cX7_takesNumber 51 = .ok (.aload_n 0, 1) := by decide +kernel
theorem dX7_takesNumber_52 : decode cX7_takesNumber 52 = .ok (.invokevirtual 120, 3) := by decide +kernel
theorem dX7_takesNumber_55 : decode cX7_takesNumber 55 = .ok (.aload_n 0, 1) := by decide +kernel
theorem dX7_takesNumber_56 : decode cX7_takesNumber 56 = .ok (.iload 4, 2) := by decide +kernel
theorem dX7_takesNumber_58 : decode cX7_takesNumber 58 = .ok (.invokevirtual 123, 3) := by decide +kernel
theorem dX7_takesNumber_61 : decode cX7_takesNumber 61 = .ok (.ireturn, 1) := by decide +kernel
theorem dX7_readBook_0 : decode cX7_readBook 0 = .ok (.aload_n 0, 1) := by decide +kernel
theorem dX7_readBook_1 : decode cX7_readBook 1 = .ok (.getfield 28, 3) := by decide +kernel
theorem dX7_readBook_4 : decode cX7_readBook 4 = .ok (.iconst 0, 1) := by decide +kernel
theorem dX7_readBook_5 : decode cX7_readBook 5 = .ok (.iaload, 1) := by decide +kernel
theorem dX7_readBook_6 : decode cX7_readBook 6 = .ok (.istore_n 1, 1) := by decide +kernel
theorem dX7_readBook_7 : decode cX7_readBook 7 = .ok (.aload_n 0, 1) := by decide +kernel
theorem dX7_readBook_8 : decode cX7_readBook 8 = .ok (.getfield 28, 3) := by decide +kernel
theorem dX7_readBook_11 : decode cX7_readBook 11 = .ok (.iconst 1, 1) := by decide +kernel
theorem dX7_readBook_12 : decode cX7_readBook 12 = .ok (.iaload, 1) := by decide +kernel
theorem dX7_readBook_13 : decode cX7_readBook 13 = .ok (.ifCond .gt 9, 3) := by decide +kernel
theorem dX7_readBook_16 : decode cX7_readBook 16 = .ok (.iload_n 1, 1) := by decide +kernel
theorem dX7_readBook_17 : decode cX7_readBook 17 = .ok (.bipush 6, 2) := by decide +kernel
theorem dX7_readBook_19 : decode cX7_readBook 19 = .ok (.if_icmp .ne 22, 3) := by decide +kernel
theorem dX7_readBook_22 : decode cX7_readBook 22 = .ok (.aload_n 0, 1) := by decide +kernel
theorem dX7_readBook_23 : decode cX7_readBook 23 = .ok (.aload_n 0, 1) := by decide +kernel
theorem dX7_readBook_24 : decode cX7_readBook 24 = .ok (.getfield 28, 3) := by decide +kernel
theorem dX7_readBook_27 : decode cX7_readBook 27 = .ok (.iconst 1, 1) := by decide +kernel
theorem dX7_readBook_28 : decode cX7_readBook 28 = .ok (.iaload, 1) := by decide +kernel
theorem dX7_readBook_29 : decode cX7_readBook 29 = .ok (.ifCond .le 7, 3) := by decide +kernel
theorem dX7_readBook_32 : decode cX7_readBook 32 = .ok (.iconst 1, 1) := by decide +kernel
theorem dX7_readBook_33 : decode cX7_readBook 33 = .ok (.goto 4, 3) := by decide +kernel
theorem dX7_readBook_36 : decode cX7_readBook 36 = .ok (.iconst 3, 1) := by decide +kernel
theorem dX7_readBook_37 : decode cX7_readBook 37 = .ok (.invokevirtual 117, 3) := by decide +kernel
theorem dX7_readBook_40 : decode cX7_readBook 40 = .ok (.ireturn, 1) := by decide +kernel
theorem dX7_readBook_41 : decode cX7_readBook 41 = .ok (.aload_n 0, 1) := by decide +kernel
theorem dX7_readBook_42 : decode cX7_readBook 42 = .ok (.invokevirtual 120, 3) := by decide +kernel
theorem dX7_readBook_45 : decode cX7_readBook 45 = .ok (.aload_n 0, 1) := by decide +kernel
theorem dX7_readBook_46 : decode cX7_readBook 46 = .ok (.getfield 28, 3) := by decide +kernel
theorem dX7_readBook_49 : decode cX7_readBook 49 = .ok (.bipush 20, 2) := by decide +kernel
theorem dX7_readBook_51 : decode cX7_readBook 51 = .ok (.iload_n 1, 1) := by decide +kernel
theorem dX7_readBook_52 : decode cX7_readBook 52 = .ok (.iadd, 1) := by decide +kernel
theorem dX7_readBook_53 : decode cX7_readBook 53 = .ok (.iload_n 1, 1) := by decide +kernel
theorem dX7_readBook_54 : decode cX7_readBook 54 = .ok (.iastore, 1) := by decide +kernel
theorem dX7_readBook_55 : decode cX7_readBook 55 = .ok (.aload_n 0, 1) := by decide +kernel
theorem dX7_readBook_56 : decode cX7_readBook 56 = .ok (.getfield 28, 3) := by decide +kernel
theorem dX7_readBook_59 : decode cX7_readBook 59 = .ok (.iconst 0, 1) := by decide +kernel
theorem dX7_readBook_60 : decode cX7_readBook 60 = .ok (.dup2, 1) := by decide +kernel
theorem dX7_readBook_61 : decode cX7_readBook 61 = .ok (.iaload, 1) := by decide +kernel
theorem dX7_readBook_62 : decode cX7_readBook 62 = .ok (.iconst 1, 1) := by decide +kernel
theorem dX7_readBook_63 : decode cX7_readBook 63 = .ok (.iadd, 1) := by decide +kernel
theorem dX7_readBook_64 : decode cX7_readBook 64 = .ok (.iastore, 1) := by decide +kernel
theorem dX7_readBook_65 : decode cX7_readBook 65 = .ok (.aload_n 0, 1) := by decide +kernel
theorem dX7_readBook_66 : decode cX7_readBook 66 = .ok (.iconst 0, 1) := by decide +kernel
theorem dX7_readBook_67 : decode cX7_readBook 67 = .ok (.bipush 99, 2) := by decide +kernel
theorem dX7_readBook_69 : decode cX7_readBook 69 = .ok (.bipush 8, 2) := by decide +kernel
theorem dX7_readBook_71 : decode cX7_readBook 71 = .ok (.iload_n 1, 1) := by decide +kernel
theorem dX7_readBook_72 : decode cX7_readBook 72 = .ok (.iadd, 1) := by decide +kernel
theorem dX7_readBook_73 : decode cX7_readBook 73 = .ok (.bipush 44, 2) := by decide +kernel
theorem dX7_readBook_75 : decode cX7_readBook 75 = .ok (.invokevirtual 126, 3) := by decide +kernel
theorem dX7_readBook_78 : decode cX7_readBook 78 = .ok (.ifCond .eq 23, 3) := by decide +kernel
theorem dX7_readBook_81 : decode cX7_readBook 81 = .ok (.aload_n 0, 1) := by decide +kernel
theorem dX7_readBook_82 : decode cX7_readBook 82 = .ok (.iconst 0, 1) := by decide +kernel
theorem dX7_readBook_83 : decode cX7_readBook 83 = .ok (.bipush 9, 2) := by decide +kernel
theorem dX7_readBook_85 : decode cX7_readBook 85 = .ok (.bipush 14, 2) := by decide +kernel
theorem dX7_readBook_87 : decode cX7_readBook 87 = .ok (.iload_n 1, 1) := by decide +kernel
theorem dX7_readBook_88 : decode cX7_readBook 88 = .ok (.iadd, 1) := by decide +kernel
theorem dX7_readBook_89 : decode cX7_readBook 89 = .ok (.bipush 59, 2) := by decide +kernel
theorem dX7_readBook_91 : decode cX7_readBook 91 = .ok (.invokevirtual 126, 3) := by decide +kernel
theorem dX7_readBook_94 : decode cX7_readBook 94 = .ok (.ifCond .eq 7, 3) := by decide +kernel
theorem dX7_readBook_97 : decode cX7_readBook 97 = .ok (.iconst 1, 1) := by decide +kernel
theorem dX7_readBook_98 : decode cX7_readBook 98 = .ok (.goto 4, 3) := by decide +kernel
theorem dX7_readBook_101 : decode cX7_readBook 101 = .ok (.iconst 0, 1) := by decide +kernel
theorem dX7_readBook_102 : decode cX7_readBook 102 = .ok (.ireturn, 1) := by decide +kernel
theorem dX7_kindBy_0 : decode cX7_kindBy 0 = .ok (.iload_n 0, 1) := by decide +kernel
theorem dX7_kindBy_1 : decode cX7_kindBy 1 = .ok (.bipush 114, 2) := by decide +kernel
theorem dX7_kindBy_3 : decode cX7_kindBy 3 = .ok (.if_icmp .ne 7, 3) := by decide +kernel
theorem dX7_kindBy_6 : decode cX7_kindBy 6 = .ok (.iconst 1, 1) := by decide +kernel
theorem dX7_kindBy_7 : decode cX7_kindBy 7 = .ok (.goto 44, 3) := by decide +kernel
theorem dX7_kindBy_10 : decode cX7_kindBy 10 = .ok (.iload_n 0, 1) := by decide +kernel
theorem dX7_kindBy_11 : decode cX7_kindBy 11 = .ok (.bipush 112, 2) := by decide +kernel
theorem dX7_kindBy_13 : decode cX7_kindBy 13 = .ok (.if_icmp .ne 7, 3) := by decide +kernel
theorem dX7_kindBy_16 : decode cX7_kindBy 16 = .ok (.iconst 2, 1) := by decide +kernel
theorem dX7_kindBy_17 : decode cX7_kindBy 17 = .ok (.goto 34, 3) := by decide +kernel
theorem dX7_kindBy_20 : decode cX7_kindBy 20 = .ok (.iload_n 0, 1) := by decide +kernel
theorem dX7_kindBy_21 : decode cX7_kindBy 21 = .ok (.bipush 99, 2) := by decide +kernel
theorem dX7_kindBy_23 : decode cX7_kindBy 23 = .ok (.if_icmp .ne 7, 3) := by decide +kernel
theorem dX7_kindBy_26 : decode cX7_kindBy 26 = .ok (.iconst 3, 1) := by decide +kernel
theorem dX7_kindBy_27 : decode cX7_kindBy 27 = .ok (.goto 24, 3) := by decide +kernel
theorem dX7_kindBy_30 : decode cX7_kindBy 30 = .ok (.iload_n 0, 1) := by decide +kernel
theorem dX7_kindBy_31 : decode cX7_kindBy 31 = .ok (.bipush 119, 2) := by decide +kernel
theorem dX7_kindBy_33 : decode cX7_kindBy 33 = .ok (.if_icmp .ne 7, 3) := by decide +kernel
theorem dX7_kindBy_36 : decode cX7_kindBy 36 = .ok (.iconst 4, 1) := by decide +kernel
theorem dX7_kindBy_37 : decode cX7_kindBy 37 = .ok (.goto 14, 3) := by decide +kernel
theorem dX7_kindBy_40 : decode cX7_kindBy 40 = .ok (.iload_n 0, 1) := by decide +kernel
theorem dX7_kindBy_41 : decode cX7_kindBy 41 = .ok (.bipush 115, 2) := by decide +kernel
theorem dX7_kindBy_43 : decode cX7_kindBy 43 = .ok (.if_icmp .ne 7, 3) := by decide +kernel
theorem dX7_kindBy_46 : decode cX7_kindBy 46 = .ok (.iconst 5, 1) := by decide +kernel
theorem dX7_kindBy_47 : decode cX7_kindBy 47 = .ok (.goto 4, 3) := by decide +kernel
theorem dX7_kindBy_50 : decode cX7_kindBy 50 = .ok (.iconst 0, 1) := by decide +kernel
theorem dX7_kindBy_51 : decode cX7_kindBy 51 = .ok (.ireturn, 1) := by decide +kernel
theorem dX7_readFish_0 : decode cX7_readFish 0 = .ok (.aload_n 0, 1) := by decide +kernel
theorem dX7_readFish_1 : decode cX7_readFish 1 = .ok (.getfield 28, 3) := by decide +kernel
theorem dX7_readFish_4 : decode cX7_readFish 4 = .ok (.iconst 1, 1) := by decide +kernel
theorem dX7_readFish_5 : decode cX7_readFish 5 = .ok (.iaload, 1) := by decide +kernel
theorem dX7_readFish_6 : decode cX7_readFish 6 = .ok (.istore_n 2, 1) := by decide +kernel
theorem dX7_readFish_7 : decode cX7_readFish 7 = .ok (.aload_n 0, 1) := by decide +kernel
theorem dX7_readFish_8 : decode cX7_readFish 8 = .ok (.getfield 28, 3) := by decide +kernel
theorem dX7_readFish_11 : decode cX7_readFish 11 = .ok (.iconst 0, 1) := by decide +kernel
theorem dX7_readFish_12 : decode cX7_readFish 12 = .ok (.iaload, 1) := by decide +kernel
theorem dX7_readFish_13 : decode cX7_readFish 13 = .ok (.ifCond .eq 8, 3) := by decide +kernel
theorem dX7_readFish_16 : decode cX7_readFish 16 = .ok (.iload_n 2, 1) := by decide +kernel
theorem dX7_readFish_17 : decode cX7_readFish 17 = .ok (.iconst 5, 1) := by decide +kernel
theorem dX7_readFish_18 : decode cX7_readFish 18 = .ok (.if_icmp .ne 22, 3) := by decide +kernel
theorem dX7_readFish_21 : decode cX7_readFish 21 = .ok (.aload_n 0, 1) := by decide +kernel
theorem dX7_readFish_22 : decode cX7_readFish 22 = .ok (.aload_n 0, 1) := by decide +kernel
theorem dX7_readFish_23 : decode cX7_readFish 23 = .ok (.getfield 28, 3) := by decide +kernel
theorem dX7_readFish_26 : decode cX7_readFish 26 = .ok (.iconst 0, 1) := by decide +kernel
theorem dX7_readFish_27 : decode cX7_readFish 27 = .ok (.iaload, 1) := by decide +kernel
theorem dX7_readFish_28 : decode cX7_readFish 28 = .ok (.ifCond .ne 7, 3) := by decide +kernel
theorem dX7_readFish_31 : decode cX7_readFish 31 = .ok (.iconst 1, 1) := by decide +kernel
theorem dX7_readFish_32 : decode cX7_readFish 32 = .ok (.goto 4, 3) := by decide +kernel
theorem dX7_readFish_35 : decode cX7_readFish 35 = .ok (.iconst 3, 1) := by decide +kernel
theorem dX7_readFish_36 : decode cX7_readFish 36 = .ok (.invokevirtual 117, 3) := by decide +kernel
theorem dX7_readFish_39 : decode cX7_readFish 39 = .ok (.ireturn, 1) := by decide +kernel
theorem dX7_readFish_40 : decode cX7_readFish 40 = .ok (.aload_n 0, 1) := by decide +kernel
theorem dX7_readFish_41 : decode cX7_readFish 41 = .ok (.invokevirtual 120, 3) := by decide +kernel
theorem dX7_readFish_44 : decode cX7_readFish 44 = .ok (.aload_n 0, 1) := by decide +kernel
theorem dX7_readFish_45 : decode cX7_readFish 45 = .ok (.getfield 28, 3) := by decide +kernel
theorem dX7_readFish_48 : decode cX7_readFish 48 = .ok (.bipush 26, 2) := by decide +kernel
theorem dX7_readFish_50 : decode cX7_readFish 50 = .ok (.iload_n 2, 1) := by decide +kernel
theorem dX7_readFish_51 : decode cX7_readFish 51 = .ok (.iadd, 1) := by decide +kernel
theorem dX7_readFish_52 : decode cX7_readFish 52 = .ok (.iload_n 1, 1) := by decide +kernel
theorem dX7_readFish_53 : decode cX7_readFish 53 = .ok (.iastore, 1) := by decide +kernel
theorem dX7_readFish_54 : decode cX7_readFish 54 = .ok (.aload_n 0, 1) := by decide +kernel
theorem dX7_readFish_55 : decode cX7_readFish 55 = .ok (.getfield 28, 3) := by decide +kernel
theorem dX7_readFish_58 : decode cX7_readFish 58 = .ok (.iconst 1, 1) := by decide +kernel
theorem dX7_readFish_59 : decode cX7_readFish 59 = .ok (.dup2, 1) := by decide +kernel
theorem dX7_readFish_60 : decode cX7_readFish 60 = .ok (.iaload, 1) := by decide +kernel
theorem dX7_readFish_61 : decode cX7_readFish 61 = .ok (.iconst 1, 1) := by decide +kernel
theorem dX7_readFish_62 : decode cX7_readFish 62 = .ok (.iadd, 1) := by decide +kernel
theorem dX7_readFish_63 : decode cX7_readFish 63 = .ok (.iastore, 1) := by decide +kernel
theorem dX7_readFish_64 : decode cX7_readFish 64 = .ok (.aload_n 0, 1) := by decide +kernel
theorem dX7_readFish_65 : decode cX7_readFish 65 = .ok (.iconst 0, 1) := by decide +kernel
theorem dX7_readFish_66 : decode cX7_readFish 66 = .ok (.aload_n 0, 1) := by decide +kernel
theorem dX7_readFish_67 : decode cX7_readFish 67 = .ok (.getfield 28, 3) := by decide +kernel
theorem dX7_readFish_70 : decode cX7_readFish 70 = .ok (.iconst 0, 1) := by decide +kernel
theorem dX7_readFish_71 : decode cX7_readFish 71 = .ok (.iaload, 1) := by decide +kernel
theorem dX7_readFish_72 : decode cX7_readFish 72 = .ok (.iconst 1, 1) := by decide +kernel
theorem dX7_readFish_73 : decode cX7_readFish 73 = .ok (.isub, 1) := by decide +kernel
theorem dX7_readFish_74 : decode cX7_readFish 74 = .ok (.bipush 31, 2) := by decide +kernel
theorem dX7_readFish_76 : decode cX7_readFish 76 = .ok (.iload_n 2, 1) := by decide +kernel
theorem dX7_readFish_77 : decode cX7_readFish 77 = .ok (.iadd, 1) := by decide +kernel
theorem dX7_readFish_78 : decode cX7_readFish 78 = .ok (.bipush 59, 2) := by decide +kernel
theorem dX7_readFish_80 : decode cX7_readFish 80 = .ok (.invokevirtual 126, 3) := by decide +kernel
theorem dX7_readFish_83 : decode cX7_readFish 83 = .ok (.ireturn, 1) := by decide +kernel
theorem dX7_readLibrary_0 : decode cX7_readLibrary 0 = .ok (.aload_n 0, 1) := by decide +kernel
theorem dX7_readLibrary_1 : decode cX7_readLibrary 1 = .ok (.iconst 0, 1) := by decide +kernel
theorem dX7_readLibrary_2 : decode cX7_readLibrary 2 = .ok (.putfield 91, 3) := by decide +kernel
theorem dX7_readLibrary_5 : decode cX7_readLibrary 5 = .ok (.iconst 0, 1) := by decide +kernel
theorem dX7_readLibrary_6 : decode cX7_readLibrary 6 = .ok (.istore_n 1, 1) := by decide +kernel
theorem dX7_readLibrary_7 : decode cX7_readLibrary 7 = .ok (.iload_n 1, 1) := by decide +kernel
theorem dX7_readLibrary_8 : decode cX7_readLibrary 8 = .ok (.bipush 41, 2) := by decide +kernel
theorem dX7_readLibrary_10 : decode cX7_readLibrary 10 = .ok (.if_icmp .ge 16, 3) := by decide +kernel
theorem dX7_readLibrary_13 : decode cX7_readLibrary 13 = .ok (.aload_n 0, 1) := by decide +kernel
theorem dX7_readLibrary_14 : decode cX7_readLibrary 14 = .ok (.getfield 28, 3) := by decide +kernel
theorem dX7_readLibrary_17 : decode cX7_readLibrary 17 = .ok (.iload_n 1, 1) := by decide +kernel
theorem dX7_readLibrary_18 : decode cX7_readLibrary 18 = .ok (.iconst 0, 1) := by decide +kernel
theorem dX7_readLibrary_19 : decode cX7_readLibrary 19 = .ok (.iastore, 1) := by decide +kernel
theorem dX7_readLibrary_20 : decode cX7_readLibrary 20 = .ok (.iinc 1 1, 3) := by decide +kernel
theorem dX7_readLibrary_23 : decode cX7_readLibrary 23 = .ok (.goto (-16), 3) := by decide +kernel
theorem dX7_readLibrary_26 : decode cX7_readLibrary 26 = .ok (.aload_n 0, 1) := by decide +kernel
theorem dX7_readLibrary_27 : decode cX7_readLibrary 27 = .ok (.invokevirtual 120, 3) := by decide +kernel
theorem dX7_readLibrary_30 : decode cX7_readLibrary 30 = .ok (.aload_n 0, 1) := by decide +kernel
theorem dX7_readLibrary_31 : decode cX7_readLibrary 31 = .ok (.bipush 108, 2) := by decide +kernel
theorem dX7_readLibrary_33 : decode cX7_readLibrary 33 = .ok (.invokevirtual 123, 3) := by decide +kernel
theorem dX7_readLibrary_36 : decode cX7_readLibrary 36 = .ok (.ifCond .eq 29, 3) := by decide +kernel
theorem dX7_readLibrary_39 : decode cX7_readLibrary 39 = .ok (.aload_n 0, 1) := by decide +kernel
theorem dX7_readLibrary_40 : decode cX7_readLibrary 40 = .ok (.iconst 1, 1) := by decide +kernel
theorem dX7_readLibrary_41 : decode cX7_readLibrary 41 = .ok (.bipush 9, 2) := by decide +kernel
theorem dX7_readLibrary_43 : decode cX7_readLibrary 43 = .ok (.iconst 2, 1) := by decide +kernel
theorem dX7_readLibrary_44 : decode cX7_readLibrary 44 = .ok (.bipush 44, 2) := by decide +kernel
theorem dX7_readLibrary_46 : decode cX7_readLibrary 46 = .ok (.invokevirtual 126, 3) := by decide +kernel
theorem dX7_readLibrary_49 : decode cX7_readLibrary 49 = .ok (.ifCond .eq 16, 3) := by decide +kernel
theorem dX7_readLibrary_52 : decode cX7_readLibrary 52 = .ok (.aload_n 0, 1) := by decide +kernel
theorem dX7_readLibrary_53 : decode cX7_readLibrary 53 = .ok (.iconst 0, 1) := by decide +kernel
theorem dX7_readLibrary_54 : decode cX7_readLibrary 54 = .ok (.bipush 8, 2) := by decide +kernel
theorem dX7_readLibrary_56 : decode cX7_readLibrary 56 = .ok (.iconst 3, 1) := by decide +kernel
theorem dX7_readLibrary_57 : decode cX7_readLibrary 57 = .ok (.bipush 59, 2) := by decide +kernel
theorem dX7_readLibrary_59 : decode cX7_readLibrary 59 = .ok (.invokevirtual 126, 3) := by decide +kernel
theorem dX7_readLibrary_62 : decode cX7_readLibrary 62 = .ok (.ifCond .ne 5, 3) := by decide +kernel
theorem dX7_readLibrary_65 : decode cX7_readLibrary 65 = .ok (.iconst 0, 1) := by decide +kernel
theorem dX7_readLibrary_66 : decode cX7_readLibrary 66 = .ok (.ireturn, 1) := by decide +kernel
theorem dX7_readLibrary_67 : decode cX7_readLibrary 67 = .ok (.iconst 1, 1) := by decide +kernel
theorem dX7_readLibrary_68 : decode cX7_readLibrary 68 = .ok (.istore_n 1, 1) := by decide +kernel
theorem dX7_readLibrary_69 : decode cX7_readLibrary 69 = .ok (.iload_n 1, 1) := by decide +kernel
theorem dX7_readLibrary_70 : decode cX7_readLibrary 70 = .ok (.ifCond .eq 77, 3) := by decide +kernel
theorem dX7_readLibrary_73 : decode cX7_readLibrary 73 = .ok (.aload_n 0, 1) := by decide +kernel
theorem dX7_readLibrary_74 : decode cX7_readLibrary 74 = .ok (.getfield 97, 3) := by decide +kernel
theorem dX7_readLibrary_77 : decode cX7_readLibrary 77 = .ok (.iconst 3, 1) := by decide +kernel
theorem dX7_readLibrary_78 : decode cX7_readLibrary 78 = .ok (.if_icmp .ne 12, 3) := by decide +kernel
theorem dX7_readLibrary_81 : decode cX7_readLibrary 81 = .ok (.aload_n 0, 1) := by decide +kernel
theorem dX7_readLibrary_82 : decode cX7_readLibrary 82 = .ok (.getfield 28, 3) := by decide +kernel
theorem dX7_readLibrary_85 : decode cX7_readLibrary 85 = .ok (.iconst 1, 1) := by decide +kernel
theorem dX7_readLibrary_86 : decode cX7_readLibrary 86 = .ok (.iaload, 1) := by decide +kernel
theorem dX7_readLibrary_87 : decode cX7_readLibrary 87 = .ok (.ifCond .ne 60, 3) := by decide +kernel
theorem dX7_readLibrary_90 : decode cX7_readLibrary 90 = .ok (.aload_n 0, 1) := by decide +kernel
theorem dX7_readLibrary_91 : decode cX7_readLibrary 91 = .ok (.getfield 97, 3) := by decide +kernel
theorem dX7_readLibrary_94 : decode cX7_readLibrary 94 = .ok (.iconst 1, 1) := by decide +kernel
theorem dX7_readLibrary_95 : decode cX7_readLibrary 95 = .ok (.if_icmp .ne 13, 3) := by decide +kernel
theorem dX7_readLibrary_98 : decode cX7_readLibrary 98 = .ok (.aload_n 0, 1) := by decide +kernel
theorem dX7_readLibrary_99 : decode cX7_readLibrary 99 = .ok (.getfield 100, 3) := by decide +kernel
theorem dX7_readLibrary_102 : decode cX7_readLibrary 102 = .ok (.invokestatic 130, 3) := by decide +kernel
theorem dX7_readLibrary_105 : decode cX7_readLibrary 105 = .ok (.goto 4, 3) := by decide +kernel
theorem dX7_readLibrary_108 : decode cX7_readLibrary 108 = .ok (.iconst 0, 1) := by decide +kernel
theorem dX7_readLibrary_109 : decode cX7_readLibrary 109 = .ok (.istore_n 2, 1) := by decide +kernel
theorem dX7_readLibrary_110 : decode cX7_readLibrary 110 = .ok (.iload_n 2, 1) := by decide +kernel
theorem dX7_readLibrary_111 : decode cX7_readLibrary 111 = .ok (.ifCond .le 11, 3) := by decide +kernel
theorem dX7_readLibrary_114 : decode cX7_readLibrary 114 = .ok (.aload_n 0, 1) := by decide +kernel
theorem dX7_readLibrary_115 : decode cX7_readLibrary 115 = .ok (.iload_n 2, 1) := by decide +kernel
theorem dX7_readLibrary_116 : decode cX7_readLibrary 116 = .ok (.invokevirtual 133, 3) := by decide +kernel
theorem dX7_readLibrary_119 : decode cX7_readLibrary 119 = .ok (.goto 24, 3) := by decide +kernel
theorem dX7_readLibrary_122 : decode cX7_readLibrary 122 = .ok (.aload_n 0, 1) := by decide +kernel
theorem dX7_readLibrary_123 : decode cX7_readLibrary 123 = .ok (.bipush 98, 2) := by decide +kernel
theorem dX7_readLibrary_125 : decode cX7_readLibrary 125 = .ok (.invokevirtual 114, 3) := by decide +kernel
theorem dX7_readLibrary_128 : decode cX7_readLibrary 128 = .ok (.ifCond .eq 10, 3) := by decide +kernel
theorem dX7_readLibrary_131 : decode cX7_readLibrary 131 = .ok (.aload_n 0, 1) := by decide +kernel
theorem dX7_readLibrary_132 : decode cX7_readLibrary 132 = .ok (.invokevirtual 136, 3) := by decide +kernel
theorem dX7_readLibrary_135 : decode cX7_readLibrary 135 = .ok (.goto 8, 3) := by decide +kernel
theorem dX7_readLibrary_138 : decode cX7_readLibrary 138 = .ok (.aload_n 0, 1) := by decide +kernel
theorem dX7_readLibrary_139 : decode cX7_readLibrary 139 = .ok (.iconst 1, 1) := by decide +kernel
theorem dX7_readLibrary_140 : decode cX7_readLibrary 140 = .ok (.invokevirtual 117, 3) := by decide +kernel
theorem dX7_readLibrary_143 : decode cX7_readLibrary 143 = .ok (.istore_n 1, 1) := by decide +kernel
theorem dX7_readLibrary_144 : decode cX7_readLibrary 144 = .ok (.goto (-75), 3) := by decide +kernel
theorem dX7_readLibrary_147 : decode cX7_readLibrary 147 = .ok (.iload_n 1, 1) := by decide +kernel
theorem dX7_readLibrary_148 : decode cX7_readLibrary 148 = .ok (.ireturn, 1) := by decide +kernel
theorem dX7_library_0 : decode cX7_library 0 = .ok (.aload_n 0, 1) := by decide +kernel
theorem dX7_library_1 : decode cX7_library 1 = .ok (.invokevirtual 140, 3) := by decide +kernel
theorem dX7_library_4 : decode cX7_library 4 = .ok (.istore_n 1, 1) := by decide +kernel
theorem dX7_library_5 : decode cX7_library 5 = .ok (.aload_n 0, 1) := by decide +kernel
theorem dX7_library_6 : decode cX7_library 6 = .ok (.iconst 0, 1) := by decide +kernel
theorem dX7_library_7 : decode cX7_library 7 = .ok (.putfield 87, 3) := by decide +kernel
theorem dX7_library_10 : decode cX7_library 10 = .ok (.iload_n 1, 1) := by decide +kernel
theorem dX7_library_11 : decode cX7_library 11 = .ok (.ifCond .ne 19, 3) := by decide +kernel
theorem dX7_library_14 : decode cX7_library 14 = .ok (.aload_n 0, 1) := by decide +kernel
theorem dX7_library_15 : decode cX7_library 15 = .ok (.aload_n 0, 1) := by decide +kernel
theorem dX7_library_16 : decode cX7_library 16 = .ok (.getfield 111, 3) := by decide +kernel
theorem dX7_library_19 : decode cX7_library 19 = .ok (.putfield 143, 3) := by decide +kernel
theorem dX7_library_22 : decode cX7_library 22 = .ok (.ldc 146, 2) := by decide +kernel
theorem dX7_library_24 : decode cX7_library 24 = .ok (.aload_n 0, 1) := by decide +kernel
theorem dX7_library_25 : decode cX7_library 25 = .ok (.getfield 94, 3) := by decide +kernel
theorem dX7_library_28 : decode cX7_library 28 = .ok (.isub, 1) := by decide +kernel
theorem dX7_library_29 : decode cX7_library 29 = .ok (.ireturn, 1) := by decide +kernel
theorem dX7_library_30 : decode cX7_library 30 = .ok (.iconst 0, 1) := by decide +kernel
theorem dX7_library_31 : decode cX7_library 31 = .ok (.istore_n 2, 1) := by decide +kernel
theorem dX7_library_32 : decode cX7_library 32 = .ok (.iload_n 2, 1) := by decide +kernel
theorem dX7_library_33 : decode cX7_library 33 = .ok (.bipush 41, 2) := by decide +kernel
theorem dX7_library_35 : decode cX7_library 35 = .ok (.if_icmp .ge 21, 3) := by decide +kernel
theorem dX7_library_38 : decode cX7_library 38 = .ok (.aload_n 0, 1) := by decide +kernel
theorem dX7_library_39 : decode cX7_library 39 = .ok (.getfield 19, 3) := by decide +kernel
theorem dX7_library_42 : decode cX7_library 42 = .ok (.iload_n 2, 1) := by decide +kernel
theorem dX7_library_43 : decode cX7_library 43 = .ok (.aload_n 0, 1) := by decide +kernel
theorem dX7_library_44 : decode cX7_library 44 = .ok (.getfield 28, 3) := by decide +kernel
theorem dX7_library_47 : decode cX7_library 47 = .ok (.iload_n 2, 1) := by decide +kernel
theorem dX7_library_48 : decode cX7_library 48 = .ok (.iaload, 1) := by decide +kernel
theorem dX7_library_49 : decode cX7_library 49 = .ok (.iastore, 1) := by decide +kernel
theorem dX7_library_50 : decode cX7_library 50 = .ok (.iinc 2 1, 3) := by decide +kernel
theorem dX7_library_53 : decode cX7_library 53 = .ok (.goto (-21), 3) := by decide +kernel
theorem dX7_library_56 : decode cX7_library 56 = .ok (.aload_n 0, 1) := by decide +kernel
theorem dX7_library_57 : decode cX7_library 57 = .ok (.iconst 1, 1) := by decide +kernel
theorem dX7_library_58 : decode cX7_library 58 = .ok (.putfield 147, 3) := by decide +kernel
theorem dX7_library_61 : decode cX7_library 61 = .ok (.aload_n 0, 1) := by decide +kernel
theorem dX7_library_62 : decode cX7_library 62 = .ok (.iconst 0, 1) := by decide +kernel
theorem dX7_library_63 : decode cX7_library 63 = .ok (.putfield 151, 3) := by decide +kernel
theorem dX7_library_66 : decode cX7_library 66 = .ok (.aload_n 0, 1) := by decide +kernel
theorem dX7_library_67 : decode cX7_library 67 = .ok (.getfield 19, 3) := by decide +kernel
theorem dX7_library_70 : decode cX7_library 70 = .ok (.iconst 1, 1) := by decide +kernel
theorem dX7_library_71 : decode cX7_library 71 = .ok (.iaload, 1) := by decide +kernel
theorem dX7_library_72 : decode cX7_library 72 = .ok (.ireturn, 1) := by decide +kernel
theorem dX7_fault_0 : decode cX7_fault 0 = .ok (.aload_n 0, 1) := by decide +kernel
theorem dX7_fault_1 : decode cX7_fault 1 = .ok (.getfield 143, 3) := by decide +kernel
theorem dX7_fault_4 : decode cX7_fault 4 = .ok (.ireturn, 1) := by decide +kernel
theorem dX7_isBook_0 : decode cX7_isBook 0 = .ok (.iload_n 1, 1) := by decide +kernel
theorem dX7_isBook_1 : decode cX7_isBook 1 = .ok (.i2l, 1) := by decide +kernel
theorem dX7_isBook_2 : decode cX7_isBook 2 = .ok (.lconst 0, 1) := by decide +kernel
theorem dX7_isBook_3 : decode cX7_isBook 3 = .ok (.aload_n 0, 1) := by decide +kernel
theorem dX7_isBook_4 : decode cX7_isBook 4 = .ok (.getfield 19, 3) := by decide +kernel
theorem dX7_isBook_7 : decode cX7_isBook 7 = .ok (.iconst 0, 1) := by decide +kernel
theorem dX7_isBook_8 : decode cX7_isBook 8 = .ok (.iaload, 1) := by decide +kernel
theorem dX7_isBook_9 : decode cX7_isBook 9 = .ok (.iconst 1, 1) := by decide +kernel
theorem dX7_isBook_10 : decode cX7_isBook 10 = .ok (.isub, 1) := by decide +kernel
theorem dX7_isBook_11 : decode cX7_isBook 11 = .ok (.i2l, 1) := by decide +kernel
theorem dX7_isBook_12 : decode cX7_isBook 12 = .ok (.invokestatic 63, 3) := by decide +kernel
theorem dX7_isBook_15 : decode cX7_isBook 15 = .ok (.ireturn, 1) := by decide +kernel
theorem dX7_isFish_0 : decode cX7_isFish 0 = .ok (.iload_n 1, 1) := by decide +kernel
theorem dX7_isFish_1 : decode cX7_isFish 1 = .ok (.i2l, 1) := by decide +kernel
theorem dX7_isFish_2 : decode cX7_isFish 2 = .ok (.lconst 0, 1) := by decide +kernel
theorem dX7_isFish_3 : decode cX7_isFish 3 = .ok (.aload_n 0, 1) := by decide +kernel
theorem dX7_isFish_4 : decode cX7_isFish 4 = .ok (.getfield 19, 3) := by decide +kernel
theorem dX7_isFish_7 : decode cX7_isFish 7 = .ok (.iconst 1, 1) := by decide +kernel
theorem dX7_isFish_8 : decode cX7_isFish 8 = .ok (.iaload, 1) := by decide +kernel
theorem dX7_isFish_9 : decode cX7_isFish 9 = .ok (.iconst 1, 1) := by decide +kernel
theorem dX7_isFish_10 : decode cX7_isFish 10 = .ok (.isub, 1) := by decide +kernel
theorem dX7_isFish_11 : decode cX7_isFish 11 = .ok (.i2l, 1) := by decide +kernel
theorem dX7_isFish_12 : decode cX7_isFish 12 = .ok (.invokestatic 63, 3) := by decide +kernel
theorem dX7_isFish_15 : decode cX7_isFish 15 = .ok (.ireturn, 1) := by decide +kernel
theorem dX7_isCaught_0 : decode cX7_isCaught 0 = .ok (.aload_n 0, 1) := by decide +kernel
theorem dX7_isCaught_1 : decode cX7_isCaught 1 = .ok (.getfield 19, 3) := by decide +kernel
theorem dX7_isCaught_4 : decode cX7_isCaught 4 = .ok (.bipush 7, 2) := by decide +kernel
theorem dX7_isCaught_6 : decode cX7_isCaught 6 = .ok (.iaload, 1) := by decide +kernel
theorem dX7_isCaught_7 : decode cX7_isCaught 7 = .ok (.iload_n 1, 1) := by decide +kernel
theorem dX7_isCaught_8 : decode cX7_isCaught 8 = .ok (.invokestatic 154, 3) := by decide +kernel
theorem dX7_isCaught_11 : decode cX7_isCaught 11 = .ok (.ireturn, 1) := by decide +kernel
theorem dX7_bookAt_0 : decode cX7_bookAt 0 = .ok (.iconst 0, 1) := by decide +kernel
theorem dX7_bookAt_1 : decode cX7_bookAt 1 = .ok (.istore_n 2, 1) := by decide +kernel
theorem dX7_bookAt_2 : decode cX7_bookAt 2 = .ok (.aload_n 0, 1) := by decide +kernel
theorem dX7_bookAt_3 : decode cX7_bookAt 3 = .ok (.getfield 19, 3) := by decide +kernel
theorem dX7_bookAt_6 : decode cX7_bookAt 6 = .ok (.bipush 20, 2) := by decide +kernel
theorem dX7_bookAt_8 : decode cX7_bookAt 8 = .ok (.iload_n 2, 1) := by decide +kernel
theorem dX7_bookAt_9 : decode cX7_bookAt 9 = .ok (.iadd, 1) := by decide +kernel
theorem dX7_bookAt_10 : decode cX7_bookAt 10 = .ok (.iaload, 1) := by decide +kernel
theorem dX7_bookAt_11 : decode cX7_bookAt 11 = .ok (.iload_n 1, 1) := by decide +kernel
theorem dX7_bookAt_12 : decode cX7_bookAt 12 = .ok (.if_icmp .eq 9, 3) := by decide +kernel
theorem dX7_bookAt_15 : decode cX7_bookAt 15 = .ok (.iinc 2 1, 3) := by decide +kernel
theorem dX7_bookAt_18 : decode cX7_bookAt 18 = .ok (.goto (-16), 3) := by decide +kernel
theorem dX7_bookAt_21 : decode cX7_bookAt 21 = .ok (.iload_n 2, 1) := by decide +kernel
theorem dX7_bookAt_22 : decode cX7_bookAt 22 = .ok (.ireturn, 1) := by decide +kernel
theorem dX7_isShut_0 : decode cX7_isShut 0 = .ok (.aload_n 0, 1) := by decide +kernel
theorem dX7_isShut_1 : decode cX7_isShut 1 = .ok (.getfield 19, 3) := by decide +kernel
theorem dX7_isShut_4 : decode cX7_isShut 4 = .ok (.iconst 5, 1) := by decide +kernel
theorem dX7_isShut_5 : decode cX7_isShut 5 = .ok (.iaload, 1) := by decide +kernel
theorem dX7_isShut_6 : decode cX7_isShut 6 = .ok (.aload_n 0, 1) := by decide +kernel
theorem dX7_isShut_7 : decode cX7_isShut 7 = .ok (.getfield 19, 3) := by decide +kernel
theorem dX7_isShut_10 : decode cX7_isShut 10 = .ok (.bipush 6, 2) := by decide +kernel
theorem dX7_isShut_12 : decode cX7_isShut 12 = .ok (.iaload, 1) := by decide +kernel
theorem dX7_isShut_13 : decode cX7_isShut 13 = .ok (.ior, 1) := by decide +kernel
theorem dX7_isShut_14 : decode cX7_isShut 14 = .ok (.iload_n 1, 1) := by decide +kernel
theorem dX7_isShut_15 : decode cX7_isShut 15 = .ok (.invokestatic 154, 3) := by decide +kernel
theorem dX7_isShut_18 : decode cX7_isShut 18 = .ok (.ireturn, 1) := by decide +kernel
theorem dX7_likes_0 : decode cX7_likes 0 = .ok (.aload_n 0, 1) := by decide +kernel
theorem dX7_likes_1 : decode cX7_likes 1 = .ok (.getfield 19, 3) := by decide +kernel
theorem dX7_likes_4 : decode cX7_likes 4 = .ok (.bipush 20, 2) := by decide +kernel
theorem dX7_likes_6 : decode cX7_likes 6 = .ok (.iload_n 2, 1) := by decide +kernel
theorem dX7_likes_7 : decode cX7_likes 7 = .ok (.iadd, 1) := by decide +kernel
theorem dX7_likes_8 : decode cX7_likes 8 = .ok (.iaload, 1) := by decide +kernel
theorem dX7_likes_9 : decode cX7_likes 9 = .ok (.aload_n 0, 1) := by decide +kernel
theorem dX7_likes_10 : decode cX7_likes 10 = .ok (.getfield 19, 3) := by decide +kernel
theorem dX7_likes_13 : decode cX7_likes 13 = .ok (.bipush 31, 2) := by decide +kernel
theorem dX7_likes_15 : decode cX7_likes 15 = .ok (.iload_n 1, 1) := by decide +kernel
theorem dX7_likes_16 : decode cX7_likes 16 = .ok (.iadd, 1) := by decide +kernel
theorem dX7_likes_17 : decode cX7_likes 17 = .ok (.iaload, 1) := by decide +kernel
theorem dX7_likes_18 : decode cX7_likes 18 = .ok (.isub, 1) := by decide +kernel
theorem dX7_likes_19 : decode cX7_likes 19 = .ok (.istore_n 3, 1) := by decide +kernel
theorem dX7_likes_20 : decode cX7_likes 20 = .ok (.aload_n 0, 1) := by decide +kernel
theorem dX7_likes_21 : decode cX7_likes 21 = .ok (.getfield 19, 3) := by decide +kernel
theorem dX7_likes_24 : decode cX7_likes 24 = .ok (.bipush 26, 2) := by decide +kernel
theorem dX7_likes_26 : decode cX7_likes 26 = .ok (.iload_n 1, 1) := by decide +kernel
theorem dX7_likes_27 : decode cX7_likes 27 = .ok (.iadd, 1) := by decide +kernel
theorem dX7_likes_28 : decode cX7_likes 28 = .ok (.iaload, 1) := by decide +kernel
theorem dX7_likes_29 : decode cX7_likes 29 = .ok (.iconst 2, 1) := by decide +kernel
theorem dX7_likes_30 : decode cX7_likes 30 = .ok (.if_icmp .ne 17, 3) := by decide +kernel
theorem dX7_likes_33 : decode cX7_likes 33 = .ok (.iconst 2, 1) := by decide +kernel
theorem dX7_likes_34 : decode cX7_likes 34 = .ok (.aload_n 0, 1) := by decide +kernel
theorem dX7_likes_35 : decode cX7_likes 35 = .ok (.getfield 19, 3) := by decide +kernel
theorem dX7_likes_38 : decode cX7_likes 38 = .ok (.bipush 14, 2) := by decide +kernel
theorem dX7_likes_40 : decode cX7_likes 40 = .ok (.iload_n 2, 1) := by decide +kernel
theorem dX7_likes_41 : decode cX7_likes 41 = .ok (.iadd, 1) := by decide +kernel
theorem dX7_likes_42 : decode cX7_likes 42 = .ok (.iaload, 1) := by decide +kernel
theorem dX7_likes_43 : decode cX7_likes 43 = .ok (.imul, 1) := by decide +kernel
theorem dX7_likes_44 : decode cX7_likes 44 = .ok (.goto 12, 3) := by decide +kernel
theorem dX7_likes_47 : decode cX7_likes 47 = .ok (.aload_n 0, 1) := by decide +kernel
theorem dX7_likes_48 : decode cX7_likes 48 = .ok (.getfield 19, 3) := by decide +kernel
theorem dX7_likes_51 : decode cX7_likes 51 = .ok (.bipush 14, 2) := by decide +kernel
theorem dX7_likes_53 : decode cX7_likes 53 = .ok (.iload_n 2, 1) := by decide +kernel
theorem dX7_likes_54 : decode cX7_likes 54 = .ok (.iadd, 1) := by decide +kernel
theorem dX7_likes_55 : decode cX7_likes 55 = .ok (.iaload, 1) := by decide +kernel
theorem dX7_likes_56 : decode cX7_likes 56 = .ok (.istore 4, 2) := by decide +kernel
theorem dX7_likes_58 : decode cX7_likes 58 = .ok (.iload 4, 2) := by decide +kernel
theorem dX7_likes_60 : decode cX7_likes 60 = .ok (.aload_n 0, 1) := by decide +kernel
theorem dX7_likes_61 : decode cX7_likes 61 = .ok (.getfield 19, 3) := by decide +kernel
theorem dX7_likes_64 : decode cX7_likes 64 = .ok (.bipush 8, 2) := by decide +kernel
theorem dX7_likes_66 : decode cX7_likes 66 = .ok (.iload_n 2, 1) := by decide +kernel
theorem dX7_likes_67 : decode cX7_likes 67 = .ok (.iadd, 1) := by decide +kernel
theorem dX7_likes_68 : decode cX7_likes 68 = .ok (.iaload, 1) := by decide +kernel
theorem dX7_likes_69 : decode cX7_likes 69 = .ok (.bipush 10, 2) := by decide +kernel
theorem dX7_likes_71 : decode cX7_likes 71 = .ok (.idiv, 1) := by decide +kernel
theorem dX7_likes_72 : decode cX7_likes 72 = .ok (.iadd, 1) := by decide +kernel
theorem dX7_likes_73 : decode cX7_likes 73 = .ok (.iload_n 3, 1) := by decide +kernel
theorem dX7_likes_74 : decode cX7_likes 74 = .ok (.ifCond .ge 8, 3) := by decide +kernel
theorem dX7_likes_77 : decode cX7_likes 77 = .ok (.iload_n 3, 1) := by decide +kernel
theorem dX7_likes_78 : decode cX7_likes 78 = .ok (.ineg, 1) := by decide +kernel
theorem dX7_likes_79 : decode cX7_likes 79 = .ok (.goto 4, 3) := by decide +kernel
theorem dX7_likes_82 : decode cX7_likes 82 = .ok (.iload_n 3, 1) := by decide +kernel
theorem dX7_likes_83 : decode cX7_likes 83 = .ok (.isub, 1) := by decide +kernel
theorem dX7_likes_84 : decode cX7_likes 84 = .ok (.ireturn, 1) := by decide +kernel
theorem dX7_likedBy_0 : decode cX7_likedBy 0 = .ok (.ldc 158, 2) := by decide +kernel
theorem dX7_likedBy_2 : decode cX7_likedBy 2 = .ok (.istore_n 2, 1) := by decide +kernel
theorem dX7_likedBy_3 : decode cX7_likedBy 3 = .ok (.iconst 0, 1) := by decide +kernel
theorem dX7_likedBy_4 : decode cX7_likedBy 4 = .ok (.istore_n 3, 1) := by decide +kernel
theorem dX7_likedBy_5 : decode cX7_likedBy 5 = .ok (.iconst 0, 1) := by decide +kernel
theorem dX7_likedBy_6 : decode cX7_likedBy 6 = .ok (.istore 4, 2) := by decide +kernel
theorem dX7_likedBy_8 : decode cX7_likedBy 8 = .ok (.iload 4, 2) := by decide +kernel
theorem dX7_likedBy_10 : decode cX7_likedBy 10 = .ok (.aload_n 0, 1) := by decide +kernel
theorem dX7_likedBy_11 : decode cX7_likedBy 11 = .ok (.getfield 19, 3) := by decide +kernel
theorem dX7_likedBy_14 : decode cX7_likedBy 14 = .ok (.iconst 0, 1) := by decide +kernel
theorem dX7_likedBy_15 : decode cX7_likedBy 15 = .ok (.iaload, 1) := by decide +kernel
theorem dX7_likedBy_16 : decode cX7_likedBy 16 = .ok (.if_icmp .ge 77, 3) := by decide +kernel
theorem dX7_likedBy_19 : decode cX7_likedBy 19 = .ok (.aload_n 0, 1) := by decide +kernel
theorem dX7_likedBy_20 : decode cX7_likedBy 20 = .ok (.getfield 19, 3) := by decide +kernel
theorem dX7_likedBy_23 : decode cX7_likedBy 23 = .ok (.bipush 26, 2) := by decide +kernel
theorem dX7_likedBy_25 : decode cX7_likedBy 25 = .ok (.iload_n 1, 1) := by decide +kernel
theorem dX7_likedBy_26 : decode cX7_likedBy 26 = .ok (.iadd, 1) := by decide +kernel
theorem dX7_likedBy_27 : decode cX7_likedBy 27 = .ok (.iaload, 1) := by decide +kernel
theorem dX7_likedBy_28 : decode cX7_likedBy 28 = .ok (.iconst 4, 1) := by decide +kernel
theorem dX7_likedBy_29 : decode cX7_likedBy 29 = .ok (.if_icmp .ge 64, 3) := by decide +kernel
theorem dX7_likedBy_32 : decode cX7_likedBy 32 = .ok (.aload_n 0, 1) := by decide +kernel
theorem dX7_likedBy_33 : decode cX7_likedBy 33 = .ok (.iload 4, 2) := by decide +kernel
theorem dX7_likedBy_35 : decode cX7_likedBy 35 = .ok (.invokevirtual 159, 3) := by decide +kernel
theorem dX7_likedBy_38 : decode cX7_likedBy 38 = .ok (.istore 5, 2) := by decide +kernel
theorem dX7_likedBy_40 : decode cX7_likedBy 40 = .ok (.aload_n 0, 1) := by decide +kernel
theorem dX7_likedBy_41 : decode cX7_likedBy 41 = .ok (.iload_n 1, 1) := by decide +kernel
theorem dX7_likedBy_42 : decode cX7_likedBy 42 = .ok (.iload 5, 2) := by decide +kernel
theorem dX7_likedBy_44 : decode cX7_likedBy 44 = .ok (.invokevirtual 162, 3) := by decide +kernel
theorem dX7_likedBy_47 : decode cX7_likedBy 47 = .ok (.istore 6, 2) := by decide +kernel
theorem dX7_likedBy_49 : decode cX7_likedBy 49 = .ok (.aload_n 0, 1) := by decide +kernel
theorem dX7_likedBy_50 : decode cX7_likedBy 50 = .ok (.iload 5, 2) := by decide +kernel
theorem dX7_likedBy_52 : decode cX7_likedBy 52 = .ok (.invokevirtual 165, 3) := by decide +kernel
theorem dX7_likedBy_55 : decode cX7_likedBy 55 = .ok (.ifCond .ne 32, 3) := by decide +kernel
theorem dX7_likedBy_58 : decode cX7_likedBy 58 = .ok (.aload_n 0, 1) := by decide +kernel
theorem dX7_likedBy_59 : decode cX7_likedBy 59 = .ok (.getfield 19, 3) := by decide +kernel
theorem dX7_likedBy_62 : decode cX7_likedBy 62 = .ok (.bipush 8, 2) := by decide +kernel
theorem dX7_likedBy_64 : decode cX7_likedBy 64 = .ok (.iload 5, 2) := by decide +kernel
theorem dX7_likedBy_66 : decode cX7_likedBy 66 = .ok (.iadd, 1) := by decide +kernel
theorem dX7_likedBy_67 : decode cX7_likedBy 67 = .ok (.iaload, 1) := by decide +kernel
theorem dX7_likedBy_68 : decode cX7_likedBy 68 = .ok (.ifCond .le 19, 3) := by decide +kernel
theorem dX7_likedBy_71 : decode cX7_likedBy 71 = .ok (.iload_n 2, 1) := by decide +kernel
theorem dX7_likedBy_72 : decode cX7_likedBy 72 = .ok (.ifCond .lt 9, 3) := by decide +kernel
theorem dX7_likedBy_75 : decode cX7_likedBy 75 = .ok (.iload 6, 2) := by decide +kernel
theorem dX7_likedBy_77 : decode cX7_likedBy 77 = .ok (.iload_n 3, 1) := by decide +kernel
theorem dX7_likedBy_78 : decode cX7_likedBy 78 = .ok (.if_icmp .le 9, 3) := by decide +kernel
theorem dX7_likedBy_81 : decode cX7_likedBy 81 = .ok (.iload 4, 2) := by decide +kernel
theorem dX7_likedBy_83 : decode cX7_likedBy 83 = .ok (.istore_n 2, 1) := by decide +kernel
theorem dX7_likedBy_84 : decode cX7_likedBy 84 = .ok (.iload 6, 2) := by decide +kernel
theorem dX7_likedBy_86 : decode cX7_likedBy 86 = .ok (.istore_n 3, 1) := by decide +kernel
theorem dX7_likedBy_87 : decode cX7_likedBy 87 = .ok (.iinc 4 1, 3) := by decide +kernel
theorem dX7_likedBy_90 : decode cX7_likedBy 90 = .ok (.goto (-82), 3) := by decide +kernel
theorem dX7_likedBy_93 : decode cX7_likedBy 93 = .ok (.iload_n 2, 1) := by decide +kernel
theorem dX7_likedBy_94 : decode cX7_likedBy 94 = .ok (.ireturn, 1) := by decide +kernel
theorem dX7_goesTo_0 : decode cX7_goesTo 0 = .ok (.aload_n 0, 1) := by decide +kernel
theorem dX7_goesTo_1 : decode cX7_goesTo 1 = .ok (.getfield 19, 3) := by decide +kernel
theorem dX7_goesTo_4 : decode cX7_goesTo 4 = .ok (.bipush 31, 2) := by decide +kernel
theorem dX7_goesTo_6 : decode cX7_goesTo 6 = .ok (.iload_n 1, 1) := by decide +kernel
theorem dX7_goesTo_7 : decode cX7_goesTo 7 = .ok (.iadd, 1) := by decide +kernel
theorem dX7_goesTo_8 : decode cX7_goesTo 8 = .ok (.iaload, 1) := by decide +kernel
theorem dX7_goesTo_9 : decode cX7_goesTo 9 = .ok (.istore_n 2, 1) := by decide +kernel
theorem dX7_goesTo_10 : decode cX7_goesTo 10 = .ok (.aload_n 0, 1) := by decide +kernel
theorem dX7_goesTo_11 : decode cX7_goesTo 11 = .ok (.iload_n 2, 1) := by decide +kernel
theorem dX7_goesTo_12 : decode cX7_goesTo 12 = .ok (.invokevirtual 159, 3) := by decide +kernel
theorem dX7_goesTo_15 : decode cX7_goesTo 15 = .ok (.istore_n 3, 1) := by decide +kernel
theorem dX7_goesTo_16 : decode cX7_goesTo 16 = .ok (.aload_n 0, 1) := by decide +kernel
theorem dX7_goesTo_17 : decode cX7_goesTo 17 = .ok (.getfield 19, 3) := by decide +kernel
theorem dX7_goesTo_20 : decode cX7_goesTo 20 = .ok (.bipush 26, 2) := by decide +kernel
theorem dX7_goesTo_22 : decode cX7_goesTo 22 = .ok (.iload_n 1, 1) := by decide +kernel
theorem dX7_goesTo_23 : decode cX7_goesTo 23 = .ok (.iadd, 1) := by decide +kernel
theorem dX7_goesTo_24 : decode cX7_goesTo 24 = .ok (.iaload, 1) := by decide +kernel
theorem dX7_goesTo_25 : decode cX7_goesTo 25 = .ok (.istore 4, 2) := by decide +kernel
theorem dX7_goesTo_27 : decode cX7_goesTo 27 = .ok (.iload 4, 2) := by decide +kernel
theorem dX7_goesTo_29 : decode cX7_goesTo 29 = .ok (.iconst 3, 1) := by decide +kernel
theorem dX7_goesTo_30 : decode cX7_goesTo 30 = .ok (.if_icmp .ne 27, 3) := by decide +kernel
theorem dX7_goesTo_33 : decode cX7_goesTo 33 = .ok (.aload_n 0, 1) := by decide +kernel
theorem dX7_goesTo_34 : decode cX7_goesTo 34 = .ok (.getfield 19, 3) := by decide +kernel
theorem dX7_goesTo_37 : decode cX7_goesTo 37 = .ok (.iconst 5, 1) := by decide +kernel
theorem dX7_goesTo_38 : decode cX7_goesTo 38 = .ok (.iaload, 1) := by decide +kernel
theorem dX7_goesTo_39 : decode cX7_goesTo 39 = .ok (.iload_n 3, 1) := by decide +kernel
theorem dX7_goesTo_40 : decode cX7_goesTo 40 = .ok (.invokestatic 154, 3) := by decide +kernel
theorem dX7_goesTo_43 : decode cX7_goesTo 43 = .ok (.ifCond .eq 14, 3) := by decide +kernel
theorem dX7_goesTo_46 : decode cX7_goesTo 46 = .ok (.iload_n 2, 1) := by decide +kernel
theorem dX7_goesTo_47 : decode cX7_goesTo 47 = .ok (.iconst 2, 1) := by decide +kernel
theorem dX7_goesTo_48 : decode cX7_goesTo 48 = .ok (.iadd, 1) := by decide +kernel
theorem dX7_goesTo_49 : decode cX7_goesTo 49 = .ok (.aload_n 0, 1) := by decide +kernel
theorem dX7_goesTo_50 : decode cX7_goesTo 50 = .ok (.getfield 19, 3) := by decide +kernel
theorem dX7_goesTo_53 : decode cX7_goesTo 53 = .ok (.iconst 0, 1) := by decide +kernel
theorem dX7_goesTo_54 : decode cX7_goesTo 54 = .ok (.iaload, 1) := by decide +kernel
theorem dX7_goesTo_55 : decode cX7_goesTo 55 = .ok (.irem, 1) := by decide +kernel
theorem dX7_goesTo_56 : decode cX7_goesTo 56 = .ok (.ireturn, 1) := by decide +kernel
theorem dX7_goesTo_57 : decode cX7_goesTo 57 = .ok (.iload 4, 2) := by decide +kernel
theorem dX7_goesTo_59 : decode cX7_goesTo 59 = .ok (.iconst 4, 1) := by decide +kernel
theorem dX7_goesTo_60 : decode cX7_goesTo 60 = .ok (.if_icmp .ge 41, 3) := by decide +kernel
theorem dX7_goesTo_63 : decode cX7_goesTo 63 = .ok (.aload_n 0, 1) := by decide +kernel
theorem dX7_goesTo_64 : decode cX7_goesTo 64 = .ok (.iload_n 1, 1) := by decide +kernel
theorem dX7_goesTo_65 : decode cX7_goesTo 65 = .ok (.invokevirtual 168, 3) := by decide +kernel
theorem dX7_goesTo_68 : decode cX7_goesTo 68 = .ok (.istore 5, 2) := by decide +kernel
theorem dX7_goesTo_70 : decode cX7_goesTo 70 = .ok (.iload 5, 2) := by decide +kernel
theorem dX7_goesTo_72 : decode cX7_goesTo 72 = .ok (.ifCond .lt 9, 3) := by decide +kernel
theorem dX7_goesTo_75 : decode cX7_goesTo 75 = .ok (.iload 5, 2) := by decide +kernel
theorem dX7_goesTo_77 : decode cX7_goesTo 77 = .ok (.iload_n 2, 1) := by decide +kernel
theorem dX7_goesTo_78 : decode cX7_goesTo 78 = .ok (.if_icmp .ne 7, 3) := by decide +kernel
theorem dX7_goesTo_81 : decode cX7_goesTo 81 = .ok (.iload_n 2, 1) := by decide +kernel
theorem dX7_goesTo_82 : decode cX7_goesTo 82 = .ok (.goto 18, 3) := by decide +kernel
theorem dX7_goesTo_85 : decode cX7_goesTo 85 = .ok (.iload 5, 2) := by decide +kernel
theorem dX7_goesTo_87 : decode cX7_goesTo 87 = .ok (.iload_n 2, 1) := by decide +kernel
theorem dX7_goesTo_88 : decode cX7_goesTo 88 = .ok (.if_icmp .le 9, 3) := by decide +kernel
theorem dX7_goesTo_91 : decode cX7_goesTo 91 = .ok (.iload_n 2, 1) := by decide +kernel
theorem dX7_goesTo_92 : decode cX7_goesTo 92 = .ok (.iconst 1, 1) := by decide +kernel
theorem dX7_goesTo_93 : decode cX7_goesTo 93 = .ok (.iadd, 1) := by decide +kernel
theorem dX7_goesTo_94 : decode cX7_goesTo 94 = .ok (.goto 6, 3) := by decide +kernel
theorem dX7_goesTo_97 : decode cX7_goesTo 97 = .ok (.iload_n 2, 1) := by decide +kernel
theorem dX7_goesTo_98 : decode cX7_goesTo 98 = .ok (.iconst 1, 1) := by decide +kernel
theorem dX7_goesTo_99 : decode cX7_goesTo 99 = .ok (.isub, 1) := by decide +kernel
theorem dX7_goesTo_100 : decode cX7_goesTo 100 = .ok (.ireturn, 1) := by decide +kernel
theorem dX7_goesTo_101 : decode cX7_goesTo 101 = .ok (.iload 4, 2) := by decide +kernel
theorem dX7_goesTo_103 : decode cX7_goesTo 103 = .ok (.iconst 4, 1) := by decide +kernel
theorem dX7_goesTo_104 : decode cX7_goesTo 104 = .ok (.if_icmp .eq 23, 3) := by decide +kernel
theorem dX7_goesTo_107 : decode cX7_goesTo 107 = .ok (.aload_n 0, 1) := by decide +kernel
theorem dX7_goesTo_108 : decode cX7_goesTo 108 = .ok (.iload_n 3, 1) := by decide +kernel
theorem dX7_goesTo_109 : decode cX7_goesTo 109 = .ok (.invokevirtual 165, 3) := by decide +kernel
theorem dX7_goesTo_112 : decode cX7_goesTo 112 = .ok (.ifCond .ne 15, 3) := by decide +kernel
theorem dX7_goesTo_115 : decode cX7_goesTo 115 = .ok (.aload_n 0, 1) := by decide +kernel
theorem dX7_goesTo_116 : decode cX7_goesTo 116 = .ok (.getfield 19, 3) := by decide +kernel
theorem dX7_goesTo_119 : decode cX7_goesTo 119 = .ok (.bipush 8, 2) := by decide +kernel
theorem dX7_goesTo_121 : decode cX7_goesTo 121 = .ok (.iload_n 3, 1) := by decide +kernel
theorem dX7_goesTo_122 : decode cX7_goesTo 122 = .ok (.iadd, 1) := by decide +kernel
theorem dX7_goesTo_123 : decode cX7_goesTo 123 = .ok (.iaload, 1) := by decide +kernel
theorem dX7_goesTo_124 : decode cX7_goesTo 124 = .ok (.ifCond .ne 16, 3) := by decide +kernel
theorem dX7_goesTo_127 : decode cX7_goesTo 127 = .ok (.iload_n 2, 1) := by decide +kernel
theorem dX7_goesTo_128 : decode cX7_goesTo 128 = .ok (.iconst 1, 1) := by decide +kernel
theorem dX7_goesTo_129 : decode cX7_goesTo 129 = .ok (.iadd, 1) := by decide +kernel
theorem dX7_goesTo_130 : decode cX7_goesTo 130 = .ok (.aload_n 0, 1) := by decide +kernel
theorem dX7_goesTo_131 : decode cX7_goesTo 131 = .ok (.getfield 19, 3) := by decide +kernel
theorem dX7_goesTo_134 : decode cX7_goesTo 134 = .ok (.iconst 0, 1) := by decide +kernel
theorem dX7_goesTo_135 : decode cX7_goesTo 135 = .ok (.iaload, 1) := by decide +kernel
theorem dX7_goesTo_136 : decode cX7_goesTo 136 = .ok (.irem, 1) := by decide +kernel
theorem dX7_goesTo_137 : decode cX7_goesTo 137 = .ok (.goto 4, 3) := by decide +kernel
theorem dX7_goesTo_140 : decode cX7_goesTo 140 = .ok (.iload_n 2, 1) := by decide +kernel
theorem dX7_goesTo_141 : decode cX7_goesTo 141 = .ok (.ireturn, 1) := by decide +kernel
theorem dX7_eats_0 : decode cX7_eats 0 = .ok (.aload_n 0, 1) := by decide +kernel
theorem dX7_eats_1 : decode cX7_eats 1 = .ok (.aload_n 0, 1) := by decide +kernel
theorem dX7_eats_2 : decode cX7_eats 2 = .ok (.getfield 19, 3) := by decide +kernel
theorem dX7_eats_5 : decode cX7_eats 5 = .ok (.bipush 31, 2) := by decide +kernel
theorem dX7_eats_7 : decode cX7_eats 7 = .ok (.iload_n 1, 1) := by decide +kernel
theorem dX7_eats_8 : decode cX7_eats 8 = .ok (.iadd, 1) := by decide +kernel
theorem dX7_eats_9 : decode cX7_eats 9 = .ok (.iaload, 1) := by decide +kernel
theorem dX7_eats_10 : decode cX7_eats 10 = .ok (.invokevirtual 159, 3) := by decide +kernel
theorem dX7_eats_13 : decode cX7_eats 13 = .ok (.istore_n 2, 1) := by decide +kernel
theorem dX7_eats_14 : decode cX7_eats 14 = .ok (.aload_n 0, 1) := by decide +kernel
theorem dX7_eats_15 : decode cX7_eats 15 = .ok (.iload_n 2, 1) := by decide +kernel
theorem dX7_eats_16 : decode cX7_eats 16 = .ok (.invokevirtual 165, 3) := by decide +kernel
theorem dX7_eats_19 : decode cX7_eats 19 = .ok (.ifCond .eq 7, 3) := by decide +kernel
theorem dX7_eats_22 : decode cX7_eats 22 = .ok (.iconst 0, 1) := by decide +kernel
theorem dX7_eats_23 : decode cX7_eats 23 = .ok (.goto 39, 3) := by decide +kernel
theorem dX7_eats_26 : decode cX7_eats 26 = .ok (.aload_n 0, 1) := by decide +kernel
theorem dX7_eats_27 : decode cX7_eats 27 = .ok (.getfield 19, 3) := by decide +kernel
theorem dX7_eats_30 : decode cX7_eats 30 = .ok (.bipush 8, 2) := by decide +kernel
theorem dX7_eats_32 : decode cX7_eats 32 = .ok (.iload_n 2, 1) := by decide +kernel
theorem dX7_eats_33 : decode cX7_eats 33 = .ok (.iadd, 1) := by decide +kernel
theorem dX7_eats_34 : decode cX7_eats 34 = .ok (.iaload, 1) := by decide +kernel
theorem dX7_eats_35 : decode cX7_eats 35 = .ok (.aload_n 0, 1) := by decide +kernel
theorem dX7_eats_36 : decode cX7_eats 36 = .ok (.getfield 19, 3) := by decide +kernel
theorem dX7_eats_39 : decode cX7_eats 39 = .ok (.iconst 2, 1) := by decide +kernel
theorem dX7_eats_40 : decode cX7_eats 40 = .ok (.iaload, 1) := by decide +kernel
theorem dX7_eats_41 : decode cX7_eats 41 = .ok (.if_icmp .ge 15, 3) := by decide +kernel
theorem dX7_eats_44 : decode cX7_eats 44 = .ok (.aload_n 0, 1) := by decide +kernel
theorem dX7_eats_45 : decode cX7_eats 45 = .ok (.getfield 19, 3) := by decide +kernel
theorem dX7_eats_48 : decode cX7_eats 48 = .ok (.bipush 8, 2) := by decide +kernel
theorem dX7_eats_50 : decode cX7_eats 50 = .ok (.iload_n 2, 1) := by decide +kernel
theorem dX7_eats_51 : decode cX7_eats 51 = .ok (.iadd, 1) := by decide +kernel
theorem dX7_eats_52 : decode cX7_eats 52 = .ok (.iaload, 1) := by decide +kernel
theorem dX7_eats_53 : decode cX7_eats 53 = .ok (.goto 9, 3) := by decide +kernel
theorem dX7_eats_56 : decode cX7_eats 56 = .ok (.aload_n 0, 1) := by decide +kernel
theorem dX7_eats_57 : decode cX7_eats 57 = .ok (.getfield 19, 3) := by decide +kernel
theorem dX7_eats_60 : decode cX7_eats 60 = .ok (.iconst 2, 1) := by decide +kernel
theorem dX7_eats_61 : decode cX7_eats 61 = .ok (.iaload, 1) := by decide +kernel
theorem dX7_eats_62 : decode cX7_eats 62 = .ok (.istore_n 3, 1) := by decide +kernel
theorem dX7_eats_63 : decode cX7_eats 63 = .ok (.aload_n 0, 1) := by decide +kernel
theorem dX7_eats_64 : decode cX7_eats 64 = .ok (.getfield 19, 3) := by decide +kernel
theorem dX7_eats_67 : decode cX7_eats 67 = .ok (.bipush 8, 2) := by decide +kernel
theorem dX7_eats_69 : decode cX7_eats 69 = .ok (.iload_n 2, 1) := by decide +kernel
theorem dX7_eats_70 : decode cX7_eats 70 = .ok (.iadd, 1) := by decide +kernel
theorem dX7_eats_71 : decode cX7_eats 71 = .ok (.dup2, 1) := by decide +kernel
theorem dX7_eats_72 : decode cX7_eats 72 = .ok (.iaload, 1) := by decide +kernel
theorem dX7_eats_73 : decode cX7_eats 73 = .ok (.iload_n 3, 1) := by decide +kernel
theorem dX7_eats_74 : decode cX7_eats 74 = .ok (.isub, 1) := by decide +kernel
theorem dX7_eats_75 : decode cX7_eats 75 = .ok (.iastore, 1) := by decide +kernel
theorem dX7_eats_76 : decode cX7_eats 76 = .ok (.aload_n 0, 1) := by decide +kernel
theorem dX7_eats_77 : decode cX7_eats 77 = .ok (.getfield 19, 3) := by decide +kernel
theorem dX7_eats_80 : decode cX7_eats 80 = .ok (.bipush 36, 2) := by decide +kernel
theorem dX7_eats_82 : decode cX7_eats 82 = .ok (.iload_n 1, 1) := by decide +kernel
theorem dX7_eats_83 : decode cX7_eats 83 = .ok (.iadd, 1) := by decide +kernel
theorem dX7_eats_84 : decode cX7_eats 84 = .ok (.aload_n 0, 1) := by decide +kernel
theorem dX7_eats_85 : decode cX7_eats 85 = .ok (.getfield 19, 3) := by decide +kernel
theorem dX7_eats_88 : decode cX7_eats 88 = .ok (.bipush 36, 2) := by decide +kernel
theorem dX7_eats_90 : decode cX7_eats 90 = .ok (.iload_n 1, 1) := by decide +kernel
theorem dX7_eats_91 : decode cX7_eats 91 = .ok (.iadd, 1) := by decide +kernel
theorem dX7_eats_92 : decode cX7_eats 92 = .ok (.iaload, 1) := by decide +kernel
theorem dX7_eats_93 : decode cX7_eats 93 = .ok (.iload_n 3, 1) := by decide +kernel
theorem dX7_eats_94 : decode cX7_eats 94 = .ok (.iadd, 1) := by decide +kernel
theorem dX7_eats_95 : decode cX7_eats 95 = .ok (.sipush 999, 3) := by decide +kernel
theorem dX7_eats_98 : decode cX7_eats 98 = .ok (.if_icmp .le 9, 3) := by decide +kernel
theorem dX7_eats_101 : decode cX7_eats 101 = .ok (.sipush 999, 3) := by decide +kernel
theorem dX7_eats_104 : decode cX7_eats 104 = .ok (.goto 14, 3) := by decide +kernel
theorem dX7_eats_107 : decode cX7_eats 107 = .ok (.aload_n 0, 1) := by decide +kernel
theorem dX7_eats_108 : decode cX7_eats 108 = .ok (.getfield 19, 3) := by decide +kernel
theorem dX7_eats_111 : decode cX7_eats 111 = .ok (.bipush 36, 2) := by decide +kernel
theorem dX7_eats_113 : decode cX7_eats 113 = .ok (.iload_n 1, 1) := by decide +kernel
theorem dX7_eats_114 : decode cX7_eats 114 = .ok (.iadd, 1) := by decide +kernel
theorem dX7_eats_115 : decode cX7_eats 115 = .ok (.iaload, 1) := by decide +kernel
theorem dX7_eats_116 : decode cX7_eats 116 = .ok (.iload_n 3, 1) := by decide +kernel
theorem dX7_eats_117 : decode cX7_eats 117 = .ok (.iadd, 1) := by decide +kernel
theorem dX7_eats_118 : decode cX7_eats 118 = .ok (.iastore, 1) := by decide +kernel
theorem dX7_eats_119 : decode cX7_eats 119 = .ok (.aload_n 0, 1) := by decide +kernel
theorem dX7_eats_120 : decode cX7_eats 120 = .ok (.getfield 31, 3) := by decide +kernel
theorem dX7_eats_123 : decode cX7_eats 123 = .ok (.iload_n 1, 1) := by decide +kernel
theorem dX7_eats_124 : decode cX7_eats 124 = .ok (.dup2, 1) := by decide +kernel
theorem dX7_eats_125 : decode cX7_eats 125 = .ok (.iaload, 1) := by decide +kernel
theorem dX7_eats_126 : decode cX7_eats 126 = .ok (.iload_n 3, 1) := by decide +kernel
theorem dX7_eats_127 : decode cX7_eats 127 = .ok (.ifCond .le 9, 3) := by decide +kernel
theorem dX7_eats_130 : decode cX7_eats 130 = .ok (.iconst 1, 1) := by decide +kernel
theorem dX7_eats_131 : decode cX7_eats 131 = .ok (.iload_n 2, 1) := by decide +kernel
theorem dX7_eats_132 : decode cX7_eats 132 = .ok (.ishl, 1) := by decide +kernel
theorem dX7_eats_133 : decode cX7_eats 133 = .ok (.goto 4, 3) := by decide +kernel
theorem dX7_eats_136 : decode cX7_eats 136 = .ok (.iconst 0, 1) := by decide +kernel
theorem dX7_eats_137 : decode cX7_eats 137 = .ok (.ior, 1) := by decide +kernel
theorem dX7_eats_138 : decode cX7_eats 138 = .ok (.iastore, 1) := by decide +kernel
theorem dX7_eats_139 : decode cX7_eats 139 = .ok (.return_, 1) := by decide +kernel
theorem dX7_oneNight_0 : decode cX7_oneNight 0 = .ok (.iconst 0, 1) := by decide +kernel
theorem dX7_oneNight_1 : decode cX7_oneNight 1 = .ok (.istore_n 1, 1) := by decide +kernel
theorem dX7_oneNight_2 : decode cX7_oneNight 2 = .ok (.iload_n 1, 1) := by decide +kernel
theorem dX7_oneNight_3 : decode cX7_oneNight 3 = .ok (.aload_n 0, 1) := by decide +kernel
theorem dX7_oneNight_4 : decode cX7_oneNight 4 = .ok (.getfield 19, 3) := by decide +kernel
theorem dX7_oneNight_7 : decode cX7_oneNight 7 = .ok (.iconst 1, 1) := by decide +kernel
theorem dX7_oneNight_8 : decode cX7_oneNight 8 = .ok (.iaload, 1) := by decide +kernel
theorem dX7_oneNight_9 : decode cX7_oneNight 9 = .ok (.if_icmp .ge 36, 3) := by decide +kernel
theorem dX7_oneNight_12 : decode cX7_oneNight 12 = .ok (.aload_n 0, 1) := by decide +kernel
theorem dX7_oneNight_13 : decode cX7_oneNight 13 = .ok (.iload_n 1, 1) := by decide +kernel
theorem dX7_oneNight_14 : decode cX7_oneNight 14 = .ok (.invokevirtual 171, 3) := by decide +kernel
theorem dX7_oneNight_17 : decode cX7_oneNight 17 = .ok (.ifCond .ne 22, 3) := by decide +kernel
theorem dX7_oneNight_20 : decode cX7_oneNight 20 = .ok (.aload_n 0, 1) := by decide +kernel
theorem dX7_oneNight_21 : decode cX7_oneNight 21 = .ok (.getfield 19, 3) := by decide +kernel
theorem dX7_oneNight_24 : decode cX7_oneNight 24 = .ok (.bipush 31, 2) := by decide +kernel
theorem dX7_oneNight_26 : decode cX7_oneNight 26 = .ok (.iload_n 1, 1) := by decide +kernel
theorem dX7_oneNight_27 : decode cX7_oneNight 27 = .ok (.iadd, 1) := by decide +kernel
theorem dX7_oneNight_28 : decode cX7_oneNight 28 = .ok (.aload_n 0, 1) := by decide +kernel
theorem dX7_oneNight_29 : decode cX7_oneNight 29 = .ok (.iload_n 1, 1) := by decide +kernel
theorem dX7_oneNight_30 : decode cX7_oneNight 30 = .ok (.invokevirtual 174, 3) := by decide +kernel
theorem dX7_oneNight_33 : decode cX7_oneNight 33 = .ok (.iastore, 1) := by decide +kernel
theorem dX7_oneNight_34 : decode cX7_oneNight 34 = .ok (.aload_n 0, 1) := by decide +kernel
theorem dX7_oneNight_35 : decode cX7_oneNight 35 = .ok (.iload_n 1, 1) := by decide +kernel
theorem dX7_oneNight_36 : decode cX7_oneNight 36 = .ok (.invokevirtual 177, 3) := by decide +kernel
theorem dX7_oneNight_39 : decode cX7_oneNight 39 = .ok (.iinc 1 1, 3) := by decide +kernel
theorem dX7_oneNight_42 : decode cX7_oneNight 42 = .ok (.goto (-40), 3) := by decide +kernel
theorem dX7_oneNight_45 : decode cX7_oneNight 45 = .ok (.iconst 0, 1) := by decide +kernel
theorem dX7_oneNight_46 : decode cX7_oneNight 46 = .ok (.istore_n 1, 1) := by decide +kernel
theorem dX7_oneNight_47 : decode cX7_oneNight 47 = .ok (.iload_n 1, 1) := by decide +kernel
theorem dX7_oneNight_48 : decode cX7_oneNight 48 = .ok (.aload_n 0, 1) := by decide +kernel
theorem dX7_oneNight_49 : decode cX7_oneNight 49 = .ok (.getfield 19, 3) := by decide +kernel
theorem dX7_oneNight_52 : decode cX7_oneNight 52 = .ok (.iconst 0, 1) := by decide +kernel
theorem dX7_oneNight_53 : decode cX7_oneNight 53 = .ok (.iaload, 1) := by decide +kernel
theorem dX7_oneNight_54 : decode cX7_oneNight 54 = .ok (.if_icmp .ge 62, 3) := by decide +kernel
theorem dX7_oneNight_57 : decode cX7_oneNight 57 = .ok (.aload_n 0, 1) := by decide +kernel
theorem dX7_oneNight_58 : decode cX7_oneNight 58 = .ok (.getfield 19, 3) := by decide +kernel
theorem dX7_oneNight_61 : decode cX7_oneNight 61 = .ok (.iconst 4, 1) := by decide +kernel
theorem dX7_oneNight_62 : decode cX7_oneNight 62 = .ok (.iaload, 1) := by decide +kernel
theorem dX7_oneNight_63 : decode cX7_oneNight 63 = .ok (.iconst 4, 1) := by decide +kernel
theorem dX7_oneNight_64 : decode cX7_oneNight 64 = .ok (.irem, 1) := by decide +kernel
theorem dX7_oneNight_65 : decode cX7_oneNight 65 = .ok (.iconst 3, 1) := by decide +kernel
theorem dX7_oneNight_66 : decode cX7_oneNight 66 = .ok (.if_icmp .ne 50, 3) := by decide +kernel
theorem dX7_oneNight_69 : decode cX7_oneNight 69 = .ok (.aload_n 0, 1) := by decide +kernel
theorem dX7_oneNight_70 : decode cX7_oneNight 70 = .ok (.getfield 19, 3) := by decide +kernel
theorem dX7_oneNight_73 : decode cX7_oneNight 73 = .ok (.bipush 6, 2) := by decide +kernel
theorem dX7_oneNight_75 : decode cX7_oneNight 75 = .ok (.iaload, 1) := by decide +kernel
theorem dX7_oneNight_76 : decode cX7_oneNight 76 = .ok (.iload_n 1, 1) := by decide +kernel
theorem dX7_oneNight_77 : decode cX7_oneNight 77 = .ok (.invokestatic 154, 3) := by decide +kernel
theorem dX7_oneNight_80 : decode cX7_oneNight 80 = .ok (.ifCond .ne 30, 3) := by decide +kernel
theorem dX7_oneNight_83 : decode cX7_oneNight 83 = .ok (.aload_n 0, 1) := by decide +kernel
theorem dX7_oneNight_84 : decode cX7_oneNight 84 = .ok (.getfield 19, 3) := by decide +kernel
theorem dX7_oneNight_87 : decode cX7_oneNight 87 = .ok (.bipush 14, 2) := by decide +kernel
theorem dX7_oneNight_89 : decode cX7_oneNight 89 = .ok (.iload_n 1, 1) := by decide +kernel
theorem dX7_oneNight_90 : decode cX7_oneNight 90 = .ok (.iadd, 1) := by decide +kernel
theorem dX7_oneNight_91 : decode cX7_oneNight 91 = .ok (.iaload, 1) := by decide +kernel
theorem dX7_oneNight_92 : decode cX7_oneNight 92 = .ok (.bipush 9, 2) := by decide +kernel
theorem dX7_oneNight_94 : decode cX7_oneNight 94 = .ok (.if_icmp .ge 16, 3) := by decide +kernel
theorem dX7_oneNight_97 : decode cX7_oneNight 97 = .ok (.aload_n 0, 1) := by decide +kernel
theorem dX7_oneNight_98 : decode cX7_oneNight 98 = .ok (.getfield 19, 3) := by decide +kernel
theorem dX7_oneNight_101 : decode cX7_oneNight 101 = .ok (.bipush 14, 2) := by decide +kernel
theorem dX7_oneNight_103 : decode cX7_oneNight 103 = .ok (.iload_n 1, 1) := by decide +kernel
theorem dX7_oneNight_104 : decode cX7_oneNight 104 = .ok (.iadd, 1) := by decide +kernel
theorem dX7_oneNight_105 : decode cX7_oneNight 105 = .ok (.dup2, 1) := by decide +kernel
theorem dX7_oneNight_106 : decode cX7_oneNight 106 = .ok (.iaload, 1) := by decide +kernel
theorem dX7_oneNight_107 : decode cX7_oneNight 107 = .ok (.iconst 1, 1) := by decide +kernel
theorem dX7_oneNight_108 : decode cX7_oneNight 108 = .ok (.iadd, 1) := by decide +kernel
theorem dX7_oneNight_109 : decode cX7_oneNight 109 = .ok (.iastore, 1) := by decide +kernel
theorem dX7_oneNight_110 : decode cX7_oneNight 110 = .ok (.iinc 1 1, 3) := by decide +kernel
theorem dX7_oneNight_113 : decode cX7_oneNight 113 = .ok (.goto (-66), 3) := by decide +kernel
theorem dX7_oneNight_116 : decode cX7_oneNight 116 = .ok (.aload_n 0, 1) := by decide +kernel
theorem dX7_oneNight_117 : decode cX7_oneNight 117 = .ok (.getfield 19, 3) := by decide +kernel
theorem dX7_oneNight_120 : decode cX7_oneNight 120 = .ok (.iconst 4, 1) := by decide +kernel
theorem dX7_oneNight_121 : decode cX7_oneNight 121 = .ok (.dup2, 1) := by decide +kernel
theorem dX7_oneNight_122 : decode cX7_oneNight 122 = .ok (.iaload, 1) := by decide +kernel
theorem dX7_oneNight_123 : decode cX7_oneNight 123 = .ok (.iconst 1, 1) := by decide +kernel
theorem dX7_oneNight_124 : decode cX7_oneNight 124 = .ok (.iadd, 1) := by decide +kernel
theorem dX7_oneNight_125 : decode cX7_oneNight 125 = .ok (.iastore, 1) := by decide +kernel
theorem dX7_oneNight_126 : decode cX7_oneNight 126 = .ok (.return_, 1) := by decide +kernel
theorem dX7_allPages_0 : decode cX7_allPages 0 = .ok (.iconst 0, 1) := by decide +kernel
theorem dX7_allPages_1 : decode cX7_allPages 1 = .ok (.istore_n 1, 1) := by decide +kernel
theorem dX7_allPages_2 : decode cX7_allPages 2 = .ok (.iconst 0, 1) := by decide +kernel
theorem dX7_allPages_3 : decode cX7_allPages 3 = .ok (.istore_n 2, 1) := by decide +kernel
theorem dX7_allPages_4 : decode cX7_allPages 4 = .ok (.iload_n 2, 1) := by decide +kernel
theorem dX7_allPages_5 : decode cX7_allPages 5 = .ok (.aload_n 0, 1) := by decide +kernel
theorem dX7_allPages_6 : decode cX7_allPages 6 = .ok (.getfield 19, 3) := by decide +kernel
theorem dX7_allPages_9 : decode cX7_allPages 9 = .ok (.iconst 0, 1) := by decide +kernel
theorem dX7_allPages_10 : decode cX7_allPages 10 = .ok (.iaload, 1) := by decide +kernel
theorem dX7_allPages_11 : decode cX7_allPages 11 = .ok (.if_icmp .ge 21, 3) := by decide +kernel
theorem dX7_allPages_14 : decode cX7_allPages 14 = .ok (.iload_n 1, 1) := by decide +kernel
theorem dX7_allPages_15 : decode cX7_allPages 15 = .ok (.aload_n 0, 1) := by decide +kernel
theorem dX7_allPages_16 : decode cX7_allPages 16 = .ok (.getfield 19, 3) := by decide +kernel
theorem dX7_allPages_19 : decode cX7_allPages 19 = .ok (.bipush 8, 2) := by decide +kernel
theorem dX7_allPages_21 : decode cX7_allPages 21 = .ok (.iload_n 2, 1) := by decide +kernel
theorem dX7_allPages_22 : decode cX7_allPages 22 = .ok (.iadd, 1) := by decide +kernel
theorem dX7_allPages_23 : decode cX7_allPages 23 = .ok (.iaload, 1) := by decide +kernel
theorem dX7_allPages_24 : decode cX7_allPages 24 = .ok (.iadd, 1) := by decide +kernel
theorem dX7_allPages_25 : decode cX7_allPages 25 = .ok (.istore_n 1, 1) := by decide +kernel
theorem dX7_allPages_26 : decode cX7_allPages 26 = .ok (.iinc 2 1, 3) := by decide +kernel
theorem dX7_allPages_29 : decode cX7_allPages 29 = .ok (.goto (-25), 3) := by decide +kernel
theorem dX7_allPages_32 : decode cX7_allPages 32 = .ok (.iload_n 1, 1) := by decide +kernel
theorem dX7_allPages_33 : decode cX7_allPages 33 = .ok (.ireturn, 1) := by decide +kernel
theorem dX7_note_0 : decode cX7_note 0 = .ok (.aload_n 0, 1) := by decide +kernel
theorem dX7_note_1 : decode cX7_note 1 = .ok (.getfield 151, 3) := by decide +kernel
theorem dX7_note_4 : decode cX7_note 4 = .ok (.bipush 24, 2) := by decide +kernel
theorem dX7_note_6 : decode cX7_note 6 = .ok (.if_icmp .ne 43, 3) := by decide +kernel
theorem dX7_note_9 : decode cX7_note 9 = .ok (.iconst 0, 1) := by decide +kernel
theorem dX7_note_10 : decode cX7_note 10 = .ok (.istore_n 1, 1) := by decide +kernel
theorem dX7_note_11 : decode cX7_note 11 = .ok (.iload_n 1, 1) := by decide +kernel
theorem dX7_note_12 : decode cX7_note 12 = .ok (.sipush 943, 3) := by decide +kernel
theorem dX7_note_15 : decode cX7_note 15 = .ok (.if_icmp .ge 24, 3) := by decide +kernel
theorem dX7_note_18 : decode cX7_note 18 = .ok (.aload_n 0, 1) := by decide +kernel
theorem dX7_note_19 : decode cX7_note 19 = .ok (.getfield 34, 3) := by decide +kernel
theorem dX7_note_22 : decode cX7_note 22 = .ok (.iload_n 1, 1) := by decide +kernel
theorem dX7_note_23 : decode cX7_note 23 = .ok (.aload_n 0, 1) := by decide +kernel
theorem dX7_note_24 : decode cX7_note 24 = .ok (.getfield 34, 3) := by decide +kernel
theorem dX7_note_27 : decode cX7_note 27 = .ok (.iload_n 1, 1) := by decide +kernel
theorem dX7_note_28 : decode cX7_note 28 = .ok (.bipush 41, 2) := by decide +kernel
theorem dX7_note_30 : decode cX7_note 30 = .ok (.iadd, 1) := by decide +kernel
theorem dX7_note_31 : decode cX7_note 31 = .ok (.iaload, 1) := by decide +kernel
theorem dX7_note_32 : decode cX7_note 32 = .ok (.iastore, 1) := by decide +kernel
theorem dX7_note_33 : decode cX7_note 33 = .ok (.iinc 1 1, 3) := by decide +kernel
theorem dX7_note_36 : decode cX7_note 36 = .ok (.goto (-25), 3) := by decide +kernel
theorem dX7_note_39 : decode cX7_note 39 = .ok (.aload_n 0, 1) := by decide +kernel
theorem dX7_note_40 : decode cX7_note 40 = .ok (.dup, 1) := by decide +kernel
theorem dX7_note_41 : decode cX7_note 41 = .ok (.getfield 151, 3) := by decide +kernel
theorem dX7_note_44 : decode cX7_note 44 = .ok (.iconst 1, 1) := by decide +kernel
theorem dX7_note_45 : decode cX7_note 45 = .ok (.isub, 1) := by decide +kernel
theorem dX7_note_46 : decode cX7_note 46 = .ok (.putfield 151, 3) := by decide +kernel
theorem dX7_note_49 : decode cX7_note 49 = .ok (.iconst 0, 1) := by decide +kernel
theorem dX7_note_50 : decode cX7_note 50 = .ok (.istore_n 1, 1) := by decide +kernel
theorem dX7_note_51 : decode cX7_note 51 = .ok (.iload_n 1, 1) := by decide +kernel
theorem dX7_note_52 : decode cX7_note 52 = .ok (.bipush 41, 2) := by decide +kernel
theorem dX7_note_54 : decode cX7_note 54 = .ok (.if_icmp .ge 29, 3) := by decide +kernel
theorem dX7_note_57 : decode cX7_note 57 = .ok (.aload_n 0, 1) := by decide +kernel
theorem dX7_note_58 : decode cX7_note 58 = .ok (.getfield 34, 3) := by decide +kernel
theorem dX7_note_61 : decode cX7_note 61 = .ok (.bipush 41, 2) := by decide +kernel
theorem dX7_note_63 : decode cX7_note 63 = .ok (.aload_n 0, 1) := by decide +kernel
theorem dX7_note_64 : decode cX7_note 64 = .ok (.getfield 151, 3) := by decide +kernel
theorem dX7_note_67 : decode cX7_note 67 = .ok (.imul, 1) := by decide +kernel
theorem dX7_note_68 : decode cX7_note 68 = .ok (.iload_n 1, 1) := by decide +kernel
theorem dX7_note_69 : decode cX7_note 69 = .ok (.iadd, 1) := by decide +kernel
theorem dX7_note_70 : decode cX7_note 70 = .ok (.aload_n 0, 1) := by decide +kernel
theorem dX7_note_71 : decode cX7_note 71 = .ok (.getfield 19, 3) := by decide +kernel
theorem dX7_note_74 : decode cX7_note 74 = .ok (.iload_n 1, 1) := by decide +kernel
theorem dX7_note_75 : decode cX7_note 75 = .ok (.iaload, 1) := by decide +kernel
theorem dX7_note_76 : decode cX7_note 76 = .ok (.iastore, 1) := by decide +kernel
theorem dX7_note_77 : decode cX7_note 77 = .ok (.iinc 1 1, 3) := by decide +kernel
theorem dX7_note_80 : decode cX7_note 80 = .ok (.goto (-29), 3) := by decide +kernel
theorem dX7_note_83 : decode cX7_note 83 = .ok (.aload_n 0, 1) := by decide +kernel
theorem dX7_note_84 : decode cX7_note 84 = .ok (.dup, 1) := by decide +kernel
theorem dX7_note_85 : decode cX7_note 85 = .ok (.getfield 151, 3) := by decide +kernel
theorem dX7_note_88 : decode cX7_note 88 = .ok (.iconst 1, 1) := by decide +kernel
theorem dX7_note_89 : decode cX7_note 89 = .ok (.iadd, 1) := by decide +kernel
theorem dX7_note_90 : decode cX7_note 90 = .ok (.putfield 151, 3) := by decide +kernel
theorem dX7_note_93 : decode cX7_note 93 = .ok (.return_, 1) := by decide +kernel
theorem dX7_undo_0 : decode cX7_undo 0 = .ok (.aload_n 0, 1) := by decide +kernel
theorem dX7_undo_1 : decode cX7_undo 1 = .ok (.getfield 151, 3) := by decide +kernel
theorem dX7_undo_4 : decode cX7_undo 4 = .ok (.ifCond .ne 6, 3) := by decide +kernel
theorem dX7_undo_7 : decode cX7_undo 7 = .ok (.ldc 181, 2) := by decide +kernel
theorem dX7_undo_9 : decode cX7_undo 9 = .ok (.ireturn, 1) := by decide +kernel
theorem dX7_undo_10 : decode cX7_undo 10 = .ok (.aload_n 0, 1) := by decide +kernel
theorem dX7_undo_11 : decode cX7_undo 11 = .ok (.dup, 1) := by decide +kernel
theorem dX7_undo_12 : decode cX7_undo 12 = .ok (.getfield 151, 3) := by decide +kernel
theorem dX7_undo_15 : decode cX7_undo 15 = .ok (.iconst 1, 1) := by decide +kernel
theorem dX7_undo_16 : decode cX7_undo 16 = .ok (.isub, 1) := by decide +kernel
theorem dX7_undo_17 : decode cX7_undo 17 = .ok (.putfield 151, 3) := by decide +kernel
theorem dX7_undo_20 : decode cX7_undo 20 = .ok (.iconst 0, 1) := by decide +kernel
theorem dX7_undo_21 : decode cX7_undo 21 = .ok (.istore_n 1, 1) := by decide +kernel
theorem dX7_undo_22 : decode cX7_undo 22 = .ok (.iload_n 1, 1) := by decide +kernel
theorem dX7_undo_23 : decode cX7_undo 23 = .ok (.bipush 41, 2) := by decide +kernel
theorem dX7_undo_25 : decode cX7_undo 25 = .ok (.if_icmp .ge 29, 3) := by decide +kernel
theorem dX7_undo_28 : decode cX7_undo 28 = .ok (.aload_n 0, 1) := by decide +kernel
theorem dX7_undo_29 : decode cX7_undo 29 = .ok (.getfield 19, 3) := by decide +kernel
theorem dX7_undo_32 : decode cX7_undo 32 = .ok (.iload_n 1, 1) := by decide +kernel
theorem dX7_undo_33 : decode cX7_undo 33 = .ok (.aload_n 0, 1) := by decide +kernel
theorem dX7_undo_34 : decode cX7_undo 34 = .ok (.getfield 34, 3) := by decide +kernel
theorem dX7_undo_37 : decode cX7_undo 37 = .ok (.bipush 41, 2) := by decide +kernel
theorem dX7_undo_39 : decode cX7_undo 39 = .ok (.aload_n 0, 1) := by decide +kernel
theorem dX7_undo_40 : decode cX7_undo 40 = .ok (.getfield 151, 3) := by decide +kernel
theorem dX7_undo_43 : decode cX7_undo 43 = .ok (.imul, 1) := by decide +kernel
theorem dX7_undo_44 : decode cX7_undo 44 = .ok (.iload_n 1, 1) := by decide +kernel
theorem dX7_undo_45 : decode cX7_undo 45 = .ok (.iadd, 1) := by decide +kernel
theorem dX7_undo_46 : decode cX7_undo 46 = .ok (.iaload, 1) := by decide +kernel
theorem dX7_undo_47 : decode cX7_undo 47 = .ok (.iastore, 1) := by decide +kernel
theorem dX7_undo_48 : decode cX7_undo 48 = .ok (.iinc 1 1, 3) := by decide +kernel
theorem dX7_undo_51 : decode cX7_undo 51 = .ok (.goto (-29), 3) := by decide +kernel
theorem dX7_undo_54 : decode cX7_undo 54 = .ok (.aload_n 0, 1) := by decide +kernel
theorem dX7_undo_55 : decode cX7_undo 55 = .ok (.getfield 151, 3) := by decide +kernel
theorem dX7_undo_58 : decode cX7_undo 58 = .ok (.ireturn, 1) := by decide +kernel
theorem dX7_nights_0 : decode cX7_nights 0 = .ok (.aload_n 0, 1) := by decide +kernel
theorem dX7_nights_1 : decode cX7_nights 1 = .ok (.getfield 147, 3) := by decide +kernel
theorem dX7_nights_4 : decode cX7_nights 4 = .ok (.ifCond .ne 6, 3) := by decide +kernel
theorem dX7_nights_7 : decode cX7_nights 7 = .ok (.ldc 181, 2) := by decide +kernel
theorem dX7_nights_9 : decode cX7_nights 9 = .ok (.ireturn, 1) := by decide +kernel
theorem dX7_nights_10 : decode cX7_nights 10 = .ok (.iload_n 1, 1) := by decide +kernel
theorem dX7_nights_11 : decode cX7_nights 11 = .ok (.i2l, 1) := by decide +kernel
theorem dX7_nights_12 : decode cX7_nights 12 = .ok (.lconst 1, 1) := by decide +kernel
theorem dX7_nights_13 : decode cX7_nights 13 = .ok (.ldc2_w 182, 3) := by decide +kernel
theorem dX7_nights_16 : decode cX7_nights 16 = .ok (.invokestatic 63, 3) := by decide +kernel
theorem dX7_nights_19 : decode cX7_nights 19 = .ok (.ifCond .ne 6, 3) := by decide +kernel
theorem dX7_nights_22 : decode cX7_nights 22 = .ok (.ldc 73, 2) := by decide +kernel
theorem dX7_nights_24 : decode cX7_nights 24 = .ok (.ireturn, 1) := by decide +kernel
theorem dX7_nights_25 : decode cX7_nights 25 = .ok (.aload_n 0, 1) := by decide +kernel
theorem dX7_nights_26 : decode cX7_nights 26 = .ok (.getfield 19, 3) := by decide +kernel
theorem dX7_nights_29 : decode cX7_nights 29 = .ok (.iconst 4, 1) := by decide +kernel
theorem dX7_nights_30 : decode cX7_nights 30 = .ok (.iaload, 1) := by decide +kernel
theorem dX7_nights_31 : decode cX7_nights 31 = .ok (.iload_n 1, 1) := by decide +kernel
theorem dX7_nights_32 : decode cX7_nights 32 = .ok (.iadd, 1) := by decide +kernel
theorem dX7_nights_33 : decode cX7_nights 33 = .ok (.sipush 999, 3) := by decide +kernel
theorem dX7_nights_36 : decode cX7_nights 36 = .ok (.if_icmp .le 6, 3) := by decide +kernel
theorem dX7_nights_39 : decode cX7_nights 39 = .ok (.ldc 90, 2) := by decide +kernel
theorem dX7_nights_41 : decode cX7_nights 41 = .ok (.ireturn, 1) := by decide +kernel
theorem dX7_nights_42 : decode cX7_nights 42 = .ok (.iconst 0, 1) := by decide +kernel
theorem dX7_nights_43 : decode cX7_nights 43 = .ok (.istore_n 2, 1) := by decide +kernel
theorem dX7_nights_44 : decode cX7_nights 44 = .ok (.iload_n 2, 1) := by decide +kernel
theorem dX7_nights_45 : decode cX7_nights 45 = .ok (.iload_n 1, 1) := by decide +kernel
theorem dX7_nights_46 : decode cX7_nights 46 = .ok (.if_icmp .ge 17, 3) := by decide +kernel
theorem dX7_nights_49 : decode cX7_nights 49 = .ok (.aload_n 0, 1) := by decide +kernel
theorem dX7_nights_50 : decode cX7_nights 50 = .ok (.invokevirtual 184, 3) := by decide +kernel
theorem dX7_nights_53 : decode cX7_nights 53 = .ok (.aload_n 0, 1) := by decide +kernel
theorem dX7_nights_54 : decode cX7_nights 54 = .ok (.invokevirtual 187, 3) := by decide +kernel
theorem dX7_nights_57 : decode cX7_nights 57 = .ok (.iinc 2 1, 3) := by decide +kernel
theorem dX7_nights_60 : decode cX7_nights 60 = .ok (.goto (-16), 3) := by decide +kernel
theorem dX7_nights_63 : decode cX7_nights 63 = .ok (.aload_n 0, 1) := by decide +kernel
theorem dX7_nights_64 : decode cX7_nights 64 = .ok (.invokevirtual 190, 3) := by decide +kernel
theorem dX7_nights_67 : decode cX7_nights 67 = .ok (.ireturn, 1) := by decide +kernel
theorem dX7_light_0 : decode cX7_light 0 = .ok (.aload_n 0, 1) := by decide +kernel
theorem dX7_light_1 : decode cX7_light 1 = .ok (.iload_n 1, 1) := by decide +kernel
theorem dX7_light_2 : decode cX7_light 2 = .ok (.invokevirtual 194, 3) := by decide +kernel
theorem dX7_light_5 : decode cX7_light 5 = .ok (.ifCond .eq 13, 3) := by decide +kernel
theorem dX7_light_8 : decode cX7_light 8 = .ok (.iload_n 2, 1) := by decide +kernel
theorem dX7_light_9 : decode cX7_light 9 = .ok (.i2l, 1) := by decide +kernel
theorem dX7_light_10 : decode cX7_light 10 = .ok (.lconst 0, 1) := by decide +kernel
theorem dX7_light_11 : decode cX7_light 11 = .ok (.lconst 1, 1) := by decide +kernel
theorem dX7_light_12 : decode cX7_light 12 = .ok (.invokestatic 63, 3) := by decide +kernel
theorem dX7_light_15 : decode cX7_light 15 = .ok (.ifCond .ne 6, 3) := by decide +kernel
theorem dX7_light_18 : decode cX7_light 18 = .ok (.ldc 73, 2) := by decide +kernel
theorem dX7_light_20 : decode cX7_light 20 = .ok (.ireturn, 1) := by decide +kernel
theorem dX7_light_21 : decode cX7_light 21 = .ok (.aload_n 0, 1) := by decide +kernel
theorem dX7_light_22 : decode cX7_light 22 = .ok (.getfield 19, 3) := by decide +kernel
theorem dX7_light_25 : decode cX7_light 25 = .ok (.iconst 5, 1) := by decide +kernel
theorem dX7_light_26 : decode cX7_light 26 = .ok (.iaload, 1) := by decide +kernel
theorem dX7_light_27 : decode cX7_light 27 = .ok (.iload_n 1, 1) := by decide +kernel
theorem dX7_light_28 : decode cX7_light 28 = .ok (.invokestatic 154, 3) := by decide +kernel
theorem dX7_light_31 : decode cX7_light 31 = .ok (.iload_n 2, 1) := by decide +kernel
theorem dX7_light_32 : decode cX7_light 32 = .ok (.iconst 1, 1) := by decide +kernel
theorem dX7_light_33 : decode cX7_light 33 = .ok (.if_icmp .ne 7, 3) := by decide +kernel
theorem dX7_light_36 : decode cX7_light 36 = .ok (.iconst 1, 1) := by decide +kernel
theorem dX7_light_37 : decode cX7_light 37 = .ok (.goto 4, 3) := by decide +kernel
theorem dX7_light_40 : decode cX7_light 40 = .ok (.iconst 0, 1) := by decide +kernel
theorem dX7_light_41 : decode cX7_light 41 = .ok (.if_icmp .eq 26, 3) := by decide +kernel
theorem dX7_light_44 : decode cX7_light 44 = .ok (.iload_n 2, 1) := by decide +kernel
theorem dX7_light_45 : decode cX7_light 45 = .ok (.iconst 1, 1) := by decide +kernel
theorem dX7_light_46 : decode cX7_light 46 = .ok (.if_icmp .ne 24, 3) := by decide +kernel
theorem dX7_light_49 : decode cX7_light 49 = .ok (.aload_n 0, 1) := by decide +kernel
theorem dX7_light_50 : decode cX7_light 50 = .ok (.getfield 19, 3) := by decide +kernel
theorem dX7_light_53 : decode cX7_light 53 = .ok (.iconst 5, 1) := by decide +kernel
theorem dX7_light_54 : decode cX7_light 54 = .ok (.iaload, 1) := by decide +kernel
theorem dX7_light_55 : decode cX7_light 55 = .ok (.invokestatic 197, 3) := by decide +kernel
theorem dX7_light_58 : decode cX7_light 58 = .ok (.aload_n 0, 1) := by decide +kernel
theorem dX7_light_59 : decode cX7_light 59 = .ok (.getfield 19, 3) := by decide +kernel
theorem dX7_light_62 : decode cX7_light 62 = .ok (.iconst 3, 1) := by decide +kernel
theorem dX7_light_63 : decode cX7_light 63 = .ok (.iaload, 1) := by decide +kernel
theorem dX7_light_64 : decode cX7_light 64 = .ok (.if_icmp .lt 6, 3) := by decide +kernel
theorem dX7_light_67 : decode cX7_light 67 = .ok (.ldc 181, 2) := by decide +kernel
theorem dX7_light_69 : decode cX7_light 69 = .ok (.ireturn, 1) := by decide +kernel
theorem dX7_light_70 : decode cX7_light 70 = .ok (.aload_n 0, 1) := by decide +kernel
theorem dX7_light_71 : decode cX7_light 71 = .ok (.invokevirtual 184, 3) := by decide +kernel
theorem dX7_light_74 : decode cX7_light 74 = .ok (.aload_n 0, 1) := by decide +kernel
theorem dX7_light_75 : decode cX7_light 75 = .ok (.getfield 19, 3) := by decide +kernel
theorem dX7_light_78 : decode cX7_light 78 = .ok (.iconst 5, 1) := by decide +kernel
theorem dX7_light_79 : decode cX7_light 79 = .ok (.dup2, 1) := by decide +kernel
theorem dX7_light_80 : decode cX7_light 80 = .ok (.iaload, 1) := by decide +kernel
theorem dX7_light_81 : decode cX7_light 81 = .ok (.iconst 1, 1) := by decide +kernel
theorem dX7_light_82 : decode cX7_light 82 = .ok (.iload_n 1, 1) := by decide +kernel
theorem dX7_light_83 : decode cX7_light 83 = .ok (.ishl, 1) := by decide +kernel
theorem dX7_light_84 : decode cX7_light 84 = .ok (.ixor, 1) := by decide +kernel
theorem dX7_light_85 : decode cX7_light 85 = .ok (.iastore, 1) := by decide +kernel
theorem dX7_light_86 : decode cX7_light 86 = .ok (.aload_n 0, 1) := by decide +kernel
theorem dX7_light_87 : decode cX7_light 87 = .ok (.getfield 19, 3) := by decide +kernel
theorem dX7_light_90 : decode cX7_light 90 = .ok (.iconst 5, 1) := by decide +kernel
theorem dX7_light_91 : decode cX7_light 91 = .ok (.iaload, 1) := by decide +kernel
theorem dX7_light_92 : decode cX7_light 92 = .ok (.ireturn, 1) := by decide +kernel
theorem dX7_keepIt_0 : decode cX7_keepIt 0 = .ok (.aload_n 0, 1) := by decide +kernel
theorem dX7_keepIt_1 : decode cX7_keepIt 1 = .ok (.iload_n 1, 1) := by decide +kernel
theorem dX7_keepIt_2 : decode cX7_keepIt 2 = .ok (.invokevirtual 194, 3) := by decide +kernel
theorem dX7_keepIt_5 : decode cX7_keepIt 5 = .ok (.ifCond .eq 13, 3) := by decide +kernel
theorem dX7_keepIt_8 : decode cX7_keepIt 8 = .ok (.iload_n 2, 1) := by decide +kernel
theorem dX7_keepIt_9 : decode cX7_keepIt 9 = .ok (.i2l, 1) := by decide +kernel
theorem dX7_keepIt_10 : decode cX7_keepIt 10 = .ok (.lconst 0, 1) := by decide +kernel
theorem dX7_keepIt_11 : decode cX7_keepIt 11 = .ok (.lconst 1, 1) := by decide +kernel
theorem dX7_keepIt_12 : decode cX7_keepIt 12 = .ok (.invokestatic 63, 3) := by decide +kernel
theorem dX7_keepIt_15 : decode cX7_keepIt 15 = .ok (.ifCond .ne 6, 3) := by decide +kernel
theorem dX7_keepIt_18 : decode cX7_keepIt 18 = .ok (.ldc 73, 2) := by decide +kernel
theorem dX7_keepIt_20 : decode cX7_keepIt 20 = .ok (.ireturn, 1) := by decide +kernel
theorem dX7_keepIt_21 : decode cX7_keepIt 21 = .ok (.aload_n 0, 1) := by decide +kernel
theorem dX7_keepIt_22 : decode cX7_keepIt 22 = .ok (.getfield 19, 3) := by decide +kernel
theorem dX7_keepIt_25 : decode cX7_keepIt 25 = .ok (.bipush 6, 2) := by decide +kernel
theorem dX7_keepIt_27 : decode cX7_keepIt 27 = .ok (.iaload, 1) := by decide +kernel
theorem dX7_keepIt_28 : decode cX7_keepIt 28 = .ok (.iload_n 1, 1) := by decide +kernel
theorem dX7_keepIt_29 : decode cX7_keepIt 29 = .ok (.invokestatic 154, 3) := by decide +kernel
theorem dX7_keepIt_32 : decode cX7_keepIt 32 = .ok (.iload_n 2, 1) := by decide +kernel
theorem dX7_keepIt_33 : decode cX7_keepIt 33 = .ok (.iconst 1, 1) := by decide +kernel
theorem dX7_keepIt_34 : decode cX7_keepIt 34 = .ok (.if_icmp .ne 7, 3) := by decide +kernel
theorem dX7_keepIt_37 : decode cX7_keepIt 37 = .ok (.iconst 1, 1) := by decide +kernel
theorem dX7_keepIt_38 : decode cX7_keepIt 38 = .ok (.goto 4, 3) := by decide +kernel
theorem dX7_keepIt_41 : decode cX7_keepIt 41 = .ok (.iconst 0, 1) := by decide +kernel
theorem dX7_keepIt_42 : decode cX7_keepIt 42 = .ok (.if_icmp .ne 6, 3) := by decide +kernel
theorem dX7_keepIt_45 : decode cX7_keepIt 45 = .ok (.ldc 181, 2) := by decide +kernel
theorem dX7_keepIt_47 : decode cX7_keepIt 47 = .ok (.ireturn, 1) := by decide +kernel
theorem dX7_keepIt_48 : decode cX7_keepIt 48 = .ok (.aload_n 0, 1) := by decide +kernel
theorem dX7_keepIt_49 : decode cX7_keepIt 49 = .ok (.invokevirtual 184, 3) := by decide +kernel
theorem dX7_keepIt_52 : decode cX7_keepIt 52 = .ok (.aload_n 0, 1) := by decide +kernel
theorem dX7_keepIt_53 : decode cX7_keepIt 53 = .ok (.getfield 19, 3) := by decide +kernel
theorem dX7_keepIt_56 : decode cX7_keepIt 56 = .ok (.bipush 6, 2) := by decide +kernel
theorem dX7_keepIt_58 : decode cX7_keepIt 58 = .ok (.dup2, 1) := by decide +kernel
theorem dX7_keepIt_59 : decode cX7_keepIt 59 = .ok (.iaload, 1) := by decide +kernel
theorem dX7_keepIt_60 : decode cX7_keepIt 60 = .ok (.iconst 1, 1) := by decide +kernel
theorem dX7_keepIt_61 : decode cX7_keepIt 61 = .ok (.iload_n 1, 1) := by decide +kernel
theorem dX7_keepIt_62 : decode cX7_keepIt 62 = .ok (.ishl, 1) := by decide +kernel
theorem dX7_keepIt_63 : decode cX7_keepIt 63 = .ok (.ixor, 1) := by decide +kernel
theorem dX7_keepIt_64 : decode cX7_keepIt 64 = .ok (.iastore, 1) := by decide +kernel
theorem dX7_keepIt_65 : decode cX7_keepIt 65 = .ok (.aload_n 0, 1) := by decide +kernel
theorem dX7_keepIt_66 : decode cX7_keepIt 66 = .ok (.getfield 19, 3) := by decide +kernel
theorem dX7_keepIt_69 : decode cX7_keepIt 69 = .ok (.bipush 6, 2) := by decide +kernel
theorem dX7_keepIt_71 : decode cX7_keepIt 71 = .ok (.iaload, 1) := by decide +kernel
theorem dX7_keepIt_72 : decode cX7_keepIt 72 = .ok (.ireturn, 1) := by decide +kernel
theorem dX7_change_0 : decode cX7_change 0 = .ok (.aload_n 0, 1) := by decide +kernel
theorem dX7_change_1 : decode cX7_change 1 = .ok (.iload_n 1, 1) := by decide +kernel
theorem dX7_change_2 : decode cX7_change 2 = .ok (.invokevirtual 194, 3) := by decide +kernel
theorem dX7_change_5 : decode cX7_change 5 = .ok (.ifCond .eq 16, 3) := by decide +kernel
theorem dX7_change_8 : decode cX7_change 8 = .ok (.aload_n 0, 1) := by decide +kernel
theorem dX7_change_9 : decode cX7_change 9 = .ok (.iload_n 2, 1) := by decide +kernel
theorem dX7_change_10 : decode cX7_change 10 = .ok (.invokevirtual 194, 3) := by decide +kernel
theorem dX7_change_13 : decode cX7_change 13 = .ok (.ifCond .eq 8, 3) := by decide +kernel
theorem dX7_change_16 : decode cX7_change 16 = .ok (.iload_n 1, 1) := by decide +kernel
theorem dX7_change_17 : decode cX7_change 17 = .ok (.iload_n 2, 1) := by decide +kernel
theorem dX7_change_18 : decode cX7_change 18 = .ok (.if_icmp .ne 6, 3) := by decide +kernel
theorem dX7_change_21 : decode cX7_change 21 = .ok (.ldc 73, 2) := by decide +kernel
theorem dX7_change_23 : decode cX7_change 23 = .ok (.ireturn, 1) := by decide +kernel
theorem dX7_change_24 : decode cX7_change 24 = .ok (.aload_n 0, 1) := by decide +kernel
theorem dX7_change_25 : decode cX7_change 25 = .ok (.invokevirtual 184, 3) := by decide +kernel
theorem dX7_change_28 : decode cX7_change 28 = .ok (.aload_n 0, 1) := by decide +kernel
theorem dX7_change_29 : decode cX7_change 29 = .ok (.getfield 19, 3) := by decide +kernel
theorem dX7_change_32 : decode cX7_change 32 = .ok (.bipush 20, 2) := by decide +kernel
theorem dX7_change_34 : decode cX7_change 34 = .ok (.iload_n 1, 1) := by decide +kernel
theorem dX7_change_35 : decode cX7_change 35 = .ok (.iadd, 1) := by decide +kernel
theorem dX7_change_36 : decode cX7_change 36 = .ok (.iaload, 1) := by decide +kernel
theorem dX7_change_37 : decode cX7_change 37 = .ok (.istore_n 3, 1) := by decide +kernel
theorem dX7_change_38 : decode cX7_change 38 = .ok (.aload_n 0, 1) := by decide +kernel
theorem dX7_change_39 : decode cX7_change 39 = .ok (.getfield 19, 3) := by decide +kernel
theorem dX7_change_42 : decode cX7_change 42 = .ok (.bipush 20, 2) := by decide +kernel
theorem dX7_change_44 : decode cX7_change 44 = .ok (.iload_n 1, 1) := by decide +kernel
theorem dX7_change_45 : decode cX7_change 45 = .ok (.iadd, 1) := by decide +kernel
theorem dX7_change_46 : decode cX7_change 46 = .ok (.aload_n 0, 1) := by decide +kernel
theorem dX7_change_47 : decode cX7_change 47 = .ok (.getfield 19, 3) := by decide +kernel
theorem dX7_change_50 : decode cX7_change 50 = .ok (.bipush 20, 2) := by decide +kernel
theorem dX7_change_52 : decode cX7_change 52 = .ok (.iload_n 2, 1) := by decide +kernel
theorem dX7_change_53 : decode cX7_change 53 = .ok (.iadd, 1) := by decide +kernel
theorem dX7_change_54 : decode cX7_change 54 = .ok (.iaload, 1) := by decide +kernel
theorem dX7_change_55 : decode cX7_change 55 = .ok (.iastore, 1) := by decide +kernel
theorem dX7_change_56 : decode cX7_change 56 = .ok (.aload_n 0, 1) := by decide +kernel
theorem dX7_change_57 : decode cX7_change 57 = .ok (.getfield 19, 3) := by decide +kernel
theorem dX7_change_60 : decode cX7_change 60 = .ok (.bipush 20, 2) := by decide +kernel
theorem dX7_change_62 : decode cX7_change 62 = .ok (.iload_n 2, 1) := by decide +kernel
theorem dX7_change_63 : decode cX7_change 63 = .ok (.iadd, 1) := by decide +kernel
theorem dX7_change_64 : decode cX7_change 64 = .ok (.iload_n 3, 1) := by decide +kernel
theorem dX7_change_65 : decode cX7_change 65 = .ok (.iastore, 1) := by decide +kernel
theorem dX7_change_66 : decode cX7_change 66 = .ok (.aload_n 0, 1) := by decide +kernel
theorem dX7_change_67 : decode cX7_change 67 = .ok (.getfield 19, 3) := by decide +kernel
theorem dX7_change_70 : decode cX7_change 70 = .ok (.bipush 20, 2) := by decide +kernel
theorem dX7_change_72 : decode cX7_change 72 = .ok (.iload_n 1, 1) := by decide +kernel
theorem dX7_change_73 : decode cX7_change 73 = .ok (.iadd, 1) := by decide +kernel
theorem dX7_change_74 : decode cX7_change 74 = .ok (.iaload, 1) := by decide +kernel
theorem dX7_change_75 : decode cX7_change 75 = .ok (.ireturn, 1) := by decide +kernel
theorem dX7_move_0 : decode cX7_move 0 = .ok (.aload_n 0, 1) := by decide +kernel
theorem dX7_move_1 : decode cX7_move 1 = .ok (.iload_n 1, 1) := by decide +kernel
theorem dX7_move_2 : decode cX7_move 2 = .ok (.invokevirtual 200, 3) := by decide +kernel
theorem dX7_move_5 : decode cX7_move 5 = .ok (.ifCond .eq 11, 3) := by decide +kernel
theorem dX7_move_8 : decode cX7_move 8 = .ok (.aload_n 0, 1) := by decide +kernel
theorem dX7_move_9 : decode cX7_move 9 = .ok (.iload_n 2, 1) := by decide +kernel
theorem dX7_move_10 : decode cX7_move 10 = .ok (.invokevirtual 194, 3) := by decide +kernel
theorem dX7_move_13 : decode cX7_move 13 = .ok (.ifCond .ne 6, 3) := by decide +kernel
theorem dX7_move_16 : decode cX7_move 16 = .ok (.ldc 73, 2) := by decide +kernel
theorem dX7_move_18 : decode cX7_move 18 = .ok (.ireturn, 1) := by decide +kernel
theorem dX7_move_19 : decode cX7_move 19 = .ok (.aload_n 0, 1) := by decide +kernel
theorem dX7_move_20 : decode cX7_move 20 = .ok (.getfield 19, 3) := by decide +kernel
theorem dX7_move_23 : decode cX7_move 23 = .ok (.bipush 31, 2) := by decide +kernel
theorem dX7_move_25 : decode cX7_move 25 = .ok (.iload_n 1, 1) := by decide +kernel
theorem dX7_move_26 : decode cX7_move 26 = .ok (.iadd, 1) := by decide +kernel
theorem dX7_move_27 : decode cX7_move 27 = .ok (.iaload, 1) := by decide +kernel
theorem dX7_move_28 : decode cX7_move 28 = .ok (.istore_n 3, 1) := by decide +kernel
theorem dX7_move_29 : decode cX7_move 29 = .ok (.aload_n 0, 1) := by decide +kernel
theorem dX7_move_30 : decode cX7_move 30 = .ok (.iload_n 1, 1) := by decide +kernel
theorem dX7_move_31 : decode cX7_move 31 = .ok (.invokevirtual 171, 3) := by decide +kernel
theorem dX7_move_34 : decode cX7_move 34 = .ok (.ifCond .ne 8, 3) := by decide +kernel
theorem dX7_move_37 : decode cX7_move 37 = .ok (.iload_n 3, 1) := by decide +kernel
theorem dX7_move_38 : decode cX7_move 38 = .ok (.iload_n 2, 1) := by decide +kernel
theorem dX7_move_39 : decode cX7_move 39 = .ok (.if_icmp .ne 6, 3) := by decide +kernel
theorem dX7_move_42 : decode cX7_move 42 = .ok (.ldc 181, 2) := by decide +kernel
theorem dX7_move_44 : decode cX7_move 44 = .ok (.ireturn, 1) := by decide +kernel
theorem dX7_move_45 : decode cX7_move 45 = .ok (.aload_n 0, 1) := by decide +kernel
theorem dX7_move_46 : decode cX7_move 46 = .ok (.invokevirtual 184, 3) := by decide +kernel
theorem dX7_move_49 : decode cX7_move 49 = .ok (.aload_n 0, 1) := by decide +kernel
theorem dX7_move_50 : decode cX7_move 50 = .ok (.getfield 19, 3) := by decide +kernel
theorem dX7_move_53 : decode cX7_move 53 = .ok (.bipush 31, 2) := by decide +kernel
theorem dX7_move_55 : decode cX7_move 55 = .ok (.iload_n 1, 1) := by decide +kernel
theorem dX7_move_56 : decode cX7_move 56 = .ok (.iadd, 1) := by decide +kernel
theorem dX7_move_57 : decode cX7_move 57 = .ok (.iload_n 2, 1) := by decide +kernel
theorem dX7_move_58 : decode cX7_move 58 = .ok (.iastore, 1) := by decide +kernel
theorem dX7_move_59 : decode cX7_move 59 = .ok (.iload_n 3, 1) := by decide +kernel
theorem dX7_move_60 : decode cX7_move 60 = .ok (.ireturn, 1) := by decide +kernel
theorem dX7_catchIt_0 : decode cX7_catchIt 0 = .ok (.aload_n 0, 1) := by decide +kernel
theorem dX7_catchIt_1 : decode cX7_catchIt 1 = .ok (.iload_n 1, 1) := by decide +kernel
theorem dX7_catchIt_2 : decode cX7_catchIt 2 = .ok (.invokevirtual 200, 3) := by decide +kernel
theorem dX7_catchIt_5 : decode cX7_catchIt 5 = .ok (.ifCond .ne 6, 3) := by decide +kernel
theorem dX7_catchIt_8 : decode cX7_catchIt 8 = .ok (.ldc 73, 2) := by decide +kernel
theorem dX7_catchIt_10 : decode cX7_catchIt 10 = .ok (.ireturn, 1) := by decide +kernel
theorem dX7_catchIt_11 : decode cX7_catchIt 11 = .ok (.aload_n 0, 1) := by decide +kernel
theorem dX7_catchIt_12 : decode cX7_catchIt 12 = .ok (.iload_n 1, 1) := by decide +kernel
theorem dX7_catchIt_13 : decode cX7_catchIt 13 = .ok (.invokevirtual 171, 3) := by decide +kernel
theorem dX7_catchIt_16 : decode cX7_catchIt 16 = .ok (.ifCond .eq 6, 3) := by decide +kernel
theorem dX7_catchIt_19 : decode cX7_catchIt 19 = .ok (.ldc 181, 2) := by decide +kernel
theorem dX7_catchIt_21 : decode cX7_catchIt 21 = .ok (.ireturn, 1) := by decide +kernel
theorem dX7_catchIt_22 : decode cX7_catchIt 22 = .ok (.aload_n 0, 1) := by decide +kernel
theorem dX7_catchIt_23 : decode cX7_catchIt 23 = .ok (.invokevirtual 184, 3) := by decide +kernel
theorem dX7_catchIt_26 : decode cX7_catchIt 26 = .ok (.aload_n 0, 1) := by decide +kernel
theorem dX7_catchIt_27 : decode cX7_catchIt 27 = .ok (.getfield 19, 3) := by decide +kernel
theorem dX7_catchIt_30 : decode cX7_catchIt 30 = .ok (.bipush 7, 2) := by decide +kernel
theorem dX7_catchIt_32 : decode cX7_catchIt 32 = .ok (.dup2, 1) := by decide +kernel
theorem dX7_catchIt_33 : decode cX7_catchIt 33 = .ok (.iaload, 1) := by decide +kernel
theorem dX7_catchIt_34 : decode cX7_catchIt 34 = .ok (.iconst 1, 1) := by decide +kernel
theorem dX7_catchIt_35 : decode cX7_catchIt 35 = .ok (.iload_n 1, 1) := by decide +kernel
theorem dX7_catchIt_36 : decode cX7_catchIt 36 = .ok (.ishl, 1) := by decide +kernel
theorem dX7_catchIt_37 : decode cX7_catchIt 37 = .ok (.ior, 1) := by decide +kernel
theorem dX7_catchIt_38 : decode cX7_catchIt 38 = .ok (.iastore, 1) := by decide +kernel
theorem dX7_catchIt_39 : decode cX7_catchIt 39 = .ok (.aload_n 0, 1) := by decide +kernel
theorem dX7_catchIt_40 : decode cX7_catchIt 40 = .ok (.getfield 19, 3) := by decide +kernel
theorem dX7_catchIt_43 : decode cX7_catchIt 43 = .ok (.bipush 7, 2) := by decide +kernel
theorem dX7_catchIt_45 : decode cX7_catchIt 45 = .ok (.iaload, 1) := by decide +kernel
theorem dX7_catchIt_46 : decode cX7_catchIt 46 = .ok (.ireturn, 1) := by decide +kernel
theorem dX7_fishAt_0 : decode cX7_fishAt 0 = .ok (.iconst 0, 1) := by decide +kernel
theorem dX7_fishAt_1 : decode cX7_fishAt 1 = .ok (.istore_n 2, 1) := by decide +kernel
theorem dX7_fishAt_2 : decode cX7_fishAt 2 = .ok (.iconst 0, 1) := by decide +kernel
theorem dX7_fishAt_3 : decode cX7_fishAt 3 = .ok (.istore_n 3, 1) := by decide +kernel
theorem dX7_fishAt_4 : decode cX7_fishAt 4 = .ok (.iload_n 3, 1) := by decide +kernel
theorem dX7_fishAt_5 : decode cX7_fishAt 5 = .ok (.aload_n 0, 1) := by decide +kernel
theorem dX7_fishAt_6 : decode cX7_fishAt 6 = .ok (.getfield 19, 3) := by decide +kernel
theorem dX7_fishAt_9 : decode cX7_fishAt 9 = .ok (.iconst 1, 1) := by decide +kernel
theorem dX7_fishAt_10 : decode cX7_fishAt 10 = .ok (.iaload, 1) := by decide +kernel
theorem dX7_fishAt_11 : decode cX7_fishAt 11 = .ok (.if_icmp .ge 40, 3) := by decide +kernel
theorem dX7_fishAt_14 : decode cX7_fishAt 14 = .ok (.iload_n 2, 1) := by decide +kernel
theorem dX7_fishAt_15 : decode cX7_fishAt 15 = .ok (.aload_n 0, 1) := by decide +kernel
theorem dX7_fishAt_16 : decode cX7_fishAt 16 = .ok (.iload_n 3, 1) := by decide +kernel
theorem dX7_fishAt_17 : decode cX7_fishAt 17 = .ok (.invokevirtual 171, 3) := by decide +kernel
theorem dX7_fishAt_20 : decode cX7_fishAt 20 = .ok (.ifCond .ne 22, 3) := by decide +kernel
theorem dX7_fishAt_23 : decode cX7_fishAt 23 = .ok (.aload_n 0, 1) := by decide +kernel
theorem dX7_fishAt_24 : decode cX7_fishAt 24 = .ok (.getfield 19, 3) := by decide +kernel
theorem dX7_fishAt_27 : decode cX7_fishAt 27 = .ok (.bipush 31, 2) := by decide +kernel
theorem dX7_fishAt_29 : decode cX7_fishAt 29 = .ok (.iload_n 3, 1) := by decide +kernel
theorem dX7_fishAt_30 : decode cX7_fishAt 30 = .ok (.iadd, 1) := by decide +kernel
theorem dX7_fishAt_31 : decode cX7_fishAt 31 = .ok (.iaload, 1) := by decide +kernel
theorem dX7_fishAt_32 : decode cX7_fishAt 32 = .ok (.iload_n 1, 1) := by decide +kernel
theorem dX7_fishAt_33 : decode cX7_fishAt 33 = .ok (.if_icmp .ne 9, 3) := by decide +kernel
theorem dX7_fishAt_36 : decode cX7_fishAt 36 = .ok (.iconst 1, 1) := by decide +kernel
theorem dX7_fishAt_37 : decode cX7_fishAt 37 = .ok (.iload_n 3, 1) := by decide +kernel
theorem dX7_fishAt_38 : decode cX7_fishAt 38 = .ok (.ishl, 1) := by decide +kernel
theorem dX7_fishAt_39 : decode cX7_fishAt 39 = .ok (.goto 4, 3) := by decide +kernel
theorem dX7_fishAt_42 : decode cX7_fishAt 42 = .ok (.iconst 0, 1) := by decide +kernel
theorem dX7_fishAt_43 : decode cX7_fishAt 43 = .ok (.ior, 1) := by decide +kernel
theorem dX7_fishAt_44 : decode cX7_fishAt 44 = .ok (.istore_n 2, 1) := by decide +kernel
theorem dX7_fishAt_45 : decode cX7_fishAt 45 = .ok (.iinc 3 1, 3) := by decide +kernel
theorem dX7_fishAt_48 : decode cX7_fishAt 48 = .ok (.goto (-44), 3) := by decide +kernel
theorem dX7_fishAt_51 : decode cX7_fishAt 51 = .ok (.iload_n 2, 1) := by decide +kernel
theorem dX7_fishAt_52 : decode cX7_fishAt 52 = .ok (.ireturn, 1) := by decide +kernel
theorem dX7_book_0 : decode cX7_book 0 = .ok (.aload_n 0, 1) := by decide +kernel
theorem dX7_book_1 : decode cX7_book 1 = .ok (.iload_n 1, 1) := by decide +kernel
theorem dX7_book_2 : decode cX7_book 2 = .ok (.invokevirtual 194, 3) := by decide +kernel
theorem dX7_book_5 : decode cX7_book 5 = .ok (.ifCond .ne 6, 3) := by decide +kernel
theorem dX7_book_8 : decode cX7_book 8 = .ok (.ldc 73, 2) := by decide +kernel
theorem dX7_book_10 : decode cX7_book 10 = .ok (.ireturn, 1) := by decide +kernel
theorem dX7_book_11 : decode cX7_book 11 = .ok (.iload_n 2, 1) := by decide +kernel
theorem dX7_book_12 : decode cX7_book 12 = .ok (.tableswitch 123 0 5 #[40, 50, 60, 70, 89, 109], 40) := by decide +kernel
theorem dX7_book_52 : decode cX7_book 52 = .ok (.aload_n 0, 1) := by decide +kernel
theorem dX7_book_53 : decode cX7_book 53 = .ok (.getfield 19, 3) := by decide +kernel
theorem dX7_book_56 : decode cX7_book 56 = .ok (.bipush 8, 2) := by decide +kernel
theorem dX7_book_58 : decode cX7_book 58 = .ok (.iload_n 1, 1) := by decide +kernel
theorem dX7_book_59 : decode cX7_book 59 = .ok (.iadd, 1) := by decide +kernel
theorem dX7_book_60 : decode cX7_book 60 = .ok (.iaload, 1) := by decide +kernel
theorem dX7_book_61 : decode cX7_book 61 = .ok (.ireturn, 1) := by decide +kernel
theorem dX7_book_62 : decode cX7_book 62 = .ok (.aload_n 0, 1) := by decide +kernel
theorem dX7_book_63 : decode cX7_book 63 = .ok (.getfield 19, 3) := by decide +kernel
theorem dX7_book_66 : decode cX7_book 66 = .ok (.bipush 14, 2) := by decide +kernel
theorem dX7_book_68 : decode cX7_book 68 = .ok (.iload_n 1, 1) := by decide +kernel
theorem dX7_book_69 : decode cX7_book 69 = .ok (.iadd, 1) := by decide +kernel
theorem dX7_book_70 : decode cX7_book 70 = .ok (.iaload, 1) := by decide +kernel
theorem dX7_book_71 : decode cX7_book 71 = .ok (.ireturn, 1) := by decide +kernel
theorem dX7_book_72 : decode cX7_book 72 = .ok (.aload_n 0, 1) := by decide +kernel
theorem dX7_book_73 : decode cX7_book 73 = .ok (.getfield 19, 3) := by decide +kernel
theorem dX7_book_76 : decode cX7_book 76 = .ok (.bipush 20, 2) := by decide +kernel
theorem dX7_book_78 : decode cX7_book 78 = .ok (.iload_n 1, 1) := by decide +kernel
theorem dX7_book_79 : decode cX7_book 79 = .ok (.iadd, 1) := by decide +kernel
theorem dX7_book_80 : decode cX7_book 80 = .ok (.iaload, 1) := by decide +kernel
theorem dX7_book_81 : decode cX7_book 81 = .ok (.ireturn, 1) := by decide +kernel
theorem dX7_book_82 : decode cX7_book 82 = .ok (.aload_n 0, 1) := by decide +kernel
theorem dX7_book_83 : decode cX7_book 83 = .ok (.getfield 19, 3) := by decide +kernel
theorem dX7_book_86 : decode cX7_book 86 = .ok (.iconst 5, 1) := by decide +kernel
theorem dX7_book_87 : decode cX7_book 87 = .ok (.iaload, 1) := by decide +kernel
theorem dX7_book_88 : decode cX7_book 88 = .ok (.iload_n 1, 1) := by decide +kernel
theorem dX7_book_89 : decode cX7_book 89 = .ok (.invokestatic 154, 3) := by decide +kernel
theorem dX7_book_92 : decode cX7_book 92 = .ok (.ifCond .eq 7, 3) := by decide +kernel
theorem dX7_book_95 : decode cX7_book 95 = .ok (.iconst 1, 1) := by decide +kernel
theorem dX7_book_96 : decode cX7_book 96 = .ok (.goto 4, 3) := by decide +kernel
theorem dX7_book_99 : decode cX7_book 99 = .ok (.iconst 0, 1) := by decide +kernel
theorem dX7_book_100 : decode cX7_book 100 = .ok (.ireturn, 1) := by decide +kernel
theorem dX7_book_101 : decode cX7_book 101 = .ok (.aload_n 0, 1) := by decide +kernel
theorem dX7_book_102 : decode cX7_book 102 = .ok (.getfield 19, 3) := by decide +kernel
theorem dX7_book_105 : decode cX7_book 105 = .ok (.bipush 6, 2) := by decide +kernel
theorem dX7_book_107 : decode cX7_book 107 = .ok (.iaload, 1) := by decide +kernel
theorem dX7_book_108 : decode cX7_book 108 = .ok (.iload_n 1, 1) := by decide +kernel
theorem dX7_book_109 : decode cX7_book 109 = .ok (.invokestatic 154, 3) := by decide +kernel
theorem dX7_book_112 : decode cX7_book 112 = .ok (.ifCond .eq 7, 3) := by decide +kernel
theorem dX7_book_115 : decode cX7_book 115 = .ok (.iconst 1, 1) := by decide +kernel
theorem dX7_book_116 : decode cX7_book 116 = .ok (.goto 4, 3) := by decide +kernel
theorem dX7_book_119 : decode cX7_book 119 = .ok (.iconst 0, 1) := by decide +kernel
theorem dX7_book_120 : decode cX7_book 120 = .ok (.ireturn, 1) := by decide +kernel
theorem dX7_book_121 : decode cX7_book 121 = .ok (.aload_n 0, 1) := by decide +kernel
theorem dX7_book_122 : decode cX7_book 122 = .ok (.aload_n 0, 1) := by decide +kernel
theorem dX7_book_123 : decode cX7_book 123 = .ok (.getfield 19, 3) := by decide +kernel
theorem dX7_book_126 : decode cX7_book 126 = .ok (.bipush 20, 2) := by decide +kernel
theorem dX7_book_128 : decode cX7_book 128 = .ok (.iload_n 1, 1) := by decide +kernel
theorem dX7_book_129 : decode cX7_book 129 = .ok (.iadd, 1) := by decide +kernel
theorem dX7_book_130 : decode cX7_book 130 = .ok (.iaload, 1) := by decide +kernel
theorem dX7_book_131 : decode cX7_book 131 = .ok (.invokevirtual 203, 3) := by decide +kernel
theorem dX7_book_134 : decode cX7_book 134 = .ok (.ireturn, 1) := by decide +kernel
theorem dX7_book_135 : decode cX7_book 135 = .ok (.ldc 73, 2) := by decide +kernel
theorem dX7_book_137 : decode cX7_book 137 = .ok (.ireturn, 1) := by decide +kernel
theorem dX7_fish_0 : decode cX7_fish 0 = .ok (.aload_n 0, 1) := by decide +kernel
theorem dX7_fish_1 : decode cX7_fish 1 = .ok (.iload_n 1, 1) := by decide +kernel
theorem dX7_fish_2 : decode cX7_fish 2 = .ok (.invokevirtual 200, 3) := by decide +kernel
theorem dX7_fish_5 : decode cX7_fish 5 = .ok (.ifCond .eq 15, 3) := by decide +kernel
theorem dX7_fish_8 : decode cX7_fish 8 = .ok (.iload_n 2, 1) := by decide +kernel
theorem dX7_fish_9 : decode cX7_fish 9 = .ok (.i2l, 1) := by decide +kernel
theorem dX7_fish_10 : decode cX7_fish 10 = .ok (.lconst 0, 1) := by decide +kernel
theorem dX7_fish_11 : decode cX7_fish 11 = .ok (.ldc2_w 206, 3) := by decide +kernel
theorem dX7_fish_14 : decode cX7_fish 14 = .ok (.invokestatic 63, 3) := by decide +kernel
theorem dX7_fish_17 : decode cX7_fish 17 = .ok (.ifCond .ne 6, 3) := by decide +kernel
theorem dX7_fish_20 : decode cX7_fish 20 = .ok (.ldc 73, 2) := by decide +kernel
theorem dX7_fish_22 : decode cX7_fish 22 = .ok (.ireturn, 1) := by decide +kernel
theorem dX7_fish_23 : decode cX7_fish 23 = .ok (.iload_n 2, 1) := by decide +kernel
theorem dX7_fish_24 : decode cX7_fish 24 = .ok (.iconst 1, 1) := by decide +kernel
theorem dX7_fish_25 : decode cX7_fish 25 = .ok (.if_icmp .ne 13, 3) := by decide +kernel
theorem dX7_fish_28 : decode cX7_fish 28 = .ok (.aload_n 0, 1) := by decide +kernel
theorem dX7_fish_29 : decode cX7_fish 29 = .ok (.getfield 19, 3) := by decide +kernel
theorem dX7_fish_32 : decode cX7_fish 32 = .ok (.bipush 36, 2) := by decide +kernel
theorem dX7_fish_34 : decode cX7_fish 34 = .ok (.iload_n 1, 1) := by decide +kernel
theorem dX7_fish_35 : decode cX7_fish 35 = .ok (.iadd, 1) := by decide +kernel
theorem dX7_fish_36 : decode cX7_fish 36 = .ok (.iaload, 1) := by decide +kernel
theorem dX7_fish_37 : decode cX7_fish 37 = .ok (.ireturn, 1) := by decide +kernel
theorem dX7_fish_38 : decode cX7_fish 38 = .ok (.aload_n 0, 1) := by decide +kernel
theorem dX7_fish_39 : decode cX7_fish 39 = .ok (.iload_n 1, 1) := by decide +kernel
theorem dX7_fish_40 : decode cX7_fish 40 = .ok (.invokevirtual 171, 3) := by decide +kernel
theorem dX7_fish_43 : decode cX7_fish 43 = .ok (.ifCond .eq 6, 3) := by decide +kernel
theorem dX7_fish_46 : decode cX7_fish 46 = .ok (.ldc 158, 2) := by decide +kernel
theorem dX7_fish_48 : decode cX7_fish 48 = .ok (.ireturn, 1) := by decide +kernel
theorem dX7_fish_49 : decode cX7_fish 49 = .ok (.iload_n 2, 1) := by decide +kernel
theorem dX7_fish_50 : decode cX7_fish 50 = .ok (.ifCond .ne 15, 3) := by decide +kernel
theorem dX7_fish_53 : decode cX7_fish 53 = .ok (.aload_n 0, 1) := by decide +kernel
theorem dX7_fish_54 : decode cX7_fish 54 = .ok (.getfield 19, 3) := by decide +kernel
theorem dX7_fish_57 : decode cX7_fish 57 = .ok (.bipush 31, 2) := by decide +kernel
theorem dX7_fish_59 : decode cX7_fish 59 = .ok (.iload_n 1, 1) := by decide +kernel
theorem dX7_fish_60 : decode cX7_fish 60 = .ok (.iadd, 1) := by decide +kernel
theorem dX7_fish_61 : decode cX7_fish 61 = .ok (.iaload, 1) := by decide +kernel
theorem dX7_fish_62 : decode cX7_fish 62 = .ok (.goto 29, 3) := by decide +kernel
theorem dX7_fish_65 : decode cX7_fish 65 = .ok (.iload_n 2, 1) := by decide +kernel
theorem dX7_fish_66 : decode cX7_fish 66 = .ok (.iconst 2, 1) := by decide +kernel
theorem dX7_fish_67 : decode cX7_fish 67 = .ok (.if_icmp .ne 11, 3) := by decide +kernel
theorem dX7_fish_70 : decode cX7_fish 70 = .ok (.aload_n 0, 1) := by decide +kernel
theorem dX7_fish_71 : decode cX7_fish 71 = .ok (.iload_n 1, 1) := by decide +kernel
theorem dX7_fish_72 : decode cX7_fish 72 = .ok (.invokevirtual 168, 3) := by decide +kernel
theorem dX7_fish_75 : decode cX7_fish 75 = .ok (.goto 16, 3) := by decide +kernel
theorem dX7_fish_78 : decode cX7_fish 78 = .ok (.aload_n 0, 1) := by decide +kernel
theorem dX7_fish_79 : decode cX7_fish 79 = .ok (.aload_n 0, 1) := by decide +kernel
theorem dX7_fish_80 : decode cX7_fish 80 = .ok (.getfield 19, 3) := by decide +kernel
theorem dX7_fish_83 : decode cX7_fish 83 = .ok (.bipush 31, 2) := by decide +kernel
theorem dX7_fish_85 : decode cX7_fish 85 = .ok (.iload_n 1, 1) := by decide +kernel
theorem dX7_fish_86 : decode cX7_fish 86 = .ok (.iadd, 1) := by decide +kernel
theorem dX7_fish_87 : decode cX7_fish 87 = .ok (.iaload, 1) := by decide +kernel
theorem dX7_fish_88 : decode cX7_fish 88 = .ok (.invokevirtual 159, 3) := by decide +kernel
theorem dX7_fish_91 : decode cX7_fish 91 = .ok (.ireturn, 1) := by decide +kernel
