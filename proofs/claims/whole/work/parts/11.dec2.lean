theorem dX6_row_0 : decode cX6_row 0 = .ok (.iload_n 1, 1) := by decide +kernel
theorem dX6_row_1 : decode cX6_row 1 = .ok (.invokestatic 64, 3) := by decide +kernel
theorem dX6_row_4 : decode cX6_row 4 = .ok (.ifCond .eq 16, 3) := by decide +kernel
theorem dX6_row_7 : decode cX6_row 7 = .ok (.iload_n 2, 1) := by decide +kernel
theorem dX6_row_8 : decode cX6_row 8 = .ok (.invokestatic 68, 3) := by decide +kernel
theorem dX6_row_11 : decode cX6_row 11 = .ok (.ifCond .eq 9, 3) := by decide +kernel
theorem dX6_row_14 : decode cX6_row 14 = .ok (.iload_n 3, 1) := by decide +kernel
theorem dX6_row_15 : decode cX6_row 15 = .ok (.bipush 40, 2) := by decide +kernel
theorem dX6_row_17 : decode cX6_row 17 = .ok (.if_icmp .le 6, 3) := by decide +kernel
theorem dX6_row_20 : decode cX6_row 20 = .ok (.ldc 71, 2) := by decide +kernel
theorem dX6_row_22 : decode cX6_row 22 = .ok (.ireturn, 1) := by decide +kernel
theorem dX6_row_23 : decode cX6_row 23 = .ok (.iload_n 3, 1) := by decide +kernel
theorem dX6_row_24 : decode cX6_row 24 = .ok (.ifCond .ge 9, 3) := by decide +kernel
theorem dX6_row_27 : decode cX6_row 27 = .ok (.aload_n 0, 1) := by decide +kernel
theorem dX6_row_28 : decode cX6_row 28 = .ok (.iconst 4, 1) := by decide +kernel
theorem dX6_row_29 : decode cX6_row 29 = .ok (.invokevirtual 72, 3) := by decide +kernel
theorem dX6_row_32 : decode cX6_row 32 = .ok (.ireturn, 1) := by decide +kernel
theorem dX6_row_33 : decode cX6_row 33 = .ok (.aload_n 0, 1) := by decide +kernel
theorem dX6_row_34 : decode cX6_row 34 = .ok (.getfield 10, 3) := by decide +kernel
theorem dX6_row_37 : decode cX6_row 37 = .ok (.iload_n 1, 1) := by decide +kernel
theorem dX6_row_38 : decode cX6_row 38 = .ok (.iload_n 2, 1) := by decide +kernel
theorem dX6_row_39 : decode cX6_row 39 = .ok (.iload_n 3, 1) := by decide +kernel
theorem dX6_row_40 : decode cX6_row 40 = .ok (.invokevirtual 76, 3) := by decide +kernel
theorem dX6_row_43 : decode cX6_row 43 = .ok (.aload_n 0, 1) := by decide +kernel
theorem dX6_row_44 : decode cX6_row 44 = .ok (.iload_n 3, 1) := by decide +kernel
theorem dX6_row_45 : decode cX6_row 45 = .ok (.invokevirtual 80, 3) := by decide +kernel
theorem dX6_row_48 : decode cX6_row 48 = .ok (.ireturn, 1) := by decide +kernel
theorem dX6_set_0 : decode cX6_set 0 = .ok (.iload_n 1, 1) := by decide +kernel
theorem dX6_set_1 : decode cX6_set 1 = .ok (.invokestatic 64, 3) := by decide +kernel
theorem dX6_set_4 : decode cX6_set 4 = .ok (.ifCond .ne 6, 3) := by decide +kernel
theorem dX6_set_7 : decode cX6_set 7 = .ok (.ldc 71, 2) := by decide +kernel
theorem dX6_set_9 : decode cX6_set 9 = .ok (.ireturn, 1) := by decide +kernel
theorem dX6_set_10 : decode cX6_set 10 = .ok (.aload_n 0, 1) := by decide +kernel
theorem dX6_set_11 : decode cX6_set 11 = .ok (.getfield 10, 3) := by decide +kernel
theorem dX6_set_14 : decode cX6_set 14 = .ok (.iload_n 1, 1) := by decide +kernel
theorem dX6_set_15 : decode cX6_set 15 = .ok (.iload_n 2, 1) := by decide +kernel
theorem dX6_set_16 : decode cX6_set 16 = .ok (.iconst 1, 1) := by decide +kernel
theorem dX6_set_17 : decode cX6_set 17 = .ok (.invokevirtual 83, 3) := by decide +kernel
theorem dX6_set_20 : decode cX6_set 20 = .ok (.istore 4, 2) := by decide +kernel
theorem dX6_set_22 : decode cX6_set 22 = .ok (.iload 4, 2) := by decide +kernel
theorem dX6_set_24 : decode cX6_set 24 = .ok (.ifCond .eq 10, 3) := by decide +kernel
theorem dX6_set_27 : decode cX6_set 27 = .ok (.aload_n 0, 1) := by decide +kernel
theorem dX6_set_28 : decode cX6_set 28 = .ok (.iload 4, 2) := by decide +kernel
theorem dX6_set_30 : decode cX6_set 30 = .ok (.invokevirtual 72, 3) := by decide +kernel
theorem dX6_set_33 : decode cX6_set 33 = .ok (.ireturn, 1) := by decide +kernel
theorem dX6_set_34 : decode cX6_set 34 = .ok (.aload_n 0, 1) := by decide +kernel
theorem dX6_set_35 : decode cX6_set 35 = .ok (.aload_n 0, 1) := by decide +kernel
theorem dX6_set_36 : decode cX6_set 36 = .ok (.getfield 10, 3) := by decide +kernel
theorem dX6_set_39 : decode cX6_set 39 = .ok (.iload_n 1, 1) := by decide +kernel
theorem dX6_set_40 : decode cX6_set 40 = .ok (.iload_n 2, 1) := by decide +kernel
theorem dX6_set_41 : decode cX6_set 41 = .ok (.iload_n 3, 1) := by decide +kernel
theorem dX6_set_42 : decode cX6_set 42 = .ok (.invokevirtual 87, 3) := by decide +kernel
theorem dX6_set_45 : decode cX6_set 45 = .ok (.invokevirtual 80, 3) := by decide +kernel
theorem dX6_set_48 : decode cX6_set 48 = .ok (.ireturn, 1) := by decide +kernel
theorem dX6_copy_0 : decode cX6_copy 0 = .ok (.iload_n 1, 1) := by decide +kernel
theorem dX6_copy_1 : decode cX6_copy 1 = .ok (.invokestatic 64, 3) := by decide +kernel
theorem dX6_copy_4 : decode cX6_copy 4 = .ok (.ifCond .eq 10, 3) := by decide +kernel
theorem dX6_copy_7 : decode cX6_copy 7 = .ok (.iload_n 3, 1) := by decide +kernel
theorem dX6_copy_8 : decode cX6_copy 8 = .ok (.invokestatic 64, 3) := by decide +kernel
theorem dX6_copy_11 : decode cX6_copy 11 = .ok (.ifCond .ne 6, 3) := by decide +kernel
theorem dX6_copy_14 : decode cX6_copy 14 = .ok (.ldc 71, 2) := by decide +kernel
theorem dX6_copy_16 : decode cX6_copy 16 = .ok (.ireturn, 1) := by decide +kernel
theorem dX6_copy_17 : decode cX6_copy 17 = .ok (.aload_n 0, 1) := by decide +kernel
theorem dX6_copy_18 : decode cX6_copy 18 = .ok (.getfield 10, 3) := by decide +kernel
theorem dX6_copy_21 : decode cX6_copy 21 = .ok (.iload_n 1, 1) := by decide +kernel
theorem dX6_copy_22 : decode cX6_copy 22 = .ok (.iload_n 2, 1) := by decide +kernel
theorem dX6_copy_23 : decode cX6_copy 23 = .ok (.iload_n 3, 1) := by decide +kernel
theorem dX6_copy_24 : decode cX6_copy 24 = .ok (.iload 4, 2) := by decide +kernel
theorem dX6_copy_26 : decode cX6_copy 26 = .ok (.iload 5, 2) := by decide +kernel
theorem dX6_copy_28 : decode cX6_copy 28 = .ok (.invokevirtual 90, 3) := by decide +kernel
theorem dX6_copy_31 : decode cX6_copy 31 = .ok (.istore 6, 2) := by decide +kernel
theorem dX6_copy_33 : decode cX6_copy 33 = .ok (.iload 6, 2) := by decide +kernel
theorem dX6_copy_35 : decode cX6_copy 35 = .ok (.ifCond .eq 10, 3) := by decide +kernel
theorem dX6_copy_38 : decode cX6_copy 38 = .ok (.aload_n 0, 1) := by decide +kernel
theorem dX6_copy_39 : decode cX6_copy 39 = .ok (.iload 6, 2) := by decide +kernel
theorem dX6_copy_41 : decode cX6_copy 41 = .ok (.invokevirtual 72, 3) := by decide +kernel
theorem dX6_copy_44 : decode cX6_copy 44 = .ok (.ireturn, 1) := by decide +kernel
theorem dX6_copy_45 : decode cX6_copy 45 = .ok (.aload_n 0, 1) := by decide +kernel
theorem dX6_copy_46 : decode cX6_copy 46 = .ok (.getfield 10, 3) := by decide +kernel
theorem dX6_copy_49 : decode cX6_copy 49 = .ok (.iload_n 1, 1) := by decide +kernel
theorem dX6_copy_50 : decode cX6_copy 50 = .ok (.iload_n 2, 1) := by decide +kernel
theorem dX6_copy_51 : decode cX6_copy 51 = .ok (.iload_n 3, 1) := by decide +kernel
theorem dX6_copy_52 : decode cX6_copy 52 = .ok (.iload 4, 2) := by decide +kernel
theorem dX6_copy_54 : decode cX6_copy 54 = .ok (.iload 5, 2) := by decide +kernel
theorem dX6_copy_56 : decode cX6_copy 56 = .ok (.invokevirtual 94, 3) := by decide +kernel
theorem dX6_copy_59 : decode cX6_copy 59 = .ok (.aload_n 0, 1) := by decide +kernel
theorem dX6_copy_60 : decode cX6_copy 60 = .ok (.iload 5, 2) := by decide +kernel
theorem dX6_copy_62 : decode cX6_copy 62 = .ok (.invokevirtual 80, 3) := by decide +kernel
theorem dX6_copy_65 : decode cX6_copy 65 = .ok (.ireturn, 1) := by decide +kernel
theorem dX6_drop_0 : decode cX6_drop 0 = .ok (.iload_n 1, 1) := by decide +kernel
theorem dX6_drop_1 : decode cX6_drop 1 = .ok (.invokestatic 64, 3) := by decide +kernel
theorem dX6_drop_4 : decode cX6_drop 4 = .ok (.ifCond .ne 6, 3) := by decide +kernel
theorem dX6_drop_7 : decode cX6_drop 7 = .ok (.ldc 71, 2) := by decide +kernel
theorem dX6_drop_9 : decode cX6_drop 9 = .ok (.ireturn, 1) := by decide +kernel
theorem dX6_drop_10 : decode cX6_drop 10 = .ok (.aload_n 0, 1) := by decide +kernel
theorem dX6_drop_11 : decode cX6_drop 11 = .ok (.getfield 10, 3) := by decide +kernel
theorem dX6_drop_14 : decode cX6_drop 14 = .ok (.iload_n 1, 1) := by decide +kernel
theorem dX6_drop_15 : decode cX6_drop 15 = .ok (.invokevirtual 98, 3) := by decide +kernel
theorem dX6_drop_18 : decode cX6_drop 18 = .ok (.ifCond .eq 9, 3) := by decide +kernel
theorem dX6_drop_21 : decode cX6_drop 21 = .ok (.aload_n 0, 1) := by decide +kernel
theorem dX6_drop_22 : decode cX6_drop 22 = .ok (.iconst 1, 1) := by decide +kernel
theorem dX6_drop_23 : decode cX6_drop 23 = .ok (.invokevirtual 72, 3) := by decide +kernel
theorem dX6_drop_26 : decode cX6_drop 26 = .ok (.ireturn, 1) := by decide +kernel
theorem dX6_drop_27 : decode cX6_drop 27 = .ok (.aload_n 0, 1) := by decide +kernel
theorem dX6_drop_28 : decode cX6_drop 28 = .ok (.aload_n 0, 1) := by decide +kernel
theorem dX6_drop_29 : decode cX6_drop 29 = .ok (.getfield 10, 3) := by decide +kernel
theorem dX6_drop_32 : decode cX6_drop 32 = .ok (.iload_n 1, 1) := by decide +kernel
theorem dX6_drop_33 : decode cX6_drop 33 = .ok (.invokevirtual 101, 3) := by decide +kernel
theorem dX6_drop_36 : decode cX6_drop 36 = .ok (.invokevirtual 80, 3) := by decide +kernel
theorem dX6_drop_39 : decode cX6_drop 39 = .ok (.ireturn, 1) := by decide +kernel
theorem dX6_feed_0 : decode cX6_feed 0 = .ok (.iload_n 1, 1) := by decide +kernel
theorem dX6_feed_1 : decode cX6_feed 1 = .ok (.iconst 0, 1) := by decide +kernel
theorem dX6_feed_2 : decode cX6_feed 2 = .ok (.sipush 255, 3) := by decide +kernel
theorem dX6_feed_5 : decode cX6_feed 5 = .ok (.invokestatic 104, 3) := by decide +kernel
theorem dX6_feed_8 : decode cX6_feed 8 = .ok (.ifCond .ne 6, 3) := by decide +kernel
theorem dX6_feed_11 : decode cX6_feed 11 = .ok (.ldc 71, 2) := by decide +kernel
theorem dX6_feed_13 : decode cX6_feed 13 = .ok (.ireturn, 1) := by decide +kernel
theorem dX6_feed_14 : decode cX6_feed 14 = .ok (.aload_n 0, 1) := by decide +kernel
theorem dX6_feed_15 : decode cX6_feed 15 = .ok (.getfield 19, 3) := by decide +kernel
theorem dX6_feed_18 : decode cX6_feed 18 = .ok (.iload_n 1, 1) := by decide +kernel
theorem dX6_feed_19 : decode cX6_feed 19 = .ok (.invokevirtual 108, 3) := by decide +kernel
theorem dX6_feed_22 : decode cX6_feed 22 = .ok (.ifCond .eq 13, 3) := by decide +kernel
theorem dX6_feed_25 : decode cX6_feed 25 = .ok (.aload_n 0, 1) := by decide +kernel
theorem dX6_feed_26 : decode cX6_feed 26 = .ok (.getfield 19, 3) := by decide +kernel
theorem dX6_feed_29 : decode cX6_feed 29 = .ok (.getfield 111, 3) := by decide +kernel
theorem dX6_feed_32 : decode cX6_feed 32 = .ok (.goto 5, 3) := by decide +kernel
theorem dX6_feed_35 : decode cX6_feed 35 = .ok (.ldc 114, 2) := by decide +kernel
theorem dX6_feed_37 : decode cX6_feed 37 = .ok (.ireturn, 1) := by decide +kernel
theorem dX6_library_0 : decode cX6_library 0 = .ok (.aload_n 0, 1) := by decide +kernel
theorem dX6_library_1 : decode cX6_library 1 = .ok (.getfield 19, 3) := by decide +kernel
theorem dX6_library_4 : decode cX6_library 4 = .ok (.aload_n 0, 1) := by decide +kernel
theorem dX6_library_5 : decode cX6_library 5 = .ok (.getfield 30, 3) := by decide +kernel
theorem dX6_library_8 : decode cX6_library 8 = .ok (.invokevirtual 115, 3) := by decide +kernel
theorem dX6_library_11 : decode cX6_library 11 = .ok (.istore_n 1, 1) := by decide +kernel
theorem dX6_library_12 : decode cX6_library 12 = .ok (.iload_n 1, 1) := by decide +kernel
theorem dX6_library_13 : decode cX6_library 13 = .ok (.ldc 119, 2) := by decide +kernel
theorem dX6_library_15 : decode cX6_library 15 = .ok (.if_icmp .eq 8, 3) := by decide +kernel
theorem dX6_library_18 : decode cX6_library 18 = .ok (.ldc 120, 2) := by decide +kernel
theorem dX6_library_20 : decode cX6_library 20 = .ok (.iload_n 1, 1) := by decide +kernel
theorem dX6_library_21 : decode cX6_library 21 = .ok (.isub, 1) := by decide +kernel
theorem dX6_library_22 : decode cX6_library 22 = .ok (.ireturn, 1) := by decide +kernel
theorem dX6_library_23 : decode cX6_library 23 = .ok (.aload_n 0, 1) := by decide +kernel
theorem dX6_library_24 : decode cX6_library 24 = .ok (.getfield 26, 3) := by decide +kernel
theorem dX6_library_27 : decode cX6_library 27 = .ok (.aload_n 0, 1) := by decide +kernel
theorem dX6_library_28 : decode cX6_library 28 = .ok (.getfield 30, 3) := by decide +kernel
theorem dX6_library_31 : decode cX6_library 31 = .ok (.invokevirtual 121, 3) := by decide +kernel
theorem dX6_library_34 : decode cX6_library 34 = .ok (.aload_n 0, 1) := by decide +kernel
theorem dX6_library_35 : decode cX6_library 35 = .ok (.getfield 42, 3) := by decide +kernel
theorem dX6_library_38 : decode cX6_library 38 = .ok (.invokevirtual 125, 3) := by decide +kernel
theorem dX6_library_41 : decode cX6_library 41 = .ok (.aload_n 0, 1) := by decide +kernel
theorem dX6_library_42 : decode cX6_library 42 = .ok (.getfield 26, 3) := by decide +kernel
theorem dX6_library_45 : decode cX6_library 45 = .ok (.getfield 128, 3) := by decide +kernel
theorem dX6_library_48 : decode cX6_library 48 = .ok (.ireturn, 1) := by decide +kernel
theorem dX6_fault_0 : decode cX6_fault 0 = .ok (.aload_n 0, 1) := by decide +kernel
theorem dX6_fault_1 : decode cX6_fault 1 = .ok (.getfield 19, 3) := by decide +kernel
theorem dX6_fault_4 : decode cX6_fault 4 = .ok (.getfield 131, 3) := by decide +kernel
theorem dX6_fault_7 : decode cX6_fault 7 = .ok (.ireturn, 1) := by decide +kernel
theorem dX6_undo_0 : decode cX6_undo 0 = .ok (.aload_n 0, 1) := by decide +kernel
theorem dX6_undo_1 : decode cX6_undo 1 = .ok (.getfield 42, 3) := by decide +kernel
theorem dX6_undo_4 : decode cX6_undo 4 = .ok (.getfield 134, 3) := by decide +kernel
theorem dX6_undo_7 : decode cX6_undo 7 = .ok (.ifCond .ne 6, 3) := by decide +kernel
theorem dX6_undo_10 : decode cX6_undo 10 = .ok (.ldc 137, 2) := by decide +kernel
theorem dX6_undo_12 : decode cX6_undo 12 = .ok (.ireturn, 1) := by decide +kernel
theorem dX6_undo_13 : decode cX6_undo 13 = .ok (.aload_n 0, 1) := by decide +kernel
theorem dX6_undo_14 : decode cX6_undo 14 = .ok (.getfield 42, 3) := by decide +kernel
theorem dX6_undo_17 : decode cX6_undo 17 = .ok (.aload_n 0, 1) := by decide +kernel
theorem dX6_undo_18 : decode cX6_undo 18 = .ok (.getfield 26, 3) := by decide +kernel
theorem dX6_undo_21 : decode cX6_undo 21 = .ok (.invokevirtual 138, 3) := by decide +kernel
theorem dX6_undo_24 : decode cX6_undo 24 = .ok (.aload_n 0, 1) := by decide +kernel
theorem dX6_undo_25 : decode cX6_undo 25 = .ok (.getfield 42, 3) := by decide +kernel
theorem dX6_undo_28 : decode cX6_undo 28 = .ok (.getfield 134, 3) := by decide +kernel
theorem dX6_undo_31 : decode cX6_undo 31 = .ok (.ireturn, 1) := by decide +kernel
theorem dX6_nights_0 : decode cX6_nights 0 = .ok (.aload_n 0, 1) := by decide +kernel
theorem dX6_nights_1 : decode cX6_nights 1 = .ok (.getfield 26, 3) := by decide +kernel
theorem dX6_nights_4 : decode cX6_nights 4 = .ok (.invokevirtual 141, 3) := by decide +kernel
theorem dX6_nights_7 : decode cX6_nights 7 = .ok (.ifCond .ne 6, 3) := by decide +kernel
theorem dX6_nights_10 : decode cX6_nights 10 = .ok (.ldc 137, 2) := by decide +kernel
theorem dX6_nights_12 : decode cX6_nights 12 = .ok (.ireturn, 1) := by decide +kernel
theorem dX6_nights_13 : decode cX6_nights 13 = .ok (.iload_n 1, 1) := by decide +kernel
theorem dX6_nights_14 : decode cX6_nights 14 = .ok (.iconst 1, 1) := by decide +kernel
theorem dX6_nights_15 : decode cX6_nights 15 = .ok (.bipush 24, 2) := by decide +kernel
theorem dX6_nights_17 : decode cX6_nights 17 = .ok (.invokestatic 104, 3) := by decide +kernel
theorem dX6_nights_20 : decode cX6_nights 20 = .ok (.ifCond .ne 6, 3) := by decide +kernel
theorem dX6_nights_23 : decode cX6_nights 23 = .ok (.ldc 71, 2) := by decide +kernel
theorem dX6_nights_25 : decode cX6_nights 25 = .ok (.ireturn, 1) := by decide +kernel
theorem dX6_nights_26 : decode cX6_nights 26 = .ok (.aload_n 0, 1) := by decide +kernel
theorem dX6_nights_27 : decode cX6_nights 27 = .ok (.getfield 26, 3) := by decide +kernel
theorem dX6_nights_30 : decode cX6_nights 30 = .ok (.getfield 145, 3) := by decide +kernel
theorem dX6_nights_33 : decode cX6_nights 33 = .ok (.iload_n 1, 1) := by decide +kernel
theorem dX6_nights_34 : decode cX6_nights 34 = .ok (.iadd, 1) := by decide +kernel
theorem dX6_nights_35 : decode cX6_nights 35 = .ok (.sipush 999, 3) := by decide +kernel
theorem dX6_nights_38 : decode cX6_nights 38 = .ok (.if_icmp .le 6, 3) := by decide +kernel
theorem dX6_nights_41 : decode cX6_nights 41 = .ok (.ldc 114, 2) := by decide +kernel
theorem dX6_nights_43 : decode cX6_nights 43 = .ok (.ireturn, 1) := by decide +kernel
theorem dX6_nights_44 : decode cX6_nights 44 = .ok (.iconst 0, 1) := by decide +kernel
theorem dX6_nights_45 : decode cX6_nights 45 = .ok (.istore_n 2, 1) := by decide +kernel
theorem dX6_nights_46 : decode cX6_nights 46 = .ok (.iload_n 2, 1) := by decide +kernel
theorem dX6_nights_47 : decode cX6_nights 47 = .ok (.iload_n 1, 1) := by decide +kernel
theorem dX6_nights_48 : decode cX6_nights 48 = .ok (.if_icmp .ge 27, 3) := by decide +kernel
theorem dX6_nights_51 : decode cX6_nights 51 = .ok (.aload_n 0, 1) := by decide +kernel
theorem dX6_nights_52 : decode cX6_nights 52 = .ok (.getfield 42, 3) := by decide +kernel
theorem dX6_nights_55 : decode cX6_nights 55 = .ok (.aload_n 0, 1) := by decide +kernel
theorem dX6_nights_56 : decode cX6_nights 56 = .ok (.getfield 26, 3) := by decide +kernel
theorem dX6_nights_59 : decode cX6_nights 59 = .ok (.invokevirtual 148, 3) := by decide +kernel
theorem dX6_nights_62 : decode cX6_nights 62 = .ok (.aload_n 0, 1) := by decide +kernel
theorem dX6_nights_63 : decode cX6_nights 63 = .ok (.getfield 26, 3) := by decide +kernel
theorem dX6_nights_66 : decode cX6_nights 66 = .ok (.invokevirtual 151, 3) := by decide +kernel
theorem dX6_nights_69 : decode cX6_nights 69 = .ok (.iinc 2 1, 3) := by decide +kernel
theorem dX6_nights_72 : decode cX6_nights 72 = .ok (.goto (-26), 3) := by decide +kernel
theorem dX6_nights_75 : decode cX6_nights 75 = .ok (.aload_n 0, 1) := by decide +kernel
theorem dX6_nights_76 : decode cX6_nights 76 = .ok (.getfield 26, 3) := by decide +kernel
theorem dX6_nights_79 : decode cX6_nights 79 = .ok (.invokevirtual 154, 3) := by decide +kernel
theorem dX6_nights_82 : decode cX6_nights 82 = .ok (.ireturn, 1) := by decide +kernel
theorem dX6_light_0 : decode cX6_light 0 = .ok (.aload_n 0, 1) := by decide +kernel
theorem dX6_light_1 : decode cX6_light 1 = .ok (.getfield 26, 3) := by decide +kernel
theorem dX6_light_4 : decode cX6_light 4 = .ok (.iload_n 1, 1) := by decide +kernel
theorem dX6_light_5 : decode cX6_light 5 = .ok (.invokevirtual 158, 3) := by decide +kernel
theorem dX6_light_8 : decode cX6_light 8 = .ok (.ifCond .eq 12, 3) := by decide +kernel
theorem dX6_light_11 : decode cX6_light 11 = .ok (.iload_n 2, 1) := by decide +kernel
theorem dX6_light_12 : decode cX6_light 12 = .ok (.iconst 0, 1) := by decide +kernel
theorem dX6_light_13 : decode cX6_light 13 = .ok (.iconst 1, 1) := by decide +kernel
theorem dX6_light_14 : decode cX6_light 14 = .ok (.invokestatic 104, 3) := by decide +kernel
theorem dX6_light_17 : decode cX6_light 17 = .ok (.ifCond .ne 6, 3) := by decide +kernel
theorem dX6_light_20 : decode cX6_light 20 = .ok (.ldc 71, 2) := by decide +kernel
theorem dX6_light_22 : decode cX6_light 22 = .ok (.ireturn, 1) := by decide +kernel
theorem dX6_light_23 : decode cX6_light 23 = .ok (.aload_n 0, 1) := by decide +kernel
theorem dX6_light_24 : decode cX6_light 24 = .ok (.getfield 26, 3) := by decide +kernel
theorem dX6_light_27 : decode cX6_light 27 = .ok (.getfield 161, 3) := by decide +kernel
theorem dX6_light_30 : decode cX6_light 30 = .ok (.iload_n 1, 1) := by decide +kernel
theorem dX6_light_31 : decode cX6_light 31 = .ok (.invokestatic 164, 3) := by decide +kernel
theorem dX6_light_34 : decode cX6_light 34 = .ok (.iload_n 2, 1) := by decide +kernel
theorem dX6_light_35 : decode cX6_light 35 = .ok (.if_icmp .ne 6, 3) := by decide +kernel
theorem dX6_light_38 : decode cX6_light 38 = .ok (.ldc 137, 2) := by decide +kernel
theorem dX6_light_40 : decode cX6_light 40 = .ok (.ireturn, 1) := by decide +kernel
theorem dX6_light_41 : decode cX6_light 41 = .ok (.iload_n 2, 1) := by decide +kernel
theorem dX6_light_42 : decode cX6_light 42 = .ok (.iconst 1, 1) := by decide +kernel
theorem dX6_light_43 : decode cX6_light 43 = .ok (.if_icmp .ne 26, 3) := by decide +kernel
theorem dX6_light_46 : decode cX6_light 46 = .ok (.aload_n 0, 1) := by decide +kernel
theorem dX6_light_47 : decode cX6_light 47 = .ok (.getfield 26, 3) := by decide +kernel
theorem dX6_light_50 : decode cX6_light 50 = .ok (.getfield 161, 3) := by decide +kernel
theorem dX6_light_53 : decode cX6_light 53 = .ok (.invokestatic 168, 3) := by decide +kernel
theorem dX6_light_56 : decode cX6_light 56 = .ok (.aload_n 0, 1) := by decide +kernel
theorem dX6_light_57 : decode cX6_light 57 = .ok (.getfield 26, 3) := by decide +kernel
theorem dX6_light_60 : decode cX6_light 60 = .ok (.getfield 173, 3) := by decide +kernel
theorem dX6_light_63 : decode cX6_light 63 = .ok (.if_icmp .lt 6, 3) := by decide +kernel
theorem dX6_light_66 : decode cX6_light 66 = .ok (.ldc 137, 2) := by decide +kernel
theorem dX6_light_68 : decode cX6_light 68 = .ok (.ireturn, 1) := by decide +kernel
theorem dX6_light_69 : decode cX6_light 69 = .ok (.aload_n 0, 1) := by decide +kernel
theorem dX6_light_70 : decode cX6_light 70 = .ok (.getfield 42, 3) := by decide +kernel
theorem dX6_light_73 : decode cX6_light 73 = .ok (.aload_n 0, 1) := by decide +kernel
theorem dX6_light_74 : decode cX6_light 74 = .ok (.getfield 26, 3) := by decide +kernel
theorem dX6_light_77 : decode cX6_light 77 = .ok (.invokevirtual 148, 3) := by decide +kernel
theorem dX6_light_80 : decode cX6_light 80 = .ok (.aload_n 0, 1) := by decide +kernel
theorem dX6_light_81 : decode cX6_light 81 = .ok (.getfield 26, 3) := by decide +kernel
theorem dX6_light_84 : decode cX6_light 84 = .ok (.dup, 1) := by decide +kernel
theorem dX6_light_85 : decode cX6_light 85 = .ok (.getfield 161, 3) := by decide +kernel
theorem dX6_light_88 : decode cX6_light 88 = .ok (.iconst 1, 1) := by decide +kernel
theorem dX6_light_89 : decode cX6_light 89 = .ok (.iload_n 1, 1) := by decide +kernel
theorem dX6_light_90 : decode cX6_light 90 = .ok (.ishl, 1) := by decide +kernel
theorem dX6_light_91 : decode cX6_light 91 = .ok (.ixor, 1) := by decide +kernel
theorem dX6_light_92 : decode cX6_light 92 = .ok (.putfield 161, 3) := by decide +kernel
theorem dX6_light_95 : decode cX6_light 95 = .ok (.aload_n 0, 1) := by decide +kernel
theorem dX6_light_96 : decode cX6_light 96 = .ok (.getfield 26, 3) := by decide +kernel
theorem dX6_light_99 : decode cX6_light 99 = .ok (.getfield 161, 3) := by decide +kernel
theorem dX6_light_102 : decode cX6_light 102 = .ok (.ireturn, 1) := by decide +kernel
theorem dX6_keepIt_0 : decode cX6_keepIt 0 = .ok (.aload_n 0, 1) := by decide +kernel
theorem dX6_keepIt_1 : decode cX6_keepIt 1 = .ok (.getfield 26, 3) := by decide +kernel
theorem dX6_keepIt_4 : decode cX6_keepIt 4 = .ok (.iload_n 1, 1) := by decide +kernel
theorem dX6_keepIt_5 : decode cX6_keepIt 5 = .ok (.invokevirtual 158, 3) := by decide +kernel
theorem dX6_keepIt_8 : decode cX6_keepIt 8 = .ok (.ifCond .eq 12, 3) := by decide +kernel
theorem dX6_keepIt_11 : decode cX6_keepIt 11 = .ok (.iload_n 2, 1) := by decide +kernel
theorem dX6_keepIt_12 : decode cX6_keepIt 12 = .ok (.iconst 0, 1) := by decide +kernel
theorem dX6_keepIt_13 : decode cX6_keepIt 13 = .ok (.iconst 1, 1) := by decide +kernel
theorem dX6_keepIt_14 : decode cX6_keepIt 14 = .ok (.invokestatic 104, 3) := by decide +kernel
theorem dX6_keepIt_17 : decode cX6_keepIt 17 = .ok (.ifCond .ne 6, 3) := by decide +kernel
theorem dX6_keepIt_20 : decode cX6_keepIt 20 = .ok (.ldc 71, 2) := by decide +kernel
theorem dX6_keepIt_22 : decode cX6_keepIt 22 = .ok (.ireturn, 1) := by decide +kernel
theorem dX6_keepIt_23 : decode cX6_keepIt 23 = .ok (.aload_n 0, 1) := by decide +kernel
theorem dX6_keepIt_24 : decode cX6_keepIt 24 = .ok (.getfield 26, 3) := by decide +kernel
theorem dX6_keepIt_27 : decode cX6_keepIt 27 = .ok (.getfield 176, 3) := by decide +kernel
theorem dX6_keepIt_30 : decode cX6_keepIt 30 = .ok (.iload_n 1, 1) := by decide +kernel
theorem dX6_keepIt_31 : decode cX6_keepIt 31 = .ok (.invokestatic 164, 3) := by decide +kernel
theorem dX6_keepIt_34 : decode cX6_keepIt 34 = .ok (.iload_n 2, 1) := by decide +kernel
theorem dX6_keepIt_35 : decode cX6_keepIt 35 = .ok (.if_icmp .ne 6, 3) := by decide +kernel
theorem dX6_keepIt_38 : decode cX6_keepIt 38 = .ok (.ldc 137, 2) := by decide +kernel
theorem dX6_keepIt_40 : decode cX6_keepIt 40 = .ok (.ireturn, 1) := by decide +kernel
theorem dX6_keepIt_41 : decode cX6_keepIt 41 = .ok (.aload_n 0, 1) := by decide +kernel
theorem dX6_keepIt_42 : decode cX6_keepIt 42 = .ok (.getfield 42, 3) := by decide +kernel
theorem dX6_keepIt_45 : decode cX6_keepIt 45 = .ok (.aload_n 0, 1) := by decide +kernel
theorem dX6_keepIt_46 : decode cX6_keepIt 46 = .ok (.getfield 26, 3) := by decide +kernel
theorem dX6_keepIt_49 : decode cX6_keepIt 49 = .ok (.invokevirtual 148, 3) := by decide +kernel
theorem dX6_keepIt_52 : decode cX6_keepIt 52 = .ok (.aload_n 0, 1) := by decide +kernel
theorem dX6_keepIt_53 : decode cX6_keepIt 53 = .ok (.getfield 26, 3) := by decide +kernel
theorem dX6_keepIt_56 : decode cX6_keepIt 56 = .ok (.dup, 1) := by decide +kernel
theorem dX6_keepIt_57 : decode cX6_keepIt 57 = .ok (.getfield 176, 3) := by decide +kernel
theorem dX6_keepIt_60 : decode cX6_keepIt 60 = .ok (.iconst 1, 1) := by decide +kernel
theorem dX6_keepIt_61 : decode cX6_keepIt 61 = .ok (.iload_n 1, 1) := by decide +kernel
theorem dX6_keepIt_62 : decode cX6_keepIt 62 = .ok (.ishl, 1) := by decide +kernel
theorem dX6_keepIt_63 : decode cX6_keepIt 63 = .ok (.ixor, 1) := by decide +kernel
theorem dX6_keepIt_64 : decode cX6_keepIt 64 = .ok (.putfield 176, 3) := by decide +kernel
theorem dX6_keepIt_67 : decode cX6_keepIt 67 = .ok (.aload_n 0, 1) := by decide +kernel
theorem dX6_keepIt_68 : decode cX6_keepIt 68 = .ok (.getfield 26, 3) := by decide +kernel
theorem dX6_keepIt_71 : decode cX6_keepIt 71 = .ok (.getfield 176, 3) := by decide +kernel
theorem dX6_keepIt_74 : decode cX6_keepIt 74 = .ok (.ireturn, 1) := by decide +kernel
theorem dX6_change_0 : decode cX6_change 0 = .ok (.aload_n 0, 1) := by decide +kernel
theorem dX6_change_1 : decode cX6_change 1 = .ok (.getfield 26, 3) := by decide +kernel
theorem dX6_change_4 : decode cX6_change 4 = .ok (.iload_n 1, 1) := by decide +kernel
theorem dX6_change_5 : decode cX6_change 5 = .ok (.invokevirtual 158, 3) := by decide +kernel
theorem dX6_change_8 : decode cX6_change 8 = .ok (.ifCond .eq 19, 3) := by decide +kernel
theorem dX6_change_11 : decode cX6_change 11 = .ok (.aload_n 0, 1) := by decide +kernel
theorem dX6_change_12 : decode cX6_change 12 = .ok (.getfield 26, 3) := by decide +kernel
theorem dX6_change_15 : decode cX6_change 15 = .ok (.iload_n 2, 1) := by decide +kernel
theorem dX6_change_16 : decode cX6_change 16 = .ok (.invokevirtual 158, 3) := by decide +kernel
theorem dX6_change_19 : decode cX6_change 19 = .ok (.ifCond .eq 8, 3) := by decide +kernel
theorem dX6_change_22 : decode cX6_change 22 = .ok (.iload_n 1, 1) := by decide +kernel
theorem dX6_change_23 : decode cX6_change 23 = .ok (.iload_n 2, 1) := by decide +kernel
theorem dX6_change_24 : decode cX6_change 24 = .ok (.if_icmp .ne 6, 3) := by decide +kernel
theorem dX6_change_27 : decode cX6_change 27 = .ok (.ldc 71, 2) := by decide +kernel
theorem dX6_change_29 : decode cX6_change 29 = .ok (.ireturn, 1) := by decide +kernel
theorem dX6_change_30 : decode cX6_change 30 = .ok (.aload_n 0, 1) := by decide +kernel
theorem dX6_change_31 : decode cX6_change 31 = .ok (.getfield 42, 3) := by decide +kernel
theorem dX6_change_34 : decode cX6_change 34 = .ok (.aload_n 0, 1) := by decide +kernel
theorem dX6_change_35 : decode cX6_change 35 = .ok (.getfield 26, 3) := by decide +kernel
theorem dX6_change_38 : decode cX6_change 38 = .ok (.invokevirtual 148, 3) := by decide +kernel
theorem dX6_change_41 : decode cX6_change 41 = .ok (.aload_n 0, 1) := by decide +kernel
theorem dX6_change_42 : decode cX6_change 42 = .ok (.getfield 26, 3) := by decide +kernel
theorem dX6_change_45 : decode cX6_change 45 = .ok (.getfield 177, 3) := by decide +kernel
theorem dX6_change_48 : decode cX6_change 48 = .ok (.iload_n 1, 1) := by decide +kernel
theorem dX6_change_49 : decode cX6_change 49 = .ok (.iaload, 1) := by decide +kernel
theorem dX6_change_50 : decode cX6_change 50 = .ok (.istore_n 3, 1) := by decide +kernel
theorem dX6_change_51 : decode cX6_change 51 = .ok (.aload_n 0, 1) := by decide +kernel
theorem dX6_change_52 : decode cX6_change 52 = .ok (.getfield 26, 3) := by decide +kernel
theorem dX6_change_55 : decode cX6_change 55 = .ok (.getfield 177, 3) := by decide +kernel
theorem dX6_change_58 : decode cX6_change 58 = .ok (.iload_n 2, 1) := by decide +kernel
theorem dX6_change_59 : decode cX6_change 59 = .ok (.iaload, 1) := by decide +kernel
theorem dX6_change_60 : decode cX6_change 60 = .ok (.istore 4, 2) := by decide +kernel
theorem dX6_change_62 : decode cX6_change 62 = .ok (.aload_n 0, 1) := by decide +kernel
theorem dX6_change_63 : decode cX6_change 63 = .ok (.getfield 26, 3) := by decide +kernel
theorem dX6_change_66 : decode cX6_change 66 = .ok (.iload_n 1, 1) := by decide +kernel
theorem dX6_change_67 : decode cX6_change 67 = .ok (.iload 4, 2) := by decide +kernel
theorem dX6_change_69 : decode cX6_change 69 = .ok (.invokevirtual 181, 3) := by decide +kernel
theorem dX6_change_72 : decode cX6_change 72 = .ok (.aload_n 0, 1) := by decide +kernel
theorem dX6_change_73 : decode cX6_change 73 = .ok (.getfield 26, 3) := by decide +kernel
theorem dX6_change_76 : decode cX6_change 76 = .ok (.iload_n 2, 1) := by decide +kernel
theorem dX6_change_77 : decode cX6_change 77 = .ok (.iload_n 3, 1) := by decide +kernel
theorem dX6_change_78 : decode cX6_change 78 = .ok (.invokevirtual 181, 3) := by decide +kernel
theorem dX6_change_81 : decode cX6_change 81 = .ok (.iload 4, 2) := by decide +kernel
theorem dX6_change_83 : decode cX6_change 83 = .ok (.ireturn, 1) := by decide +kernel
theorem dX6_move_0 : decode cX6_move 0 = .ok (.aload_n 0, 1) := by decide +kernel
theorem dX6_move_1 : decode cX6_move 1 = .ok (.getfield 26, 3) := by decide +kernel
theorem dX6_move_4 : decode cX6_move 4 = .ok (.iload_n 1, 1) := by decide +kernel
theorem dX6_move_5 : decode cX6_move 5 = .ok (.invokevirtual 184, 3) := by decide +kernel
theorem dX6_move_8 : decode cX6_move 8 = .ok (.ifCond .eq 14, 3) := by decide +kernel
theorem dX6_move_11 : decode cX6_move 11 = .ok (.aload_n 0, 1) := by decide +kernel
theorem dX6_move_12 : decode cX6_move 12 = .ok (.getfield 26, 3) := by decide +kernel
theorem dX6_move_15 : decode cX6_move 15 = .ok (.iload_n 2, 1) := by decide +kernel
theorem dX6_move_16 : decode cX6_move 16 = .ok (.invokevirtual 187, 3) := by decide +kernel
theorem dX6_move_19 : decode cX6_move 19 = .ok (.ifCond .ne 6, 3) := by decide +kernel
theorem dX6_move_22 : decode cX6_move 22 = .ok (.ldc 71, 2) := by decide +kernel
theorem dX6_move_24 : decode cX6_move 24 = .ok (.ireturn, 1) := by decide +kernel
theorem dX6_move_25 : decode cX6_move 25 = .ok (.aload_n 0, 1) := by decide +kernel
theorem dX6_move_26 : decode cX6_move 26 = .ok (.getfield 26, 3) := by decide +kernel
theorem dX6_move_29 : decode cX6_move 29 = .ok (.getfield 190, 3) := by decide +kernel
theorem dX6_move_32 : decode cX6_move 32 = .ok (.iload_n 1, 1) := by decide +kernel
theorem dX6_move_33 : decode cX6_move 33 = .ok (.iaload, 1) := by decide +kernel
theorem dX6_move_34 : decode cX6_move 34 = .ok (.istore_n 3, 1) := by decide +kernel
theorem dX6_move_35 : decode cX6_move 35 = .ok (.iload_n 3, 1) := by decide +kernel
theorem dX6_move_36 : decode cX6_move 36 = .ok (.iload_n 2, 1) := by decide +kernel
theorem dX6_move_37 : decode cX6_move 37 = .ok (.if_icmp .eq 14, 3) := by decide +kernel
theorem dX6_move_40 : decode cX6_move 40 = .ok (.aload_n 0, 1) := by decide +kernel
theorem dX6_move_41 : decode cX6_move 41 = .ok (.getfield 26, 3) := by decide +kernel
theorem dX6_move_44 : decode cX6_move 44 = .ok (.iload_n 1, 1) := by decide +kernel
theorem dX6_move_45 : decode cX6_move 45 = .ok (.invokevirtual 193, 3) := by decide +kernel
theorem dX6_move_48 : decode cX6_move 48 = .ok (.ifCond .eq 6, 3) := by decide +kernel
theorem dX6_move_51 : decode cX6_move 51 = .ok (.ldc 137, 2) := by decide +kernel
theorem dX6_move_53 : decode cX6_move 53 = .ok (.ireturn, 1) := by decide +kernel
theorem dX6_move_54 : decode cX6_move 54 = .ok (.aload_n 0, 1) := by decide +kernel
theorem dX6_move_55 : decode cX6_move 55 = .ok (.getfield 42, 3) := by decide +kernel
theorem dX6_move_58 : decode cX6_move 58 = .ok (.aload_n 0, 1) := by decide +kernel
theorem dX6_move_59 : decode cX6_move 59 = .ok (.getfield 26, 3) := by decide +kernel
theorem dX6_move_62 : decode cX6_move 62 = .ok (.invokevirtual 148, 3) := by decide +kernel
theorem dX6_move_65 : decode cX6_move 65 = .ok (.aload_n 0, 1) := by decide +kernel
theorem dX6_move_66 : decode cX6_move 66 = .ok (.getfield 26, 3) := by decide +kernel
theorem dX6_move_69 : decode cX6_move 69 = .ok (.getfield 190, 3) := by decide +kernel
theorem dX6_move_72 : decode cX6_move 72 = .ok (.iload_n 1, 1) := by decide +kernel
theorem dX6_move_73 : decode cX6_move 73 = .ok (.iload_n 2, 1) := by decide +kernel
theorem dX6_move_74 : decode cX6_move 74 = .ok (.iastore, 1) := by decide +kernel
theorem dX6_move_75 : decode cX6_move 75 = .ok (.iload_n 3, 1) := by decide +kernel
theorem dX6_move_76 : decode cX6_move 76 = .ok (.ireturn, 1) := by decide +kernel
theorem dX6_catchIt_0 : decode cX6_catchIt 0 = .ok (.aload_n 0, 1) := by decide +kernel
theorem dX6_catchIt_1 : decode cX6_catchIt 1 = .ok (.getfield 26, 3) := by decide +kernel
theorem dX6_catchIt_4 : decode cX6_catchIt 4 = .ok (.iload_n 1, 1) := by decide +kernel
theorem dX6_catchIt_5 : decode cX6_catchIt 5 = .ok (.invokevirtual 184, 3) := by decide +kernel
theorem dX6_catchIt_8 : decode cX6_catchIt 8 = .ok (.ifCond .ne 6, 3) := by decide +kernel
theorem dX6_catchIt_11 : decode cX6_catchIt 11 = .ok (.ldc 71, 2) := by decide +kernel
theorem dX6_catchIt_13 : decode cX6_catchIt 13 = .ok (.ireturn, 1) := by decide +kernel
theorem dX6_catchIt_14 : decode cX6_catchIt 14 = .ok (.aload_n 0, 1) := by decide +kernel
theorem dX6_catchIt_15 : decode cX6_catchIt 15 = .ok (.getfield 26, 3) := by decide +kernel
theorem dX6_catchIt_18 : decode cX6_catchIt 18 = .ok (.iload_n 1, 1) := by decide +kernel
theorem dX6_catchIt_19 : decode cX6_catchIt 19 = .ok (.invokevirtual 193, 3) := by decide +kernel
theorem dX6_catchIt_22 : decode cX6_catchIt 22 = .ok (.ifCond .eq 6, 3) := by decide +kernel
theorem dX6_catchIt_25 : decode cX6_catchIt 25 = .ok (.ldc 137, 2) := by decide +kernel
theorem dX6_catchIt_27 : decode cX6_catchIt 27 = .ok (.ireturn, 1) := by decide +kernel
theorem dX6_catchIt_28 : decode cX6_catchIt 28 = .ok (.aload_n 0, 1) := by decide +kernel
theorem dX6_catchIt_29 : decode cX6_catchIt 29 = .ok (.getfield 42, 3) := by decide +kernel
theorem dX6_catchIt_32 : decode cX6_catchIt 32 = .ok (.aload_n 0, 1) := by decide +kernel
theorem dX6_catchIt_33 : decode cX6_catchIt 33 = .ok (.getfield 26, 3) := by decide +kernel
theorem dX6_catchIt_36 : decode cX6_catchIt 36 = .ok (.invokevirtual 148, 3) := by decide +kernel
theorem dX6_catchIt_39 : decode cX6_catchIt 39 = .ok (.aload_n 0, 1) := by decide +kernel
theorem dX6_catchIt_40 : decode cX6_catchIt 40 = .ok (.getfield 26, 3) := by decide +kernel
theorem dX6_catchIt_43 : decode cX6_catchIt 43 = .ok (.dup, 1) := by decide +kernel
theorem dX6_catchIt_44 : decode cX6_catchIt 44 = .ok (.getfield 196, 3) := by decide +kernel
theorem dX6_catchIt_47 : decode cX6_catchIt 47 = .ok (.iconst 1, 1) := by decide +kernel
theorem dX6_catchIt_48 : decode cX6_catchIt 48 = .ok (.iload_n 1, 1) := by decide +kernel
theorem dX6_catchIt_49 : decode cX6_catchIt 49 = .ok (.ishl, 1) := by decide +kernel
theorem dX6_catchIt_50 : decode cX6_catchIt 50 = .ok (.ior, 1) := by decide +kernel
theorem dX6_catchIt_51 : decode cX6_catchIt 51 = .ok (.putfield 196, 3) := by decide +kernel
theorem dX6_catchIt_54 : decode cX6_catchIt 54 = .ok (.aload_n 0, 1) := by decide +kernel
theorem dX6_catchIt_55 : decode cX6_catchIt 55 = .ok (.getfield 26, 3) := by decide +kernel
theorem dX6_catchIt_58 : decode cX6_catchIt 58 = .ok (.getfield 196, 3) := by decide +kernel
theorem dX6_catchIt_61 : decode cX6_catchIt 61 = .ok (.ireturn, 1) := by decide +kernel
theorem dX6_book_0 : decode cX6_book 0 = .ok (.aload_n 0, 1) := by decide +kernel
theorem dX6_book_1 : decode cX6_book 1 = .ok (.getfield 26, 3) := by decide +kernel
theorem dX6_book_4 : decode cX6_book 4 = .ok (.iload_n 1, 1) := by decide +kernel
theorem dX6_book_5 : decode cX6_book 5 = .ok (.invokevirtual 158, 3) := by decide +kernel
theorem dX6_book_8 : decode cX6_book 8 = .ok (.ifCond .ne 6, 3) := by decide +kernel
theorem dX6_book_11 : decode cX6_book 11 = .ok (.ldc 71, 2) := by decide +kernel
theorem dX6_book_13 : decode cX6_book 13 = .ok (.ireturn, 1) := by decide +kernel
theorem dX6_book_14 : decode cX6_book 14 = .ok (.iload_n 2, 1) := by decide +kernel
theorem dX6_book_15 : decode cX6_book 15 = .ok (.tableswitch 108 0 5 #[37, 47, 57, 67, 79, 91], 37) := by decide +kernel
theorem dX6_book_52 : decode cX6_book 52 = .ok (.aload_n 0, 1) := by decide +kernel
theorem dX6_book_53 : decode cX6_book 53 = .ok (.getfield 26, 3) := by decide +kernel
theorem dX6_book_56 : decode cX6_book 56 = .ok (.getfield 199, 3) := by decide +kernel
theorem dX6_book_59 : decode cX6_book 59 = .ok (.iload_n 1, 1) := by decide +kernel
theorem dX6_book_60 : decode cX6_book 60 = .ok (.iaload, 1) := by decide +kernel
theorem dX6_book_61 : decode cX6_book 61 = .ok (.ireturn, 1) := by decide +kernel
theorem dX6_book_62 : decode cX6_book 62 = .ok (.aload_n 0, 1) := by decide +kernel
theorem dX6_book_63 : decode cX6_book 63 = .ok (.getfield 26, 3) := by decide +kernel
theorem dX6_book_66 : decode cX6_book 66 = .ok (.getfield 202, 3) := by decide +kernel
theorem dX6_book_69 : decode cX6_book 69 = .ok (.iload_n 1, 1) := by decide +kernel
theorem dX6_book_70 : decode cX6_book 70 = .ok (.iaload, 1) := by decide +kernel
theorem dX6_book_71 : decode cX6_book 71 = .ok (.ireturn, 1) := by decide +kernel
theorem dX6_book_72 : decode cX6_book 72 = .ok (.aload_n 0, 1) := by decide +kernel
theorem dX6_book_73 : decode cX6_book 73 = .ok (.getfield 26, 3) := by decide +kernel
theorem dX6_book_76 : decode cX6_book 76 = .ok (.getfield 177, 3) := by decide +kernel
theorem dX6_book_79 : decode cX6_book 79 = .ok (.iload_n 1, 1) := by decide +kernel
theorem dX6_book_80 : decode cX6_book 80 = .ok (.iaload, 1) := by decide +kernel
theorem dX6_book_81 : decode cX6_book 81 = .ok (.ireturn, 1) := by decide +kernel
theorem dX6_book_82 : decode cX6_book 82 = .ok (.aload_n 0, 1) := by decide +kernel
theorem dX6_book_83 : decode cX6_book 83 = .ok (.getfield 26, 3) := by decide +kernel
theorem dX6_book_86 : decode cX6_book 86 = .ok (.getfield 161, 3) := by decide +kernel
theorem dX6_book_89 : decode cX6_book 89 = .ok (.iload_n 1, 1) := by decide +kernel
theorem dX6_book_90 : decode cX6_book 90 = .ok (.invokestatic 164, 3) := by decide +kernel
theorem dX6_book_93 : decode cX6_book 93 = .ok (.ireturn, 1) := by decide +kernel
theorem dX6_book_94 : decode cX6_book 94 = .ok (.aload_n 0, 1) := by decide +kernel
theorem dX6_book_95 : decode cX6_book 95 = .ok (.getfield 26, 3) := by decide +kernel
theorem dX6_book_98 : decode cX6_book 98 = .ok (.getfield 176, 3) := by decide +kernel
theorem dX6_book_101 : decode cX6_book 101 = .ok (.iload_n 1, 1) := by decide +kernel
theorem dX6_book_102 : decode cX6_book 102 = .ok (.invokestatic 164, 3) := by decide +kernel
theorem dX6_book_105 : decode cX6_book 105 = .ok (.ireturn, 1) := by decide +kernel
theorem dX6_book_106 : decode cX6_book 106 = .ok (.aload_n 0, 1) := by decide +kernel
theorem dX6_book_107 : decode cX6_book 107 = .ok (.getfield 26, 3) := by decide +kernel
theorem dX6_book_110 : decode cX6_book 110 = .ok (.aload_n 0, 1) := by decide +kernel
theorem dX6_book_111 : decode cX6_book 111 = .ok (.getfield 26, 3) := by decide +kernel
theorem dX6_book_114 : decode cX6_book 114 = .ok (.getfield 177, 3) := by decide +kernel
theorem dX6_book_117 : decode cX6_book 117 = .ok (.iload_n 1, 1) := by decide +kernel
theorem dX6_book_118 : decode cX6_book 118 = .ok (.iaload, 1) := by decide +kernel
theorem dX6_book_119 : decode cX6_book 119 = .ok (.invokevirtual 205, 3) := by decide +kernel
theorem dX6_book_122 : decode cX6_book 122 = .ok (.ireturn, 1) := by decide +kernel
theorem dX6_book_123 : decode cX6_book 123 = .ok (.ldc 71, 2) := by decide +kernel
theorem dX6_book_125 : decode cX6_book 125 = .ok (.ireturn, 1) := by decide +kernel
theorem dX6_fish_0 : decode cX6_fish 0 = .ok (.aload_n 0, 1) := by decide +kernel
theorem dX6_fish_1 : decode cX6_fish 1 = .ok (.getfield 26, 3) := by decide +kernel
theorem dX6_fish_4 : decode cX6_fish 4 = .ok (.iload_n 1, 1) := by decide +kernel
theorem dX6_fish_5 : decode cX6_fish 5 = .ok (.invokevirtual 184, 3) := by decide +kernel
theorem dX6_fish_8 : decode cX6_fish 8 = .ok (.ifCond .ne 6, 3) := by decide +kernel
theorem dX6_fish_11 : decode cX6_fish 11 = .ok (.ldc 71, 2) := by decide +kernel
theorem dX6_fish_13 : decode cX6_fish 13 = .ok (.ireturn, 1) := by decide +kernel
theorem dX6_fish_14 : decode cX6_fish 14 = .ok (.aload_n 0, 1) := by decide +kernel
theorem dX6_fish_15 : decode cX6_fish 15 = .ok (.getfield 26, 3) := by decide +kernel
theorem dX6_fish_18 : decode cX6_fish 18 = .ok (.iload_n 1, 1) := by decide +kernel
theorem dX6_fish_19 : decode cX6_fish 19 = .ok (.invokevirtual 193, 3) := by decide +kernel
theorem dX6_fish_22 : decode cX6_fish 22 = .ok (.istore_n 3, 1) := by decide +kernel
theorem dX6_fish_23 : decode cX6_fish 23 = .ok (.iload_n 2, 1) := by decide +kernel
theorem dX6_fish_24 : decode cX6_fish 24 = .ok (.tableswitch 105 0 3 #[32, 51, 61, 79], 32) := by decide +kernel
theorem dX6_fish_56 : decode cX6_fish 56 = .ok (.iload_n 3, 1) := by decide +kernel
theorem dX6_fish_57 : decode cX6_fish 57 = .ok (.ifCond .eq 8, 3) := by decide +kernel
theorem dX6_fish_60 : decode cX6_fish 60 = .ok (.ldc 119, 2) := by decide +kernel
theorem dX6_fish_62 : decode cX6_fish 62 = .ok (.goto 12, 3) := by decide +kernel
theorem dX6_fish_65 : decode cX6_fish 65 = .ok (.aload_n 0, 1) := by decide +kernel
theorem dX6_fish_66 : decode cX6_fish 66 = .ok (.getfield 26, 3) := by decide +kernel
theorem dX6_fish_69 : decode cX6_fish 69 = .ok (.getfield 190, 3) := by decide +kernel
theorem dX6_fish_72 : decode cX6_fish 72 = .ok (.iload_n 1, 1) := by decide +kernel
theorem dX6_fish_73 : decode cX6_fish 73 = .ok (.iaload, 1) := by decide +kernel
theorem dX6_fish_74 : decode cX6_fish 74 = .ok (.ireturn, 1) := by decide +kernel
theorem dX6_fish_75 : decode cX6_fish 75 = .ok (.aload_n 0, 1) := by decide +kernel
theorem dX6_fish_76 : decode cX6_fish 76 = .ok (.getfield 26, 3) := by decide +kernel
theorem dX6_fish_79 : decode cX6_fish 79 = .ok (.getfield 208, 3) := by decide +kernel
theorem dX6_fish_82 : decode cX6_fish 82 = .ok (.iload_n 1, 1) := by decide +kernel
theorem dX6_fish_83 : decode cX6_fish 83 = .ok (.iaload, 1) := by decide +kernel
theorem dX6_fish_84 : decode cX6_fish 84 = .ok (.ireturn, 1) := by decide +kernel
theorem dX6_fish_85 : decode cX6_fish 85 = .ok (.iload_n 3, 1) := by decide +kernel
theorem dX6_fish_86 : decode cX6_fish 86 = .ok (.ifCond .eq 8, 3) := by decide +kernel
theorem dX6_fish_89 : decode cX6_fish 89 = .ok (.ldc 119, 2) := by decide +kernel
theorem dX6_fish_91 : decode cX6_fish 91 = .ok (.goto 11, 3) := by decide +kernel
theorem dX6_fish_94 : decode cX6_fish 94 = .ok (.aload_n 0, 1) := by decide +kernel
theorem dX6_fish_95 : decode cX6_fish 95 = .ok (.getfield 26, 3) := by decide +kernel
theorem dX6_fish_98 : decode cX6_fish 98 = .ok (.iload_n 1, 1) := by decide +kernel
theorem dX6_fish_99 : decode cX6_fish 99 = .ok (.invokevirtual 211, 3) := by decide +kernel
theorem dX6_fish_102 : decode cX6_fish 102 = .ok (.ireturn, 1) := by decide +kernel
theorem dX6_fish_103 : decode cX6_fish 103 = .ok (.iload_n 3, 1) := by decide +kernel
theorem dX6_fish_104 : decode cX6_fish 104 = .ok (.ifCond .eq 8, 3) := by decide +kernel
theorem dX6_fish_107 : decode cX6_fish 107 = .ok (.ldc 119, 2) := by decide +kernel
theorem dX6_fish_109 : decode cX6_fish 109 = .ok (.goto 19, 3) := by decide +kernel
theorem dX6_fish_112 : decode cX6_fish 112 = .ok (.aload_n 0, 1) := by decide +kernel
theorem dX6_fish_113 : decode cX6_fish 113 = .ok (.getfield 26, 3) := by decide +kernel
theorem dX6_fish_116 : decode cX6_fish 116 = .ok (.aload_n 0, 1) := by decide +kernel
theorem dX6_fish_117 : decode cX6_fish 117 = .ok (.getfield 26, 3) := by decide +kernel
theorem dX6_fish_120 : decode cX6_fish 120 = .ok (.getfield 190, 3) := by decide +kernel
theorem dX6_fish_123 : decode cX6_fish 123 = .ok (.iload_n 1, 1) := by decide +kernel
theorem dX6_fish_124 : decode cX6_fish 124 = .ok (.iaload, 1) := by decide +kernel
theorem dX6_fish_125 : decode cX6_fish 125 = .ok (.invokevirtual 214, 3) := by decide +kernel
theorem dX6_fish_128 : decode cX6_fish 128 = .ok (.ireturn, 1) := by decide +kernel
theorem dX6_fish_129 : decode cX6_fish 129 = .ok (.ldc 71, 2) := by decide +kernel
theorem dX6_fish_131 : decode cX6_fish 131 = .ok (.ireturn, 1) := by decide +kernel
theorem dX6_stand_0 : decode cX6_stand 0 = .ok (.aload_n 0, 1) := by decide +kernel
theorem dX6_stand_1 : decode cX6_stand 1 = .ok (.getfield 26, 3) := by decide +kernel
theorem dX6_stand_4 : decode cX6_stand 4 = .ok (.invokevirtual 141, 3) := by decide +kernel
theorem dX6_stand_7 : decode cX6_stand 7 = .ok (.ifCond .ne 6, 3) := by decide +kernel
theorem dX6_stand_10 : decode cX6_stand 10 = .ok (.ldc 137, 2) := by decide +kernel
theorem dX6_stand_12 : decode cX6_stand 12 = .ok (.ireturn, 1) := by decide +kernel
theorem dX6_stand_13 : decode cX6_stand 13 = .ok (.iload_n 1, 1) := by decide +kernel
theorem dX6_stand_14 : decode cX6_stand 14 = .ok (.tableswitch 86 0 5 #[38, 46, 54, 62, 70, 78], 38) := by decide +kernel
theorem dX6_stand_52 : decode cX6_stand 52 = .ok (.aload_n 0, 1) := by decide +kernel
theorem dX6_stand_53 : decode cX6_stand 53 = .ok (.getfield 26, 3) := by decide +kernel
theorem dX6_stand_56 : decode cX6_stand 56 = .ok (.getfield 161, 3) := by decide +kernel
theorem dX6_stand_59 : decode cX6_stand 59 = .ok (.ireturn, 1) := by decide +kernel
theorem dX6_stand_60 : decode cX6_stand 60 = .ok (.aload_n 0, 1) := by decide +kernel
theorem dX6_stand_61 : decode cX6_stand 61 = .ok (.getfield 26, 3) := by decide +kernel
theorem dX6_stand_64 : decode cX6_stand 64 = .ok (.getfield 176, 3) := by decide +kernel
theorem dX6_stand_67 : decode cX6_stand 67 = .ok (.ireturn, 1) := by decide +kernel
theorem dX6_stand_68 : decode cX6_stand 68 = .ok (.aload_n 0, 1) := by decide +kernel
theorem dX6_stand_69 : decode cX6_stand 69 = .ok (.getfield 26, 3) := by decide +kernel
theorem dX6_stand_72 : decode cX6_stand 72 = .ok (.getfield 196, 3) := by decide +kernel
theorem dX6_stand_75 : decode cX6_stand 75 = .ok (.ireturn, 1) := by decide +kernel
theorem dX6_stand_76 : decode cX6_stand 76 = .ok (.aload_n 0, 1) := by decide +kernel
theorem dX6_stand_77 : decode cX6_stand 77 = .ok (.getfield 26, 3) := by decide +kernel
theorem dX6_stand_80 : decode cX6_stand 80 = .ok (.invokevirtual 154, 3) := by decide +kernel
theorem dX6_stand_83 : decode cX6_stand 83 = .ok (.ireturn, 1) := by decide +kernel
theorem dX6_stand_84 : decode cX6_stand 84 = .ok (.aload_n 0, 1) := by decide +kernel
theorem dX6_stand_85 : decode cX6_stand 85 = .ok (.getfield 26, 3) := by decide +kernel
theorem dX6_stand_88 : decode cX6_stand 88 = .ok (.getfield 217, 3) := by decide +kernel
theorem dX6_stand_91 : decode cX6_stand 91 = .ok (.ireturn, 1) := by decide +kernel
theorem dX6_stand_92 : decode cX6_stand 92 = .ok (.aload_n 0, 1) := by decide +kernel
theorem dX6_stand_93 : decode cX6_stand 93 = .ok (.getfield 26, 3) := by decide +kernel
theorem dX6_stand_96 : decode cX6_stand 96 = .ok (.getfield 173, 3) := by decide +kernel
theorem dX6_stand_99 : decode cX6_stand 99 = .ok (.ireturn, 1) := by decide +kernel
theorem dX6_stand_100 : decode cX6_stand 100 = .ok (.ldc 71, 2) := by decide +kernel
theorem dX6_stand_102 : decode cX6_stand 102 = .ok (.ireturn, 1) := by decide +kernel
theorem dX6_ahead_0 : decode cX6_ahead 0 = .ok (.aload_n 0, 1) := by decide +kernel
theorem dX6_ahead_1 : decode cX6_ahead 1 = .ok (.getfield 26, 3) := by decide +kernel
theorem dX6_ahead_4 : decode cX6_ahead 4 = .ok (.iload_n 1, 1) := by decide +kernel
theorem dX6_ahead_5 : decode cX6_ahead 5 = .ok (.invokevirtual 158, 3) := by decide +kernel
theorem dX6_ahead_8 : decode cX6_ahead 8 = .ok (.ifCond .eq 22, 3) := by decide +kernel
theorem dX6_ahead_11 : decode cX6_ahead 11 = .ok (.iload_n 2, 1) := by decide +kernel
theorem dX6_ahead_12 : decode cX6_ahead 12 = .ok (.iconst 0, 1) := by decide +kernel
theorem dX6_ahead_13 : decode cX6_ahead 13 = .ok (.bipush 60, 2) := by decide +kernel
theorem dX6_ahead_15 : decode cX6_ahead 15 = .ok (.invokestatic 104, 3) := by decide +kernel
theorem dX6_ahead_18 : decode cX6_ahead 18 = .ok (.ifCond .eq 12, 3) := by decide +kernel
theorem dX6_ahead_21 : decode cX6_ahead 21 = .ok (.iload_n 3, 1) := by decide +kernel
theorem dX6_ahead_22 : decode cX6_ahead 22 = .ok (.iconst 0, 1) := by decide +kernel
theorem dX6_ahead_23 : decode cX6_ahead 23 = .ok (.iconst 1, 1) := by decide +kernel
theorem dX6_ahead_24 : decode cX6_ahead 24 = .ok (.invokestatic 104, 3) := by decide +kernel
theorem dX6_ahead_27 : decode cX6_ahead 27 = .ok (.ifCond .ne 6, 3) := by decide +kernel
theorem dX6_ahead_30 : decode cX6_ahead 30 = .ok (.ldc 71, 2) := by decide +kernel
theorem dX6_ahead_32 : decode cX6_ahead 32 = .ok (.ireturn, 1) := by decide +kernel
theorem dX6_ahead_33 : decode cX6_ahead 33 = .ok (.aload_n 0, 1) := by decide +kernel
theorem dX6_ahead_34 : decode cX6_ahead 34 = .ok (.getfield 49, 3) := by decide +kernel
theorem dX6_ahead_37 : decode cX6_ahead 37 = .ok (.aload_n 0, 1) := by decide +kernel
theorem dX6_ahead_38 : decode cX6_ahead 38 = .ok (.getfield 26, 3) := by decide +kernel
theorem dX6_ahead_41 : decode cX6_ahead 41 = .ok (.iload_n 2, 1) := by decide +kernel
theorem dX6_ahead_42 : decode cX6_ahead 42 = .ok (.invokevirtual 220, 3) := by decide +kernel
theorem dX6_ahead_45 : decode cX6_ahead 45 = .ok (.astore 4, 2) := by decide +kernel
theorem dX6_ahead_47 : decode cX6_ahead 47 = .ok (.iload_n 3, 1) := by decide +kernel
theorem dX6_ahead_48 : decode cX6_ahead 48 = .ok (.ifCond .ne 13, 3) := by decide +kernel
theorem dX6_ahead_51 : decode cX6_ahead 51 = .ok (.aload 4, 2) := by decide +kernel
theorem dX6_ahead_53 : decode cX6_ahead 53 = .ok (.getfield 199, 3) := by decide +kernel
theorem dX6_ahead_56 : decode cX6_ahead 56 = .ok (.iload_n 1, 1) := by decide +kernel
theorem dX6_ahead_57 : decode cX6_ahead 57 = .ok (.iaload, 1) := by decide +kernel
theorem dX6_ahead_58 : decode cX6_ahead 58 = .ok (.goto 10, 3) := by decide +kernel
theorem dX6_ahead_61 : decode cX6_ahead 61 = .ok (.aload 4, 2) := by decide +kernel
theorem dX6_ahead_63 : decode cX6_ahead 63 = .ok (.getfield 202, 3) := by decide +kernel
theorem dX6_ahead_66 : decode cX6_ahead 66 = .ok (.iload_n 1, 1) := by decide +kernel
theorem dX6_ahead_67 : decode cX6_ahead 67 = .ok (.iaload, 1) := by decide +kernel
theorem dX6_ahead_68 : decode cX6_ahead 68 = .ok (.ireturn, 1) := by decide +kernel
theorem dX6_later_0 : decode cX6_later 0 = .ok (.aload_n 0, 1) := by decide +kernel
theorem dX6_later_1 : decode cX6_later 1 = .ok (.getfield 26, 3) := by decide +kernel
theorem dX6_later_4 : decode cX6_later 4 = .ok (.iload_n 1, 1) := by decide +kernel
theorem dX6_later_5 : decode cX6_later 5 = .ok (.invokevirtual 184, 3) := by decide +kernel
theorem dX6_later_8 : decode cX6_later 8 = .ok (.ifCond .eq 22, 3) := by decide +kernel
theorem dX6_later_11 : decode cX6_later 11 = .ok (.iload_n 2, 1) := by decide +kernel
theorem dX6_later_12 : decode cX6_later 12 = .ok (.iconst 0, 1) := by decide +kernel
theorem dX6_later_13 : decode cX6_later 13 = .ok (.bipush 60, 2) := by decide +kernel
theorem dX6_later_15 : decode cX6_later 15 = .ok (.invokestatic 104, 3) := by decide +kernel
theorem dX6_later_18 : decode cX6_later 18 = .ok (.ifCond .eq 12, 3) := by decide +kernel
theorem dX6_later_21 : decode cX6_later 21 = .ok (.iload_n 3, 1) := by decide +kernel
theorem dX6_later_22 : decode cX6_later 22 = .ok (.iconst 0, 1) := by decide +kernel
theorem dX6_later_23 : decode cX6_later 23 = .ok (.iconst 1, 1) := by decide +kernel
theorem dX6_later_24 : decode cX6_later 24 = .ok (.invokestatic 104, 3) := by decide +kernel
theorem dX6_later_27 : decode cX6_later 27 = .ok (.ifCond .ne 6, 3) := by decide +kernel
theorem dX6_later_30 : decode cX6_later 30 = .ok (.ldc 71, 2) := by decide +kernel
theorem dX6_later_32 : decode cX6_later 32 = .ok (.ireturn, 1) := by decide +kernel
theorem dX6_later_33 : decode cX6_later 33 = .ok (.aload_n 0, 1) := by decide +kernel
theorem dX6_later_34 : decode cX6_later 34 = .ok (.getfield 49, 3) := by decide +kernel
theorem dX6_later_37 : decode cX6_later 37 = .ok (.aload_n 0, 1) := by decide +kernel
theorem dX6_later_38 : decode cX6_later 38 = .ok (.getfield 26, 3) := by decide +kernel
theorem dX6_later_41 : decode cX6_later 41 = .ok (.iload_n 2, 1) := by decide +kernel
theorem dX6_later_42 : decode cX6_later 42 = .ok (.invokevirtual 220, 3) := by decide +kernel
theorem dX6_later_45 : decode cX6_later 45 = .ok (.astore 4, 2) := by decide +kernel
theorem dX6_later_47 : decode cX6_later 47 = .ok (.iload_n 3, 1) := by decide +kernel
theorem dX6_later_48 : decode cX6_later 48 = .ok (.iconst 1, 1) := by decide +kernel
theorem dX6_later_49 : decode cX6_later 49 = .ok (.if_icmp .ne 11, 3) := by decide +kernel
theorem dX6_later_52 : decode cX6_later 52 = .ok (.aload 4, 2) := by decide +kernel
theorem dX6_later_54 : decode cX6_later 54 = .ok (.getfield 208, 3) := by decide +kernel
theorem dX6_later_57 : decode cX6_later 57 = .ok (.iload_n 1, 1) := by decide +kernel
theorem dX6_later_58 : decode cX6_later 58 = .ok (.iaload, 1) := by decide +kernel
theorem dX6_later_59 : decode cX6_later 59 = .ok (.ireturn, 1) := by decide +kernel
theorem dX6_later_60 : decode cX6_later 60 = .ok (.aload 4, 2) := by decide +kernel
theorem dX6_later_62 : decode cX6_later 62 = .ok (.iload_n 1, 1) := by decide +kernel
theorem dX6_later_63 : decode cX6_later 63 = .ok (.invokevirtual 193, 3) := by decide +kernel
theorem dX6_later_66 : decode cX6_later 66 = .ok (.ifCond .eq 8, 3) := by decide +kernel
theorem dX6_later_69 : decode cX6_later 69 = .ok (.ldc 119, 2) := by decide +kernel
theorem dX6_later_71 : decode cX6_later 71 = .ok (.goto 10, 3) := by decide +kernel
theorem dX6_later_74 : decode cX6_later 74 = .ok (.aload 4, 2) := by decide +kernel
theorem dX6_later_76 : decode cX6_later 76 = .ok (.getfield 190, 3) := by decide +kernel
theorem dX6_later_79 : decode cX6_later 79 = .ok (.iload_n 1, 1) := by decide +kernel
theorem dX6_later_80 : decode cX6_later 80 = .ok (.iaload, 1) := by decide +kernel
theorem dX6_later_81 : decode cX6_later 81 = .ok (.ireturn, 1) := by decide +kernel
theorem dX6_when_0 : decode cX6_when 0 = .ok (.aload_n 0, 1) := by decide +kernel
theorem dX6_when_1 : decode cX6_when 1 = .ok (.getfield 26, 3) := by decide +kernel
theorem dX6_when_4 : decode cX6_when 4 = .ok (.iload_n 1, 1) := by decide +kernel
theorem dX6_when_5 : decode cX6_when 5 = .ok (.invokevirtual 158, 3) := by decide +kernel
theorem dX6_when_8 : decode cX6_when 8 = .ok (.ifCond .ne 6, 3) := by decide +kernel
theorem dX6_when_11 : decode cX6_when 11 = .ok (.ldc 71, 2) := by decide +kernel
theorem dX6_when_13 : decode cX6_when 13 = .ok (.ireturn, 1) := by decide +kernel
theorem dX6_when_14 : decode cX6_when 14 = .ok (.aload_n 0, 1) := by decide +kernel
theorem dX6_when_15 : decode cX6_when 15 = .ok (.getfield 49, 3) := by decide +kernel
theorem dX6_when_18 : decode cX6_when 18 = .ok (.aload_n 0, 1) := by decide +kernel
theorem dX6_when_19 : decode cX6_when 19 = .ok (.getfield 26, 3) := by decide +kernel
theorem dX6_when_22 : decode cX6_when 22 = .ok (.iconst 1, 1) := by decide +kernel
theorem dX6_when_23 : decode cX6_when 23 = .ok (.iload_n 1, 1) := by decide +kernel
theorem dX6_when_24 : decode cX6_when 24 = .ok (.ishl, 1) := by decide +kernel
theorem dX6_when_25 : decode cX6_when 25 = .ok (.invokevirtual 224, 3) := by decide +kernel
theorem dX6_when_28 : decode cX6_when 28 = .ok (.ireturn, 1) := by decide +kernel
theorem dX6_first_0 : decode cX6_first 0 = .ok (.aload_n 0, 1) := by decide +kernel
theorem dX6_first_1 : decode cX6_first 1 = .ok (.getfield 26, 3) := by decide +kernel
theorem dX6_first_4 : decode cX6_first 4 = .ok (.invokevirtual 141, 3) := by decide +kernel
theorem dX6_first_7 : decode cX6_first 7 = .ok (.ifCond .ne 6, 3) := by decide +kernel
theorem dX6_first_10 : decode cX6_first 10 = .ok (.ldc 137, 2) := by decide +kernel
theorem dX6_first_12 : decode cX6_first 12 = .ok (.ireturn, 1) := by decide +kernel
theorem dX6_first_13 : decode cX6_first 13 = .ok (.iload_n 1, 1) := by decide +kernel
theorem dX6_first_14 : decode cX6_first 14 = .ok (.iconst 0, 1) := by decide +kernel
theorem dX6_first_15 : decode cX6_first 15 = .ok (.iconst 1, 1) := by decide +kernel
theorem dX6_first_16 : decode cX6_first 16 = .ok (.invokestatic 104, 3) := by decide +kernel
theorem dX6_first_19 : decode cX6_first 19 = .ok (.ifCond .ne 6, 3) := by decide +kernel
theorem dX6_first_22 : decode cX6_first 22 = .ok (.ldc 71, 2) := by decide +kernel
theorem dX6_first_24 : decode cX6_first 24 = .ok (.ireturn, 1) := by decide +kernel
theorem dX6_first_25 : decode cX6_first 25 = .ok (.aload_n 0, 1) := by decide +kernel
theorem dX6_first_26 : decode cX6_first 26 = .ok (.getfield 26, 3) := by decide +kernel
theorem dX6_first_29 : decode cX6_first 29 = .ok (.invokevirtual 228, 3) := by decide +kernel
theorem dX6_first_32 : decode cX6_first 32 = .ok (.istore_n 2, 1) := by decide +kernel
theorem dX6_first_33 : decode cX6_first 33 = .ok (.aload_n 0, 1) := by decide +kernel
theorem dX6_first_34 : decode cX6_first 34 = .ok (.getfield 49, 3) := by decide +kernel
theorem dX6_first_37 : decode cX6_first 37 = .ok (.aload_n 0, 1) := by decide +kernel
theorem dX6_first_38 : decode cX6_first 38 = .ok (.getfield 26, 3) := by decide +kernel
theorem dX6_first_41 : decode cX6_first 41 = .ok (.iload_n 2, 1) := by decide +kernel
theorem dX6_first_42 : decode cX6_first 42 = .ok (.invokevirtual 224, 3) := by decide +kernel
theorem dX6_first_45 : decode cX6_first 45 = .ok (.istore_n 3, 1) := by decide +kernel
theorem dX6_first_46 : decode cX6_first 46 = .ok (.iload_n 1, 1) := by decide +kernel
theorem dX6_first_47 : decode cX6_first 47 = .ok (.iconst 1, 1) := by decide +kernel
theorem dX6_first_48 : decode cX6_first 48 = .ok (.if_icmp .eq 9, 3) := by decide +kernel
theorem dX6_first_51 : decode cX6_first 51 = .ok (.iload_n 3, 1) := by decide +kernel
theorem dX6_first_52 : decode cX6_first 52 = .ok (.ldc 119, 2) := by decide +kernel
theorem dX6_first_54 : decode cX6_first 54 = .ok (.if_icmp .ne 7, 3) := by decide +kernel
theorem dX6_first_57 : decode cX6_first 57 = .ok (.iload_n 3, 1) := by decide +kernel
theorem dX6_first_58 : decode cX6_first 58 = .ok (.goto 11, 3) := by decide +kernel
theorem dX6_first_61 : decode cX6_first 61 = .ok (.aload_n 0, 1) := by decide +kernel
theorem dX6_first_62 : decode cX6_first 62 = .ok (.getfield 49, 3) := by decide +kernel
theorem dX6_first_65 : decode cX6_first 65 = .ok (.iload_n 2, 1) := by decide +kernel
theorem dX6_first_66 : decode cX6_first 66 = .ok (.invokevirtual 231, 3) := by decide +kernel
theorem dX6_first_69 : decode cX6_first 69 = .ok (.ireturn, 1) := by decide +kernel
theorem dX6_hole_0 : decode cX6_hole 0 = .ok (.aload_n 0, 1) := by decide +kernel
theorem dX6_hole_1 : decode cX6_hole 1 = .ok (.getfield 26, 3) := by decide +kernel
theorem dX6_hole_4 : decode cX6_hole 4 = .ok (.iload_n 1, 1) := by decide +kernel
theorem dX6_hole_5 : decode cX6_hole 5 = .ok (.invokevirtual 184, 3) := by decide +kernel
theorem dX6_hole_8 : decode cX6_hole 8 = .ok (.ifCond .eq 13, 3) := by decide +kernel
theorem dX6_hole_11 : decode cX6_hole 11 = .ok (.iload_n 2, 1) := by decide +kernel
theorem dX6_hole_12 : decode cX6_hole 12 = .ok (.iconst 0, 1) := by decide +kernel
theorem dX6_hole_13 : decode cX6_hole 13 = .ok (.bipush 60, 2) := by decide +kernel
theorem dX6_hole_15 : decode cX6_hole 15 = .ok (.invokestatic 104, 3) := by decide +kernel
theorem dX6_hole_18 : decode cX6_hole 18 = .ok (.ifCond .ne 6, 3) := by decide +kernel
theorem dX6_hole_21 : decode cX6_hole 21 = .ok (.ldc 71, 2) := by decide +kernel
theorem dX6_hole_23 : decode cX6_hole 23 = .ok (.ireturn, 1) := by decide +kernel
theorem dX6_hole_24 : decode cX6_hole 24 = .ok (.aload_n 0, 1) := by decide +kernel
theorem dX6_hole_25 : decode cX6_hole 25 = .ok (.getfield 49, 3) := by decide +kernel
theorem dX6_hole_28 : decode cX6_hole 28 = .ok (.aload_n 0, 1) := by decide +kernel
theorem dX6_hole_29 : decode cX6_hole 29 = .ok (.getfield 26, 3) := by decide +kernel
theorem dX6_hole_32 : decode cX6_hole 32 = .ok (.iload_n 2, 1) := by decide +kernel
theorem dX6_hole_33 : decode cX6_hole 33 = .ok (.invokevirtual 220, 3) := by decide +kernel
theorem dX6_hole_36 : decode cX6_hole 36 = .ok (.getfield 234, 3) := by decide +kernel
theorem dX6_hole_39 : decode cX6_hole 39 = .ok (.iload_n 1, 1) := by decide +kernel
theorem dX6_hole_40 : decode cX6_hole 40 = .ok (.iaload, 1) := by decide +kernel
theorem dX6_hole_41 : decode cX6_hole 41 = .ok (.ireturn, 1) := by decide +kernel
theorem dX6_order_0 : decode cX6_order 0 = .ok (.aload_n 0, 1) := by decide +kernel
theorem dX6_order_1 : decode cX6_order 1 = .ok (.getfield 26, 3) := by decide +kernel
theorem dX6_order_4 : decode cX6_order 4 = .ok (.invokevirtual 141, 3) := by decide +kernel
theorem dX6_order_7 : decode cX6_order 7 = .ok (.ifCond .ne 6, 3) := by decide +kernel
theorem dX6_order_10 : decode cX6_order 10 = .ok (.ldc 137, 2) := by decide +kernel
theorem dX6_order_12 : decode cX6_order 12 = .ok (.ireturn, 1) := by decide +kernel
theorem dX6_order_13 : decode cX6_order 13 = .ok (.iload_n 1, 1) := by decide +kernel
theorem dX6_order_14 : decode cX6_order 14 = .ok (.iconst 0, 1) := by decide +kernel
theorem dX6_order_15 : decode cX6_order 15 = .ok (.aload_n 0, 1) := by decide +kernel
theorem dX6_order_16 : decode cX6_order 16 = .ok (.getfield 26, 3) := by decide +kernel
theorem dX6_order_19 : decode cX6_order 19 = .ok (.invokevirtual 237, 3) := by decide +kernel
theorem dX6_order_22 : decode cX6_order 22 = .ok (.invokestatic 104, 3) := by decide +kernel
theorem dX6_order_25 : decode cX6_order 25 = .ok (.ifCond .eq 13, 3) := by decide +kernel
theorem dX6_order_28 : decode cX6_order 28 = .ok (.iload_n 2, 1) := by decide +kernel
theorem dX6_order_29 : decode cX6_order 29 = .ok (.iconst 1, 1) := by decide +kernel
theorem dX6_order_30 : decode cX6_order 30 = .ok (.bipush 12, 2) := by decide +kernel
theorem dX6_order_32 : decode cX6_order 32 = .ok (.invokestatic 104, 3) := by decide +kernel
theorem dX6_order_35 : decode cX6_order 35 = .ok (.ifCond .ne 6, 3) := by decide +kernel
theorem dX6_order_38 : decode cX6_order 38 = .ok (.ldc 71, 2) := by decide +kernel
theorem dX6_order_40 : decode cX6_order 40 = .ok (.ireturn, 1) := by decide +kernel
theorem dX6_order_41 : decode cX6_order 41 = .ok (.iload_n 3, 1) := by decide +kernel
theorem dX6_order_42 : decode cX6_order 42 = .ok (.iconst (-1), 1) := by decide +kernel
theorem dX6_order_43 : decode cX6_order 43 = .ok (.if_icmp .eq 17, 3) := by decide +kernel
theorem dX6_order_46 : decode cX6_order 46 = .ok (.aload_n 0, 1) := by decide +kernel
theorem dX6_order_47 : decode cX6_order 47 = .ok (.getfield 26, 3) := by decide +kernel
theorem dX6_order_50 : decode cX6_order 50 = .ok (.iload_n 3, 1) := by decide +kernel
theorem dX6_order_51 : decode cX6_order 51 = .ok (.invokevirtual 187, 3) := by decide +kernel
theorem dX6_order_54 : decode cX6_order 54 = .ok (.ifCond .ne 6, 3) := by decide +kernel
theorem dX6_order_57 : decode cX6_order 57 = .ok (.ldc 71, 2) := by decide +kernel
theorem dX6_order_59 : decode cX6_order 59 = .ok (.ireturn, 1) := by decide +kernel
theorem dX6_order_60 : decode cX6_order 60 = .ok (.aload_n 0, 1) := by decide +kernel
theorem dX6_order_61 : decode cX6_order 61 = .ok (.getfield 49, 3) := by decide +kernel
theorem dX6_order_64 : decode cX6_order 64 = .ok (.aload_n 0, 1) := by decide +kernel
theorem dX6_order_65 : decode cX6_order 65 = .ok (.getfield 26, 3) := by decide +kernel
theorem dX6_order_68 : decode cX6_order 68 = .ok (.iload_n 1, 1) := by decide +kernel
theorem dX6_order_69 : decode cX6_order 69 = .ok (.iload_n 2, 1) := by decide +kernel
theorem dX6_order_70 : decode cX6_order 70 = .ok (.invokevirtual 240, 3) := by decide +kernel
theorem dX6_order_73 : decode cX6_order 73 = .ok (.istore 4, 2) := by decide +kernel
theorem dX6_order_75 : decode cX6_order 75 = .ok (.iload_n 3, 1) := by decide +kernel
theorem dX6_order_76 : decode cX6_order 76 = .ok (.iconst (-1), 1) := by decide +kernel
theorem dX6_order_77 : decode cX6_order 77 = .ok (.if_icmp .ne 8, 3) := by decide +kernel
theorem dX6_order_80 : decode cX6_order 80 = .ok (.iload 4, 2) := by decide +kernel
theorem dX6_order_82 : decode cX6_order 82 = .ok (.goto 12, 3) := by decide +kernel
theorem dX6_order_85 : decode cX6_order 85 = .ok (.aload_n 0, 1) := by decide +kernel
theorem dX6_order_86 : decode cX6_order 86 = .ok (.getfield 49, 3) := by decide +kernel
theorem dX6_order_89 : decode cX6_order 89 = .ok (.getfield 244, 3) := by decide +kernel
theorem dX6_order_92 : decode cX6_order 92 = .ok (.iload_n 3, 1) := by decide +kernel
theorem dX6_order_93 : decode cX6_order 93 = .ok (.iaload, 1) := by decide +kernel
theorem dX6_order_94 : decode cX6_order 94 = .ok (.ireturn, 1) := by decide +kernel
theorem dX6_lamp_0 : decode cX6_lamp 0 = .ok (.aload_n 0, 1) := by decide +kernel
theorem dX6_lamp_1 : decode cX6_lamp 1 = .ok (.getfield 26, 3) := by decide +kernel
theorem dX6_lamp_4 : decode cX6_lamp 4 = .ok (.iload_n 1, 1) := by decide +kernel
theorem dX6_lamp_5 : decode cX6_lamp 5 = .ok (.invokevirtual 158, 3) := by decide +kernel
theorem dX6_lamp_8 : decode cX6_lamp 8 = .ok (.ifCond .eq 22, 3) := by decide +kernel
theorem dX6_lamp_11 : decode cX6_lamp 11 = .ok (.iload_n 2, 1) := by decide +kernel
theorem dX6_lamp_12 : decode cX6_lamp 12 = .ok (.iconst 1, 1) := by decide +kernel
theorem dX6_lamp_13 : decode cX6_lamp 13 = .ok (.bipush 60, 2) := by decide +kernel
theorem dX6_lamp_15 : decode cX6_lamp 15 = .ok (.invokestatic 104, 3) := by decide +kernel
theorem dX6_lamp_18 : decode cX6_lamp 18 = .ok (.ifCond .eq 12, 3) := by decide +kernel
theorem dX6_lamp_21 : decode cX6_lamp 21 = .ok (.iload_n 3, 1) := by decide +kernel
theorem dX6_lamp_22 : decode cX6_lamp 22 = .ok (.iconst 0, 1) := by decide +kernel
theorem dX6_lamp_23 : decode cX6_lamp 23 = .ok (.iconst 1, 1) := by decide +kernel
theorem dX6_lamp_24 : decode cX6_lamp 24 = .ok (.invokestatic 104, 3) := by decide +kernel
theorem dX6_lamp_27 : decode cX6_lamp 27 = .ok (.ifCond .ne 6, 3) := by decide +kernel
theorem dX6_lamp_30 : decode cX6_lamp 30 = .ok (.ldc 71, 2) := by decide +kernel
theorem dX6_lamp_32 : decode cX6_lamp 32 = .ok (.ireturn, 1) := by decide +kernel
theorem dX6_lamp_33 : decode cX6_lamp 33 = .ok (.aload_n 0, 1) := by decide +kernel
theorem dX6_lamp_34 : decode cX6_lamp 34 = .ok (.getfield 49, 3) := by decide +kernel
theorem dX6_lamp_37 : decode cX6_lamp 37 = .ok (.aload_n 0, 1) := by decide +kernel
theorem dX6_lamp_38 : decode cX6_lamp 38 = .ok (.getfield 26, 3) := by decide +kernel
theorem dX6_lamp_41 : decode cX6_lamp 41 = .ok (.iload_n 1, 1) := by decide +kernel
theorem dX6_lamp_42 : decode cX6_lamp 42 = .ok (.iload_n 2, 1) := by decide +kernel
theorem dX6_lamp_43 : decode cX6_lamp 43 = .ok (.invokevirtual 247, 3) := by decide +kernel
theorem dX6_lamp_46 : decode cX6_lamp 46 = .ok (.istore 4, 2) := by decide +kernel
theorem dX6_lamp_48 : decode cX6_lamp 48 = .ok (.iload_n 3, 1) := by decide +kernel
theorem dX6_lamp_49 : decode cX6_lamp 49 = .ok (.iconst 1, 1) := by decide +kernel
theorem dX6_lamp_50 : decode cX6_lamp 50 = .ok (.if_icmp .ne 8, 3) := by decide +kernel
theorem dX6_lamp_53 : decode cX6_lamp 53 = .ok (.iload 4, 2) := by decide +kernel
theorem dX6_lamp_55 : decode cX6_lamp 55 = .ok (.goto 18, 3) := by decide +kernel
theorem dX6_lamp_58 : decode cX6_lamp 58 = .ok (.aload_n 0, 1) := by decide +kernel
theorem dX6_lamp_59 : decode cX6_lamp 59 = .ok (.getfield 49, 3) := by decide +kernel
theorem dX6_lamp_62 : decode cX6_lamp 62 = .ok (.aload_n 0, 1) := by decide +kernel
theorem dX6_lamp_63 : decode cX6_lamp 63 = .ok (.getfield 26, 3) := by decide +kernel
theorem dX6_lamp_66 : decode cX6_lamp 66 = .ok (.iload 4, 2) := by decide +kernel
theorem dX6_lamp_68 : decode cX6_lamp 68 = .ok (.iload_n 1, 1) := by decide +kernel
theorem dX6_lamp_69 : decode cX6_lamp 69 = .ok (.iload_n 2, 1) := by decide +kernel
theorem dX6_lamp_70 : decode cX6_lamp 70 = .ok (.invokevirtual 250, 3) := by decide +kernel
theorem dX6_lamp_73 : decode cX6_lamp 73 = .ok (.ireturn, 1) := by decide +kernel
theorem dX6_caught_0 : decode cX6_caught 0 = .ok (.aload_n 0, 1) := by decide +kernel
theorem dX6_caught_1 : decode cX6_caught 1 = .ok (.getfield 26, 3) := by decide +kernel
theorem dX6_caught_4 : decode cX6_caught 4 = .ok (.iload_n 1, 1) := by decide +kernel
theorem dX6_caught_5 : decode cX6_caught 5 = .ok (.invokevirtual 158, 3) := by decide +kernel
theorem dX6_caught_8 : decode cX6_caught 8 = .ok (.ifCond .eq 22, 3) := by decide +kernel
theorem dX6_caught_11 : decode cX6_caught 11 = .ok (.iload_n 2, 1) := by decide +kernel
theorem dX6_caught_12 : decode cX6_caught 12 = .ok (.iconst 1, 1) := by decide +kernel
theorem dX6_caught_13 : decode cX6_caught 13 = .ok (.bipush 60, 2) := by decide +kernel
theorem dX6_caught_15 : decode cX6_caught 15 = .ok (.invokestatic 104, 3) := by decide +kernel
theorem dX6_caught_18 : decode cX6_caught 18 = .ok (.ifCond .eq 12, 3) := by decide +kernel
theorem dX6_caught_21 : decode cX6_caught 21 = .ok (.iload_n 3, 1) := by decide +kernel
theorem dX6_caught_22 : decode cX6_caught 22 = .ok (.iconst 0, 1) := by decide +kernel
theorem dX6_caught_23 : decode cX6_caught 23 = .ok (.iconst 1, 1) := by decide +kernel
theorem dX6_caught_24 : decode cX6_caught 24 = .ok (.invokestatic 104, 3) := by decide +kernel
theorem dX6_caught_27 : decode cX6_caught 27 = .ok (.ifCond .ne 6, 3) := by decide +kernel
theorem dX6_caught_30 : decode cX6_caught 30 = .ok (.ldc 71, 2) := by decide +kernel
theorem dX6_caught_32 : decode cX6_caught 32 = .ok (.ireturn, 1) := by decide +kernel
theorem dX6_caught_33 : decode cX6_caught 33 = .ok (.aload_n 0, 1) := by decide +kernel
theorem dX6_caught_34 : decode cX6_caught 34 = .ok (.getfield 49, 3) := by decide +kernel
theorem dX6_caught_37 : decode cX6_caught 37 = .ok (.aload_n 0, 1) := by decide +kernel
theorem dX6_caught_38 : decode cX6_caught 38 = .ok (.getfield 26, 3) := by decide +kernel
theorem dX6_caught_41 : decode cX6_caught 41 = .ok (.iload_n 1, 1) := by decide +kernel
theorem dX6_caught_42 : decode cX6_caught 42 = .ok (.iload_n 2, 1) := by decide +kernel
theorem dX6_caught_43 : decode cX6_caught 43 = .ok (.invokevirtual 254, 3) := by decide +kernel
theorem dX6_caught_46 : decode cX6_caught 46 = .ok (.istore 4, 2) := by decide +kernel
theorem dX6_caught_48 : decode cX6_caught 48 = .ok (.iload_n 3, 1) := by decide +kernel
theorem dX6_caught_49 : decode cX6_caught 49 = .ok (.iconst 1, 1) := by decide +kernel
theorem dX6_caught_50 : decode cX6_caught 50 = .ok (.if_icmp .ne 8, 3) := by decide +kernel
theorem dX6_caught_53 : decode cX6_caught 53 = .ok (.iload 4, 2) := by decide +kernel
theorem dX6_caught_55 : decode cX6_caught 55 = .ok (.goto 8, 3) := by decide +kernel
theorem dX6_caught_58 : decode cX6_caught 58 = .ok (.iload 4, 2) := by decide +kernel
theorem dX6_caught_60 : decode cX6_caught 60 = .ok (.invokestatic 168, 3) := by decide +kernel
theorem dX6_caught_63 : decode cX6_caught 63 = .ok (.ireturn, 1) := by decide +kernel
theorem dX6_grams_0 : decode cX6_grams 0 = .ok (.aload_n 0, 1) := by decide +kernel
theorem dX6_grams_1 : decode cX6_grams 1 = .ok (.getfield 26, 3) := by decide +kernel
theorem dX6_grams_4 : decode cX6_grams 4 = .ok (.iload_n 1, 1) := by decide +kernel
theorem dX6_grams_5 : decode cX6_grams 5 = .ok (.invokevirtual 184, 3) := by decide +kernel
theorem dX6_grams_8 : decode cX6_grams 8 = .ok (.ifCond .eq 14, 3) := by decide +kernel
theorem dX6_grams_11 : decode cX6_grams 11 = .ok (.iload_n 2, 1) := by decide +kernel
theorem dX6_grams_12 : decode cX6_grams 12 = .ok (.iconst 0, 1) := by decide +kernel
theorem dX6_grams_13 : decode cX6_grams 13 = .ok (.sipush 999, 3) := by decide +kernel
theorem dX6_grams_16 : decode cX6_grams 16 = .ok (.invokestatic 104, 3) := by decide +kernel
theorem dX6_grams_19 : decode cX6_grams 19 = .ok (.ifCond .ne 6, 3) := by decide +kernel
theorem dX6_grams_22 : decode cX6_grams 22 = .ok (.ldc 71, 2) := by decide +kernel
theorem dX6_grams_24 : decode cX6_grams 24 = .ok (.ireturn, 1) := by decide +kernel
theorem dX6_grams_25 : decode cX6_grams 25 = .ok (.aload_n 0, 1) := by decide +kernel
theorem dX6_grams_26 : decode cX6_grams 26 = .ok (.getfield 26, 3) := by decide +kernel
theorem dX6_grams_29 : decode cX6_grams 29 = .ok (.iload_n 1, 1) := by decide +kernel
theorem dX6_grams_30 : decode cX6_grams 30 = .ok (.invokevirtual 193, 3) := by decide +kernel
theorem dX6_grams_33 : decode cX6_grams 33 = .ok (.ifCond .eq 7, 3) := by decide +kernel
theorem dX6_grams_36 : decode cX6_grams 36 = .ok (.iconst 0, 1) := by decide +kernel
theorem dX6_grams_37 : decode cX6_grams 37 = .ok (.goto 12, 3) := by decide +kernel
theorem dX6_grams_40 : decode cX6_grams 40 = .ok (.aload_n 0, 1) := by decide +kernel
theorem dX6_grams_41 : decode cX6_grams 41 = .ok (.getfield 26, 3) := by decide +kernel
theorem dX6_grams_44 : decode cX6_grams 44 = .ok (.iload_n 1, 1) := by decide +kernel
theorem dX6_grams_45 : decode cX6_grams 45 = .ok (.iload_n 2, 1) := by decide +kernel
theorem dX6_grams_46 : decode cX6_grams 46 = .ok (.invokevirtual 257, 3) := by decide +kernel
theorem dX6_grams_49 : decode cX6_grams 49 = .ok (.ireturn, 1) := by decide +kernel
theorem dX6_who_0 : decode cX6_who 0 = .ok (.aload_n 0, 1) := by decide +kernel
theorem dX6_who_1 : decode cX6_who 1 = .ok (.getfield 26, 3) := by decide +kernel
theorem dX6_who_4 : decode cX6_who 4 = .ok (.iload_n 1, 1) := by decide +kernel
theorem dX6_who_5 : decode cX6_who 5 = .ok (.invokevirtual 184, 3) := by decide +kernel
theorem dX6_who_8 : decode cX6_who 8 = .ok (.ifCond .eq 23, 3) := by decide +kernel
theorem dX6_who_11 : decode cX6_who 11 = .ok (.iload_n 2, 1) := by decide +kernel
theorem dX6_who_12 : decode cX6_who 12 = .ok (.iconst 0, 1) := by decide +kernel
theorem dX6_who_13 : decode cX6_who 13 = .ok (.iconst 1, 1) := by decide +kernel
theorem dX6_who_14 : decode cX6_who 14 = .ok (.invokestatic 104, 3) := by decide +kernel
theorem dX6_who_17 : decode cX6_who 17 = .ok (.ifCond .eq 14, 3) := by decide +kernel
theorem dX6_who_20 : decode cX6_who 20 = .ok (.aload_n 0, 1) := by decide +kernel
theorem dX6_who_21 : decode cX6_who 21 = .ok (.getfield 26, 3) := by decide +kernel
theorem dX6_who_24 : decode cX6_who 24 = .ok (.iload_n 3, 1) := by decide +kernel
theorem dX6_who_25 : decode cX6_who 25 = .ok (.invokevirtual 158, 3) := by decide +kernel
theorem dX6_who_28 : decode cX6_who 28 = .ok (.ifCond .ne 6, 3) := by decide +kernel
theorem dX6_who_31 : decode cX6_who 31 = .ok (.ldc 71, 2) := by decide +kernel
theorem dX6_who_33 : decode cX6_who 33 = .ok (.ireturn, 1) := by decide +kernel
theorem dX6_who_34 : decode cX6_who 34 = .ok (.iload 4, 2) := by decide +kernel
theorem dX6_who_36 : decode cX6_who 36 = .ok (.invokestatic 64, 3) := by decide +kernel
theorem dX6_who_39 : decode cX6_who 39 = .ok (.ifCond .eq 14, 3) := by decide +kernel
theorem dX6_who_42 : decode cX6_who 42 = .ok (.iload 6, 2) := by decide +kernel
theorem dX6_who_44 : decode cX6_who 44 = .ok (.iconst 1, 1) := by decide +kernel
theorem dX6_who_45 : decode cX6_who 45 = .ok (.bipush 12, 2) := by decide +kernel
theorem dX6_who_47 : decode cX6_who 47 = .ok (.invokestatic 104, 3) := by decide +kernel
theorem dX6_who_50 : decode cX6_who 50 = .ok (.ifCond .ne 6, 3) := by decide +kernel
theorem dX6_who_53 : decode cX6_who 53 = .ok (.ldc 71, 2) := by decide +kernel
theorem dX6_who_55 : decode cX6_who 55 = .ok (.ireturn, 1) := by decide +kernel
theorem dX6_who_56 : decode cX6_who 56 = .ok (.aload_n 0, 1) := by decide +kernel
theorem dX6_who_57 : decode cX6_who 57 = .ok (.getfield 26, 3) := by decide +kernel
theorem dX6_who_60 : decode cX6_who 60 = .ok (.iload_n 1, 1) := by decide +kernel
theorem dX6_who_61 : decode cX6_who 61 = .ok (.invokevirtual 193, 3) := by decide +kernel
theorem dX6_who_64 : decode cX6_who 64 = .ok (.ifCond .eq 6, 3) := by decide +kernel
theorem dX6_who_67 : decode cX6_who 67 = .ok (.ldc 137, 2) := by decide +kernel
theorem dX6_who_69 : decode cX6_who 69 = .ok (.ireturn, 1) := by decide +kernel
theorem dX6_who_70 : decode cX6_who 70 = .ok (.aload_n 0, 1) := by decide +kernel
theorem dX6_who_71 : decode cX6_who 71 = .ok (.getfield 10, 3) := by decide +kernel
theorem dX6_who_74 : decode cX6_who 74 = .ok (.iload 4, 2) := by decide +kernel
theorem dX6_who_76 : decode cX6_who 76 = .ok (.iload 5, 2) := by decide +kernel
theorem dX6_who_78 : decode cX6_who 78 = .ok (.iload 6, 2) := by decide +kernel
theorem dX6_who_80 : decode cX6_who 80 = .ok (.invokevirtual 83, 3) := by decide +kernel
theorem dX6_who_83 : decode cX6_who 83 = .ok (.istore 7, 2) := by decide +kernel
theorem dX6_who_85 : decode cX6_who 85 = .ok (.iload 7, 2) := by decide +kernel
theorem dX6_who_87 : decode cX6_who 87 = .ok (.ifCond .eq 10, 3) := by decide +kernel
theorem dX6_who_90 : decode cX6_who 90 = .ok (.aload_n 0, 1) := by decide +kernel
theorem dX6_who_91 : decode cX6_who 91 = .ok (.iload 7, 2) := by decide +kernel
theorem dX6_who_93 : decode cX6_who 93 = .ok (.invokevirtual 72, 3) := by decide +kernel
theorem dX6_who_96 : decode cX6_who 96 = .ok (.ireturn, 1) := by decide +kernel
theorem dX6_who_97 : decode cX6_who 97 = .ok (.aload_n 0, 1) := by decide +kernel
theorem dX6_who_98 : decode cX6_who 98 = .ok (.getfield 10, 3) := by decide +kernel
theorem dX6_who_101 : decode cX6_who 101 = .ok (.iload 4, 2) := by decide +kernel
theorem dX6_who_103 : decode cX6_who 103 = .ok (.iload 5, 2) := by decide +kernel
theorem dX6_who_105 : decode cX6_who 105 = .ok (.iload 6, 2) := by decide +kernel
theorem dX6_who_107 : decode cX6_who 107 = .ok (.invokevirtual 260, 3) := by decide +kernel
theorem dX6_who_110 : decode cX6_who 110 = .ok (.aload_n 0, 1) := by decide +kernel
theorem dX6_who_111 : decode cX6_who 111 = .ok (.iload_n 2, 1) := by decide +kernel
theorem dX6_who_112 : decode cX6_who 112 = .ok (.ifCond .ne 23, 3) := by decide +kernel
theorem dX6_who_115 : decode cX6_who 115 = .ok (.aload_n 0, 1) := by decide +kernel
theorem dX6_who_116 : decode cX6_who 116 = .ok (.getfield 49, 3) := by decide +kernel
theorem dX6_who_119 : decode cX6_who 119 = .ok (.aload_n 0, 1) := by decide +kernel
theorem dX6_who_120 : decode cX6_who 120 = .ok (.getfield 26, 3) := by decide +kernel
theorem dX6_who_123 : decode cX6_who 123 = .ok (.iload_n 1, 1) := by decide +kernel
theorem dX6_who_124 : decode cX6_who 124 = .ok (.iload_n 3, 1) := by decide +kernel
theorem dX6_who_125 : decode cX6_who 125 = .ok (.aload_n 0, 1) := by decide +kernel
theorem dX6_who_126 : decode cX6_who 126 = .ok (.getfield 10, 3) := by decide +kernel
theorem dX6_who_129 : decode cX6_who 129 = .ok (.invokevirtual 263, 3) := by decide +kernel
theorem dX6_who_132 : decode cX6_who 132 = .ok (.goto 20, 3) := by decide +kernel
theorem dX6_who_135 : decode cX6_who 135 = .ok (.aload_n 0, 1) := by decide +kernel
theorem dX6_who_136 : decode cX6_who 136 = .ok (.getfield 49, 3) := by decide +kernel
theorem dX6_who_139 : decode cX6_who 139 = .ok (.aload_n 0, 1) := by decide +kernel
theorem dX6_who_140 : decode cX6_who 140 = .ok (.getfield 26, 3) := by decide +kernel
theorem dX6_who_143 : decode cX6_who 143 = .ok (.iload_n 1, 1) := by decide +kernel
theorem dX6_who_144 : decode cX6_who 144 = .ok (.iload_n 3, 1) := by decide +kernel
theorem dX6_who_145 : decode cX6_who 145 = .ok (.aload_n 0, 1) := by decide +kernel
theorem dX6_who_146 : decode cX6_who 146 = .ok (.getfield 10, 3) := by decide +kernel
theorem dX6_who_149 : decode cX6_who 149 = .ok (.invokevirtual 267, 3) := by decide +kernel
theorem dX6_who_152 : decode cX6_who 152 = .ok (.invokevirtual 80, 3) := by decide +kernel
theorem dX6_who_155 : decode cX6_who 155 = .ok (.ireturn, 1) := by decide +kernel
theorem dX6_paste_0 : decode cX6_paste 0 = .ok (.aload_n 0, 1) := by decide +kernel
theorem dX6_paste_1 : decode cX6_paste 1 = .ok (.getfield 26, 3) := by decide +kernel
theorem dX6_paste_4 : decode cX6_paste 4 = .ok (.iload_n 1, 1) := by decide +kernel
theorem dX6_paste_5 : decode cX6_paste 5 = .ok (.invokevirtual 158, 3) := by decide +kernel
theorem dX6_paste_8 : decode cX6_paste 8 = .ok (.ifCond .eq 14, 3) := by decide +kernel
theorem dX6_paste_11 : decode cX6_paste 11 = .ok (.aload_n 0, 1) := by decide +kernel
theorem dX6_paste_12 : decode cX6_paste 12 = .ok (.getfield 26, 3) := by decide +kernel
theorem dX6_paste_15 : decode cX6_paste 15 = .ok (.iload_n 2, 1) := by decide +kernel
theorem dX6_paste_16 : decode cX6_paste 16 = .ok (.invokevirtual 158, 3) := by decide +kernel
theorem dX6_paste_19 : decode cX6_paste 19 = .ok (.ifCond .ne 6, 3) := by decide +kernel
theorem dX6_paste_22 : decode cX6_paste 22 = .ok (.ldc 71, 2) := by decide +kernel
theorem dX6_paste_24 : decode cX6_paste 24 = .ok (.ireturn, 1) := by decide +kernel
theorem dX6_paste_25 : decode cX6_paste 25 = .ok (.iload_n 3, 1) := by decide +kernel
theorem dX6_paste_26 : decode cX6_paste 26 = .ok (.invokestatic 64, 3) := by decide +kernel
theorem dX6_paste_29 : decode cX6_paste 29 = .ok (.ifCond .eq 14, 3) := by decide +kernel
theorem dX6_paste_32 : decode cX6_paste 32 = .ok (.iload 5, 2) := by decide +kernel
theorem dX6_paste_34 : decode cX6_paste 34 = .ok (.iconst 1, 1) := by decide +kernel
theorem dX6_paste_35 : decode cX6_paste 35 = .ok (.bipush 12, 2) := by decide +kernel
theorem dX6_paste_37 : decode cX6_paste 37 = .ok (.invokestatic 104, 3) := by decide +kernel
theorem dX6_paste_40 : decode cX6_paste 40 = .ok (.ifCond .ne 6, 3) := by decide +kernel
theorem dX6_paste_43 : decode cX6_paste 43 = .ok (.ldc 71, 2) := by decide +kernel
theorem dX6_paste_45 : decode cX6_paste 45 = .ok (.ireturn, 1) := by decide +kernel
theorem dX6_paste_46 : decode cX6_paste 46 = .ok (.aload_n 0, 1) := by decide +kernel
theorem dX6_paste_47 : decode cX6_paste 47 = .ok (.getfield 10, 3) := by decide +kernel
theorem dX6_paste_50 : decode cX6_paste 50 = .ok (.iload_n 3, 1) := by decide +kernel
theorem dX6_paste_51 : decode cX6_paste 51 = .ok (.iload 4, 2) := by decide +kernel
theorem dX6_paste_53 : decode cX6_paste 53 = .ok (.iload 5, 2) := by decide +kernel
theorem dX6_paste_55 : decode cX6_paste 55 = .ok (.invokevirtual 83, 3) := by decide +kernel
theorem dX6_paste_58 : decode cX6_paste 58 = .ok (.istore 6, 2) := by decide +kernel
theorem dX6_paste_60 : decode cX6_paste 60 = .ok (.iload 6, 2) := by decide +kernel
theorem dX6_paste_62 : decode cX6_paste 62 = .ok (.ifCond .eq 10, 3) := by decide +kernel
theorem dX6_paste_65 : decode cX6_paste 65 = .ok (.aload_n 0, 1) := by decide +kernel
theorem dX6_paste_66 : decode cX6_paste 66 = .ok (.iload 6, 2) := by decide +kernel
theorem dX6_paste_68 : decode cX6_paste 68 = .ok (.invokevirtual 72, 3) := by decide +kernel
theorem dX6_paste_71 : decode cX6_paste 71 = .ok (.ireturn, 1) := by decide +kernel
theorem dX6_paste_72 : decode cX6_paste 72 = .ok (.aload_n 0, 1) := by decide +kernel
theorem dX6_paste_73 : decode cX6_paste 73 = .ok (.getfield 10, 3) := by decide +kernel
theorem dX6_paste_76 : decode cX6_paste 76 = .ok (.iload_n 3, 1) := by decide +kernel
theorem dX6_paste_77 : decode cX6_paste 77 = .ok (.iload 4, 2) := by decide +kernel
theorem dX6_paste_79 : decode cX6_paste 79 = .ok (.iload 5, 2) := by decide +kernel
theorem dX6_paste_81 : decode cX6_paste 81 = .ok (.invokevirtual 260, 3) := by decide +kernel
theorem dX6_paste_84 : decode cX6_paste 84 = .ok (.aload_n 0, 1) := by decide +kernel
theorem dX6_paste_85 : decode cX6_paste 85 = .ok (.aload_n 0, 1) := by decide +kernel
theorem dX6_paste_86 : decode cX6_paste 86 = .ok (.getfield 49, 3) := by decide +kernel
theorem dX6_paste_89 : decode cX6_paste 89 = .ok (.aload_n 0, 1) := by decide +kernel
theorem dX6_paste_90 : decode cX6_paste 90 = .ok (.getfield 26, 3) := by decide +kernel
theorem dX6_paste_93 : decode cX6_paste 93 = .ok (.iload_n 1, 1) := by decide +kernel
theorem dX6_paste_94 : decode cX6_paste 94 = .ok (.iload_n 2, 1) := by decide +kernel
theorem dX6_paste_95 : decode cX6_paste 95 = .ok (.aload_n 0, 1) := by decide +kernel
theorem dX6_paste_96 : decode cX6_paste 96 = .ok (.getfield 10, 3) := by decide +kernel
theorem dX6_paste_99 : decode cX6_paste 99 = .ok (.invokevirtual 270, 3) := by decide +kernel
theorem dX6_paste_102 : decode cX6_paste 102 = .ok (.invokevirtual 80, 3) := by decide +kernel
theorem dX6_paste_105 : decode cX6_paste 105 = .ok (.ireturn, 1) := by decide +kernel
theorem dX6_hungers_0 : decode cX6_hungers 0 = .ok (.aload_n 0, 1) := by decide +kernel
theorem dX6_hungers_1 : decode cX6_hungers 1 = .ok (.getfield 26, 3) := by decide +kernel
theorem dX6_hungers_4 : decode cX6_hungers 4 = .ok (.iload_n 1, 1) := by decide +kernel
theorem dX6_hungers_5 : decode cX6_hungers 5 = .ok (.invokevirtual 158, 3) := by decide +kernel
theorem dX6_hungers_8 : decode cX6_hungers 8 = .ok (.ifCond .eq 21, 3) := by decide +kernel
theorem dX6_hungers_11 : decode cX6_hungers 11 = .ok (.iload_n 2, 1) := by decide +kernel
theorem dX6_hungers_12 : decode cX6_hungers 12 = .ok (.invokestatic 64, 3) := by decide +kernel
theorem dX6_hungers_15 : decode cX6_hungers 15 = .ok (.ifCond .eq 14, 3) := by decide +kernel
theorem dX6_hungers_18 : decode cX6_hungers 18 = .ok (.iload 4, 2) := by decide +kernel
theorem dX6_hungers_20 : decode cX6_hungers 20 = .ok (.iconst 1, 1) := by decide +kernel
theorem dX6_hungers_21 : decode cX6_hungers 21 = .ok (.bipush 12, 2) := by decide +kernel
theorem dX6_hungers_23 : decode cX6_hungers 23 = .ok (.invokestatic 104, 3) := by decide +kernel
theorem dX6_hungers_26 : decode cX6_hungers 26 = .ok (.ifCond .ne 6, 3) := by decide +kernel
theorem dX6_hungers_29 : decode cX6_hungers 29 = .ok (.ldc 71, 2) := by decide +kernel
theorem dX6_hungers_31 : decode cX6_hungers 31 = .ok (.ireturn, 1) := by decide +kernel
theorem dX6_hungers_32 : decode cX6_hungers 32 = .ok (.aload_n 0, 1) := by decide +kernel
theorem dX6_hungers_33 : decode cX6_hungers 33 = .ok (.getfield 10, 3) := by decide +kernel
theorem dX6_hungers_36 : decode cX6_hungers 36 = .ok (.iload_n 2, 1) := by decide +kernel
theorem dX6_hungers_37 : decode cX6_hungers 37 = .ok (.iload_n 3, 1) := by decide +kernel
theorem dX6_hungers_38 : decode cX6_hungers 38 = .ok (.iload 4, 2) := by decide +kernel
theorem dX6_hungers_40 : decode cX6_hungers 40 = .ok (.invokevirtual 83, 3) := by decide +kernel
theorem dX6_hungers_43 : decode cX6_hungers 43 = .ok (.istore 5, 2) := by decide +kernel
theorem dX6_hungers_45 : decode cX6_hungers 45 = .ok (.iload 5, 2) := by decide +kernel
theorem dX6_hungers_47 : decode cX6_hungers 47 = .ok (.ifCond .eq 10, 3) := by decide +kernel
theorem dX6_hungers_50 : decode cX6_hungers 50 = .ok (.aload_n 0, 1) := by decide +kernel
theorem dX6_hungers_51 : decode cX6_hungers 51 = .ok (.iload 5, 2) := by decide +kernel
theorem dX6_hungers_53 : decode cX6_hungers 53 = .ok (.invokevirtual 72, 3) := by decide +kernel
theorem dX6_hungers_56 : decode cX6_hungers 56 = .ok (.ireturn, 1) := by decide +kernel
theorem dX6_hungers_57 : decode cX6_hungers 57 = .ok (.aload_n 0, 1) := by decide +kernel
theorem dX6_hungers_58 : decode cX6_hungers 58 = .ok (.getfield 10, 3) := by decide +kernel
theorem dX6_hungers_61 : decode cX6_hungers 61 = .ok (.iload_n 2, 1) := by decide +kernel
theorem dX6_hungers_62 : decode cX6_hungers 62 = .ok (.iload_n 3, 1) := by decide +kernel
theorem dX6_hungers_63 : decode cX6_hungers 63 = .ok (.iload 4, 2) := by decide +kernel
theorem dX6_hungers_65 : decode cX6_hungers 65 = .ok (.invokevirtual 260, 3) := by decide +kernel
theorem dX6_hungers_68 : decode cX6_hungers 68 = .ok (.aload_n 0, 1) := by decide +kernel
theorem dX6_hungers_69 : decode cX6_hungers 69 = .ok (.aload_n 0, 1) := by decide +kernel
theorem dX6_hungers_70 : decode cX6_hungers 70 = .ok (.getfield 49, 3) := by decide +kernel
theorem dX6_hungers_73 : decode cX6_hungers 73 = .ok (.aload_n 0, 1) := by decide +kernel
theorem dX6_hungers_74 : decode cX6_hungers 74 = .ok (.getfield 26, 3) := by decide +kernel
theorem dX6_hungers_77 : decode cX6_hungers 77 = .ok (.iload_n 1, 1) := by decide +kernel
theorem dX6_hungers_78 : decode cX6_hungers 78 = .ok (.aload_n 0, 1) := by decide +kernel
theorem dX6_hungers_79 : decode cX6_hungers 79 = .ok (.getfield 10, 3) := by decide +kernel
theorem dX6_hungers_82 : decode cX6_hungers 82 = .ok (.invokevirtual 273, 3) := by decide +kernel
theorem dX6_hungers_85 : decode cX6_hungers 85 = .ok (.invokevirtual 80, 3) := by decide +kernel
theorem dX6_hungers_88 : decode cX6_hungers 88 = .ok (.ireturn, 1) := by decide +kernel
theorem dX6_dark_0 : decode cX6_dark 0 = .ok (.aload_n 0, 1) := by decide +kernel
theorem dX6_dark_1 : decode cX6_dark 1 = .ok (.getfield 26, 3) := by decide +kernel
theorem dX6_dark_4 : decode cX6_dark 4 = .ok (.iload_n 1, 1) := by decide +kernel
theorem dX6_dark_5 : decode cX6_dark 5 = .ok (.invokevirtual 158, 3) := by decide +kernel
theorem dX6_dark_8 : decode cX6_dark 8 = .ok (.ifCond .eq 13, 3) := by decide +kernel
theorem dX6_dark_11 : decode cX6_dark 11 = .ok (.iload_n 2, 1) := by decide +kernel
theorem dX6_dark_12 : decode cX6_dark 12 = .ok (.iconst 0, 1) := by decide +kernel
theorem dX6_dark_13 : decode cX6_dark 13 = .ok (.bipush 60, 2) := by decide +kernel
theorem dX6_dark_15 : decode cX6_dark 15 = .ok (.invokestatic 104, 3) := by decide +kernel
theorem dX6_dark_18 : decode cX6_dark 18 = .ok (.ifCond .ne 7, 3) := by decide +kernel
theorem dX6_dark_21 : decode cX6_dark 21 = .ok (.ldc2_w 277, 3) := by decide +kernel
theorem dX6_dark_24 : decode cX6_dark 24 = .ok (.lreturn, 1) := by decide +kernel
theorem dX6_dark_25 : decode cX6_dark 25 = .ok (.iload_n 3, 1) := by decide +kernel
theorem dX6_dark_26 : decode cX6_dark 26 = .ok (.iconst 0, 1) := by decide +kernel
theorem dX6_dark_27 : decode cX6_dark 27 = .ok (.bipush 10, 2) := by decide +kernel
theorem dX6_dark_29 : decode cX6_dark 29 = .ok (.invokestatic 104, 3) := by decide +kernel
theorem dX6_dark_32 : decode cX6_dark 32 = .ok (.ifCond .eq 13, 3) := by decide +kernel
theorem dX6_dark_35 : decode cX6_dark 35 = .ok (.iload 4, 2) := by decide +kernel
theorem dX6_dark_37 : decode cX6_dark 37 = .ok (.iconst 0, 1) := by decide +kernel
theorem dX6_dark_38 : decode cX6_dark 38 = .ok (.iconst 1, 1) := by decide +kernel
theorem dX6_dark_39 : decode cX6_dark 39 = .ok (.invokestatic 104, 3) := by decide +kernel
theorem dX6_dark_42 : decode cX6_dark 42 = .ok (.ifCond .ne 7, 3) := by decide +kernel
theorem dX6_dark_45 : decode cX6_dark 45 = .ok (.ldc2_w 277, 3) := by decide +kernel
theorem dX6_dark_48 : decode cX6_dark 48 = .ok (.lreturn, 1) := by decide +kernel
theorem dX6_dark_49 : decode cX6_dark 49 = .ok (.aload_n 0, 1) := by decide +kernel
theorem dX6_dark_50 : decode cX6_dark 50 = .ok (.getfield 49, 3) := by decide +kernel
theorem dX6_dark_53 : decode cX6_dark 53 = .ok (.aload_n 0, 1) := by decide +kernel
theorem dX6_dark_54 : decode cX6_dark 54 = .ok (.getfield 26, 3) := by decide +kernel
theorem dX6_dark_57 : decode cX6_dark 57 = .ok (.iload_n 1, 1) := by decide +kernel
theorem dX6_dark_58 : decode cX6_dark 58 = .ok (.iload_n 2, 1) := by decide +kernel
theorem dX6_dark_59 : decode cX6_dark 59 = .ok (.iload_n 3, 1) := by decide +kernel
theorem dX6_dark_60 : decode cX6_dark 60 = .ok (.invokevirtual 279, 3) := by decide +kernel
theorem dX6_dark_63 : decode cX6_dark 63 = .ok (.lstore 5, 2) := by decide +kernel
theorem dX6_dark_65 : decode cX6_dark 65 = .ok (.bipush 10, 2) := by decide +kernel
theorem dX6_dark_67 : decode cX6_dark 67 = .ok (.aload_n 0, 1) := by decide +kernel
theorem dX6_dark_68 : decode cX6_dark 68 = .ok (.getfield 26, 3) := by decide +kernel
theorem dX6_dark_71 : decode cX6_dark 71 = .ok (.getfield 161, 3) := by decide +kernel
theorem dX6_dark_74 : decode cX6_dark 74 = .ok (.invokestatic 168, 3) := by decide +kernel
theorem dX6_dark_77 : decode cX6_dark 77 = .ok (.invokestatic 283, 3) := by decide +kernel
theorem dX6_dark_80 : decode cX6_dark 80 = .ok (.lstore 7, 2) := by decide +kernel
theorem dX6_dark_82 : decode cX6_dark 82 = .ok (.lload 5, 2) := by decide +kernel
theorem dX6_dark_84 : decode cX6_dark 84 = .ok (.lload 7, 2) := by decide +kernel
theorem dX6_dark_86 : decode cX6_dark 86 = .ok (.invokestatic 287, 3) := by decide +kernel
theorem dX6_dark_89 : decode cX6_dark 89 = .ok (.lstore 9, 2) := by decide +kernel
theorem dX6_dark_91 : decode cX6_dark 91 = .ok (.lload 9, 2) := by decide +kernel
theorem dX6_dark_93 : decode cX6_dark 93 = .ok (.lconst 0, 1) := by decide +kernel
theorem dX6_dark_94 : decode cX6_dark 94 = .ok (.lcmp, 1) := by decide +kernel
theorem dX6_dark_95 : decode cX6_dark 95 = .ok (.ifCond .gt 7, 3) := by decide +kernel
theorem dX6_dark_98 : decode cX6_dark 98 = .ok (.ldc2_w 277, 3) := by decide +kernel
theorem dX6_dark_101 : decode cX6_dark 101 = .ok (.lreturn, 1) := by decide +kernel
theorem dX6_dark_102 : decode cX6_dark 102 = .ok (.iload 4, 2) := by decide +kernel
theorem dX6_dark_104 : decode cX6_dark 104 = .ok (.ifCond .ne 11, 3) := by decide +kernel
theorem dX6_dark_107 : decode cX6_dark 107 = .ok (.lload 5, 2) := by decide +kernel
theorem dX6_dark_109 : decode cX6_dark 109 = .ok (.lload 9, 2) := by decide +kernel
theorem dX6_dark_111 : decode cX6_dark 111 = .ok (.ldiv, 1) := by decide +kernel
theorem dX6_dark_112 : decode cX6_dark 112 = .ok (.goto 8, 3) := by decide +kernel
theorem dX6_dark_115 : decode cX6_dark 115 = .ok (.lload 7, 2) := by decide +kernel
theorem dX6_dark_117 : decode cX6_dark 117 = .ok (.lload 9, 2) := by decide +kernel
theorem dX6_dark_119 : decode cX6_dark 119 = .ok (.ldiv, 1) := by decide +kernel
theorem dX6_dark_120 : decode cX6_dark 120 = .ok (.lreturn, 1) := by decide +kernel
theorem dX6_drawn_0 : decode cX6_drawn 0 = .ok (.aload_n 0, 1) := by decide +kernel
theorem dX6_drawn_1 : decode cX6_drawn 1 = .ok (.getfield 26, 3) := by decide +kernel
theorem dX6_drawn_4 : decode cX6_drawn 4 = .ok (.invokevirtual 141, 3) := by decide +kernel
theorem dX6_drawn_7 : decode cX6_drawn 7 = .ok (.ifCond .ne 6, 3) := by decide +kernel
theorem dX6_drawn_10 : decode cX6_drawn 10 = .ok (.ldc 137, 2) := by decide +kernel
theorem dX6_drawn_12 : decode cX6_drawn 12 = .ok (.ireturn, 1) := by decide +kernel
theorem dX6_drawn_13 : decode cX6_drawn 13 = .ok (.iload_n 1, 1) := by decide +kernel
theorem dX6_drawn_14 : decode cX6_drawn 14 = .ok (.iconst 0, 1) := by decide +kernel
theorem dX6_drawn_15 : decode cX6_drawn 15 = .ok (.bipush 60, 2) := by decide +kernel
theorem dX6_drawn_17 : decode cX6_drawn 17 = .ok (.invokestatic 104, 3) := by decide +kernel
theorem dX6_drawn_20 : decode cX6_drawn 20 = .ok (.ifCond .eq 23, 3) := by decide +kernel
theorem dX6_drawn_23 : decode cX6_drawn 23 = .ok (.iload_n 2, 1) := by decide +kernel
theorem dX6_drawn_24 : decode cX6_drawn 24 = .ok (.iconst 1, 1) := by decide +kernel
theorem dX6_drawn_25 : decode cX6_drawn 25 = .ok (.ldc_w 291, 3) := by decide +kernel
theorem dX6_drawn_28 : decode cX6_drawn 28 = .ok (.invokestatic 104, 3) := by decide +kernel
theorem dX6_drawn_31 : decode cX6_drawn 31 = .ok (.ifCond .eq 12, 3) := by decide +kernel
theorem dX6_drawn_34 : decode cX6_drawn 34 = .ok (.iload_n 3, 1) := by decide +kernel
theorem dX6_drawn_35 : decode cX6_drawn 35 = .ok (.iconst 0, 1) := by decide +kernel
theorem dX6_drawn_36 : decode cX6_drawn 36 = .ok (.iconst 1, 1) := by decide +kernel
theorem dX6_drawn_37 : decode cX6_drawn 37 = .ok (.invokestatic 104, 3) := by decide +kernel
theorem dX6_drawn_40 : decode cX6_drawn 40 = .ok (.ifCond .ne 6, 3) := by decide +kernel
theorem dX6_drawn_43 : decode cX6_drawn 43 = .ok (.ldc 71, 2) := by decide +kernel
theorem dX6_drawn_45 : decode cX6_drawn 45 = .ok (.ireturn, 1) := by decide +kernel
theorem dX6_drawn_46 : decode cX6_drawn 46 = .ok (.aload_n 0, 1) := by decide +kernel
theorem dX6_drawn_47 : decode cX6_drawn 47 = .ok (.getfield 49, 3) := by decide +kernel
theorem dX6_drawn_50 : decode cX6_drawn 50 = .ok (.aload_n 0, 1) := by decide +kernel
theorem dX6_drawn_51 : decode cX6_drawn 51 = .ok (.getfield 26, 3) := by decide +kernel
theorem dX6_drawn_54 : decode cX6_drawn 54 = .ok (.iload_n 1, 1) := by decide +kernel
theorem dX6_drawn_55 : decode cX6_drawn 55 = .ok (.iload_n 2, 1) := by decide +kernel
theorem dX6_drawn_56 : decode cX6_drawn 56 = .ok (.invokevirtual 292, 3) := by decide +kernel
theorem dX6_drawn_59 : decode cX6_drawn 59 = .ok (.astore 4, 2) := by decide +kernel
theorem dX6_drawn_61 : decode cX6_drawn 61 = .ok (.iload_n 3, 1) := by decide +kernel
theorem dX6_drawn_62 : decode cX6_drawn 62 = .ok (.ifCond .ne 11, 3) := by decide +kernel
theorem dX6_drawn_65 : decode cX6_drawn 65 = .ok (.aload 4, 2) := by decide +kernel
theorem dX6_drawn_67 : decode cX6_drawn 67 = .ok (.invokevirtual 154, 3) := by decide +kernel
theorem dX6_drawn_70 : decode cX6_drawn 70 = .ok (.goto 17, 3) := by decide +kernel
theorem dX6_drawn_73 : decode cX6_drawn 73 = .ok (.aload 4, 2) := by decide +kernel
theorem dX6_drawn_75 : decode cX6_drawn 75 = .ok (.getfield 296, 3) := by decide +kernel
theorem dX6_drawn_78 : decode cX6_drawn 78 = .ok (.aload 4, 2) := by decide +kernel
theorem dX6_drawn_80 : decode cX6_drawn 80 = .ok (.invokevirtual 228, 3) := by decide +kernel
theorem dX6_drawn_83 : decode cX6_drawn 83 = .ok (.invokestatic 168, 3) := by decide +kernel
theorem dX6_drawn_86 : decode cX6_drawn 86 = .ok (.isub, 1) := by decide +kernel
theorem dX6_drawn_87 : decode cX6_drawn 87 = .ok (.ireturn, 1) := by decide +kernel
theorem dX6_image_0 : decode cX6_image 0 = .ok (.iload_n 1, 1) := by decide +kernel
theorem dX6_image_1 : decode cX6_image 1 = .ok (.iconst 0, 1) := by decide +kernel
theorem dX6_image_2 : decode cX6_image 2 = .ok (.iconst 1, 1) := by decide +kernel
theorem dX6_image_3 : decode cX6_image 3 = .ok (.invokestatic 104, 3) := by decide +kernel
theorem dX6_image_6 : decode cX6_image 6 = .ok (.ifCond .ne 6, 3) := by decide +kernel
theorem dX6_image_9 : decode cX6_image 9 = .ok (.ldc 71, 2) := by decide +kernel
theorem dX6_image_11 : decode cX6_image 11 = .ok (.ireturn, 1) := by decide +kernel
theorem dX6_image_12 : decode cX6_image 12 = .ok (.aload_n 0, 1) := by decide +kernel
theorem dX6_image_13 : decode cX6_image 13 = .ok (.getfield 26, 3) := by decide +kernel
theorem dX6_image_16 : decode cX6_image 16 = .ok (.invokevirtual 141, 3) := by decide +kernel
theorem dX6_image_19 : decode cX6_image 19 = .ok (.ifCond .ne 6, 3) := by decide +kernel
theorem dX6_image_22 : decode cX6_image 22 = .ok (.ldc 137, 2) := by decide +kernel
theorem dX6_image_24 : decode cX6_image 24 = .ok (.ireturn, 1) := by decide +kernel
theorem dX6_image_25 : decode cX6_image 25 = .ok (.iload_n 1, 1) := by decide +kernel
theorem dX6_image_26 : decode cX6_image 26 = .ok (.ifCond .ne 10, 3) := by decide +kernel
theorem dX6_image_29 : decode cX6_image 29 = .ok (.aload_n 0, 1) := by decide +kernel
theorem dX6_image_30 : decode cX6_image 30 = .ok (.getfield 33, 3) := by decide +kernel
theorem dX6_image_33 : decode cX6_image 33 = .ok (.goto 7, 3) := by decide +kernel
theorem dX6_image_36 : decode cX6_image 36 = .ok (.aload_n 0, 1) := by decide +kernel
theorem dX6_image_37 : decode cX6_image 37 = .ok (.getfield 36, 3) := by decide +kernel
theorem dX6_image_40 : decode cX6_image 40 = .ok (.aload_n 0, 1) := by decide +kernel
theorem dX6_image_41 : decode cX6_image 41 = .ok (.getfield 26, 3) := by decide +kernel
theorem dX6_image_44 : decode cX6_image 44 = .ok (.invokevirtual 121, 3) := by decide +kernel
theorem dX6_image_47 : decode cX6_image 47 = .ok (.iconst 1, 1) := by decide +kernel
theorem dX6_image_48 : decode cX6_image 48 = .ok (.ireturn, 1) := by decide +kernel
theorem dX6_restore_0 : decode cX6_restore 0 = .ok (.iload_n 1, 1) := by decide +kernel
theorem dX6_restore_1 : decode cX6_restore 1 = .ok (.iconst 0, 1) := by decide +kernel
theorem dX6_restore_2 : decode cX6_restore 2 = .ok (.iconst 1, 1) := by decide +kernel
theorem dX6_restore_3 : decode cX6_restore 3 = .ok (.invokestatic 104, 3) := by decide +kernel
theorem dX6_restore_6 : decode cX6_restore 6 = .ok (.ifCond .ne 6, 3) := by decide +kernel
theorem dX6_restore_9 : decode cX6_restore 9 = .ok (.ldc 71, 2) := by decide +kernel
theorem dX6_restore_11 : decode cX6_restore 11 = .ok (.ireturn, 1) := by decide +kernel
theorem dX6_restore_12 : decode cX6_restore 12 = .ok (.iload_n 1, 1) := by decide +kernel
theorem dX6_restore_13 : decode cX6_restore 13 = .ok (.ifCond .ne 10, 3) := by decide +kernel
theorem dX6_restore_16 : decode cX6_restore 16 = .ok (.aload_n 0, 1) := by decide +kernel
theorem dX6_restore_17 : decode cX6_restore 17 = .ok (.getfield 33, 3) := by decide +kernel
theorem dX6_restore_20 : decode cX6_restore 20 = .ok (.goto 7, 3) := by decide +kernel
theorem dX6_restore_23 : decode cX6_restore 23 = .ok (.aload_n 0, 1) := by decide +kernel
theorem dX6_restore_24 : decode cX6_restore 24 = .ok (.getfield 36, 3) := by decide +kernel
theorem dX6_restore_27 : decode cX6_restore 27 = .ok (.astore_n 2, 1) := by decide +kernel
theorem dX6_restore_28 : decode cX6_restore 28 = .ok (.aload_n 2, 1) := by decide +kernel
theorem dX6_restore_29 : decode cX6_restore 29 = .ok (.invokevirtual 141, 3) := by decide +kernel
theorem dX6_restore_32 : decode cX6_restore 32 = .ok (.ifCond .ne 6, 3) := by decide +kernel
theorem dX6_restore_35 : decode cX6_restore 35 = .ok (.ldc 137, 2) := by decide +kernel
theorem dX6_restore_37 : decode cX6_restore 37 = .ok (.ireturn, 1) := by decide +kernel
theorem dX6_restore_38 : decode cX6_restore 38 = .ok (.aload_n 0, 1) := by decide +kernel
theorem dX6_restore_39 : decode cX6_restore 39 = .ok (.getfield 26, 3) := by decide +kernel
theorem dX6_restore_42 : decode cX6_restore 42 = .ok (.aload_n 2, 1) := by decide +kernel
theorem dX6_restore_43 : decode cX6_restore 43 = .ok (.invokevirtual 121, 3) := by decide +kernel
theorem dX6_restore_46 : decode cX6_restore 46 = .ok (.aload_n 0, 1) := by decide +kernel
theorem dX6_restore_47 : decode cX6_restore 47 = .ok (.getfield 42, 3) := by decide +kernel
theorem dX6_restore_50 : decode cX6_restore 50 = .ok (.invokevirtual 125, 3) := by decide +kernel
theorem dX6_restore_53 : decode cX6_restore 53 = .ok (.iconst 1, 1) := by decide +kernel
theorem dX6_restore_54 : decode cX6_restore 54 = .ok (.ireturn, 1) := by decide +kernel
theorem dX6_kind_0 : decode cX6_kind 0 = .ok (.aload_n 0, 1) := by decide +kernel
theorem dX6_kind_1 : decode cX6_kind 1 = .ok (.getfield 26, 3) := by decide +kernel
theorem dX6_kind_4 : decode cX6_kind 4 = .ok (.iload_n 1, 1) := by decide +kernel
theorem dX6_kind_5 : decode cX6_kind 5 = .ok (.invokevirtual 184, 3) := by decide +kernel
theorem dX6_kind_8 : decode cX6_kind 8 = .ok (.ifCond .eq 15, 3) := by decide +kernel
theorem dX6_kind_11 : decode cX6_kind 11 = .ok (.aload_n 0, 1) := by decide +kernel
theorem dX6_kind_12 : decode cX6_kind 12 = .ok (.getfield 26, 3) := by decide +kernel
theorem dX6_kind_15 : decode cX6_kind 15 = .ok (.getfield 299, 3) := by decide +kernel
theorem dX6_kind_18 : decode cX6_kind 18 = .ok (.iload_n 1, 1) := by decide +kernel
theorem dX6_kind_19 : decode cX6_kind 19 = .ok (.iaload, 1) := by decide +kernel
theorem dX6_kind_20 : decode cX6_kind 20 = .ok (.goto 5, 3) := by decide +kernel
theorem dX6_kind_23 : decode cX6_kind 23 = .ok (.ldc 71, 2) := by decide +kernel
theorem dX6_kind_25 : decode cX6_kind 25 = .ok (.ireturn, 1) := by decide +kernel
theorem dX6_as_0 : decode cX6_as 0 = .ok (.aload_n 0, 1) := by decide +kernel
theorem dX6_as_1 : decode cX6_as 1 = .ok (.getfield 26, 3) := by decide +kernel
theorem dX6_as_4 : decode cX6_as 4 = .ok (.iload_n 1, 1) := by decide +kernel
theorem dX6_as_5 : decode cX6_as 5 = .ok (.invokevirtual 184, 3) := by decide +kernel
theorem dX6_as_8 : decode cX6_as 8 = .ok (.ifCond .eq 12, 3) := by decide +kernel
theorem dX6_as_11 : decode cX6_as 11 = .ok (.iload_n 2, 1) := by decide +kernel
theorem dX6_as_12 : decode cX6_as 12 = .ok (.iconst 0, 1) := by decide +kernel
theorem dX6_as_13 : decode cX6_as 13 = .ok (.iconst 5, 1) := by decide +kernel
theorem dX6_as_14 : decode cX6_as 14 = .ok (.invokestatic 104, 3) := by decide +kernel
theorem dX6_as_17 : decode cX6_as 17 = .ok (.ifCond .ne 6, 3) := by decide +kernel
theorem dX6_as_20 : decode cX6_as 20 = .ok (.ldc 71, 2) := by decide +kernel
theorem dX6_as_22 : decode cX6_as 22 = .ok (.ireturn, 1) := by decide +kernel
theorem dX6_as_23 : decode cX6_as 23 = .ok (.aload_n 0, 1) := by decide +kernel
theorem dX6_as_24 : decode cX6_as 24 = .ok (.getfield 26, 3) := by decide +kernel
theorem dX6_as_27 : decode cX6_as 27 = .ok (.getfield 299, 3) := by decide +kernel
theorem dX6_as_30 : decode cX6_as 30 = .ok (.iload_n 1, 1) := by decide +kernel
theorem dX6_as_31 : decode cX6_as 31 = .ok (.iaload, 1) := by decide +kernel
theorem dX6_as_32 : decode cX6_as 32 = .ok (.iload_n 2, 1) := by decide +kernel
theorem dX6_as_33 : decode cX6_as 33 = .ok (.invokestatic 302, 3) := by decide +kernel
theorem dX6_as_36 : decode cX6_as 36 = .ok (.ifCond .eq 11, 3) := by decide +kernel
theorem dX6_as_39 : decode cX6_as 39 = .ok (.aload_n 0, 1) := by decide +kernel
theorem dX6_as_40 : decode cX6_as 40 = .ok (.iload_n 1, 1) := by decide +kernel
theorem dX6_as_41 : decode cX6_as 41 = .ok (.invokevirtual 80, 3) := by decide +kernel
theorem dX6_as_44 : decode cX6_as 44 = .ok (.goto 8, 3) := by decide +kernel
theorem dX6_as_47 : decode cX6_as 47 = .ok (.aload_n 0, 1) := by decide +kernel
theorem dX6_as_48 : decode cX6_as 48 = .ok (.iconst 3, 1) := by decide +kernel
theorem dX6_as_49 : decode cX6_as 49 = .ok (.invokevirtual 72, 3) := by decide +kernel
theorem dX6_as_52 : decode cX6_as 52 = .ok (.ireturn, 1) := by decide +kernel
theorem dX6_ask_0 : decode cX6_ask 0 = .ok (.aload_n 0, 1) := by decide +kernel
theorem dX6_ask_1 : decode cX6_ask 1 = .ok (.getfield 26, 3) := by decide +kernel
theorem dX6_ask_4 : decode cX6_ask 4 = .ok (.iload_n 1, 1) := by decide +kernel
theorem dX6_ask_5 : decode cX6_ask 5 = .ok (.invokevirtual 184, 3) := by decide +kernel
theorem dX6_ask_8 : decode cX6_ask 8 = .ok (.ifCond .eq 12, 3) := by decide +kernel
theorem dX6_ask_11 : decode cX6_ask 11 = .ok (.iload_n 2, 1) := by decide +kernel
theorem dX6_ask_12 : decode cX6_ask 12 = .ok (.iconst 0, 1) := by decide +kernel
theorem dX6_ask_13 : decode cX6_ask 13 = .ok (.iconst 1, 1) := by decide +kernel
theorem dX6_ask_14 : decode cX6_ask 14 = .ok (.invokestatic 104, 3) := by decide +kernel
theorem dX6_ask_17 : decode cX6_ask 17 = .ok (.ifCond .ne 6, 3) := by decide +kernel
theorem dX6_ask_20 : decode cX6_ask 20 = .ok (.ldc 71, 2) := by decide +kernel
theorem dX6_ask_22 : decode cX6_ask 22 = .ok (.ireturn, 1) := by decide +kernel
theorem dX6_ask_23 : decode cX6_ask 23 = .ok (.aload_n 0, 1) := by decide +kernel
theorem dX6_ask_24 : decode cX6_ask 24 = .ok (.getfield 56, 3) := by decide +kernel
theorem dX6_ask_27 : decode cX6_ask 27 = .ok (.iload_n 1, 1) := by decide +kernel
theorem dX6_ask_28 : decode cX6_ask 28 = .ok (.aload_n 0, 1) := by decide +kernel
theorem dX6_ask_29 : decode cX6_ask 29 = .ok (.getfield 26, 3) := by decide +kernel
theorem dX6_ask_32 : decode cX6_ask 32 = .ok (.getfield 299, 3) := by decide +kernel
theorem dX6_ask_35 : decode cX6_ask 35 = .ok (.iload_n 1, 1) := by decide +kernel
theorem dX6_ask_36 : decode cX6_ask 36 = .ok (.iaload, 1) := by decide +kernel
theorem dX6_ask_37 : decode cX6_ask 37 = .ok (.aload_n 0, 1) := by decide +kernel
theorem dX6_ask_38 : decode cX6_ask 38 = .ok (.getfield 26, 3) := by decide +kernel
theorem dX6_ask_41 : decode cX6_ask 41 = .ok (.getfield 190, 3) := by decide +kernel
theorem dX6_ask_44 : decode cX6_ask 44 = .ok (.iload_n 1, 1) := by decide +kernel
theorem dX6_ask_45 : decode cX6_ask 45 = .ok (.iaload, 1) := by decide +kernel
theorem dX6_ask_46 : decode cX6_ask 46 = .ok (.aload_n 0, 1) := by decide +kernel
theorem dX6_ask_47 : decode cX6_ask 47 = .ok (.getfield 26, 3) := by decide +kernel
theorem dX6_ask_50 : decode cX6_ask 50 = .ok (.getfield 208, 3) := by decide +kernel
theorem dX6_ask_53 : decode cX6_ask 53 = .ok (.iload_n 1, 1) := by decide +kernel
theorem dX6_ask_54 : decode cX6_ask 54 = .ok (.iaload, 1) := by decide +kernel
theorem dX6_ask_55 : decode cX6_ask 55 = .ok (.invokevirtual 306, 3) := by decide +kernel
theorem dX6_ask_58 : decode cX6_ask 58 = .ok (.iload_n 2, 1) := by decide +kernel
theorem dX6_ask_59 : decode cX6_ask 59 = .ok (.ifCond .ne 13, 3) := by decide +kernel
theorem dX6_ask_62 : decode cX6_ask 62 = .ok (.aload_n 0, 1) := by decide +kernel
theorem dX6_ask_63 : decode cX6_ask 63 = .ok (.getfield 56, 3) := by decide +kernel
theorem dX6_ask_66 : decode cX6_ask 66 = .ok (.invokevirtual 310, 3) := by decide +kernel
theorem dX6_ask_69 : decode cX6_ask 69 = .ok (.goto 10, 3) := by decide +kernel
theorem dX6_ask_72 : decode cX6_ask 72 = .ok (.aload_n 0, 1) := by decide +kernel
theorem dX6_ask_73 : decode cX6_ask 73 = .ok (.getfield 56, 3) := by decide +kernel
theorem dX6_ask_76 : decode cX6_ask 76 = .ok (.invokevirtual 313, 3) := by decide +kernel
theorem dX6_ask_79 : decode cX6_ask 79 = .ok (.ireturn, 1) := by decide +kernel
theorem dX6_trace_0 : decode cX6_trace 0 = .ok (.aload_n 0, 1) := by decide +kernel
theorem dX6_trace_1 : decode cX6_trace 1 = .ok (.getfield 56, 3) := by decide +kernel
theorem dX6_trace_4 : decode cX6_trace 4 = .ok (.iload_n 1, 1) := by decide +kernel
theorem dX6_trace_5 : decode cX6_trace 5 = .ok (.invokevirtual 316, 3) := by decide +kernel
theorem dX6_trace_8 : decode cX6_trace 8 = .ok (.ireturn, 1) := by decide +kernel
theorem dX6_count_0 : decode cX6_count 0 = .ok (.iload_n 1, 1) := by decide +kernel
theorem dX6_count_1 : decode cX6_count 1 = .ok (.tableswitch 112 0 7 #[47, 55, 63, 71, 79, 87, 96, 104], 47) := by decide +kernel
theorem dX6_count_48 : decode cX6_count 48 = .ok (.aload_n 0, 1) := by decide +kernel
theorem dX6_count_49 : decode cX6_count 49 = .ok (.getfield 10, 3) := by decide +kernel
theorem dX6_count_52 : decode cX6_count 52 = .ok (.invokevirtual 319, 3) := by decide +kernel
theorem dX6_count_55 : decode cX6_count 55 = .ok (.ireturn, 1) := by decide +kernel
theorem dX6_count_56 : decode cX6_count 56 = .ok (.aload_n 0, 1) := by decide +kernel
theorem dX6_count_57 : decode cX6_count 57 = .ok (.getfield 26, 3) := by decide +kernel
theorem dX6_count_60 : decode cX6_count 60 = .ok (.getfield 296, 3) := by decide +kernel
theorem dX6_count_63 : decode cX6_count 63 = .ok (.ireturn, 1) := by decide +kernel
theorem dX6_count_64 : decode cX6_count 64 = .ok (.aload_n 0, 1) := by decide +kernel
theorem dX6_count_65 : decode cX6_count 65 = .ok (.getfield 26, 3) := by decide +kernel
theorem dX6_count_68 : decode cX6_count 68 = .ok (.getfield 128, 3) := by decide +kernel
theorem dX6_count_71 : decode cX6_count 71 = .ok (.ireturn, 1) := by decide +kernel
theorem dX6_count_72 : decode cX6_count 72 = .ok (.aload_n 0, 1) := by decide +kernel
theorem dX6_count_73 : decode cX6_count 73 = .ok (.getfield 26, 3) := by decide +kernel
theorem dX6_count_76 : decode cX6_count 76 = .ok (.getfield 145, 3) := by decide +kernel
theorem dX6_count_79 : decode cX6_count 79 = .ok (.ireturn, 1) := by decide +kernel
theorem dX6_count_80 : decode cX6_count 80 = .ok (.aload_n 0, 1) := by decide +kernel
theorem dX6_count_81 : decode cX6_count 81 = .ok (.getfield 26, 3) := by decide +kernel
theorem dX6_count_84 : decode cX6_count 84 = .ok (.invokevirtual 154, 3) := by decide +kernel
theorem dX6_count_87 : decode cX6_count 87 = .ok (.ireturn, 1) := by decide +kernel
theorem dX6_count_88 : decode cX6_count 88 = .ok (.aload_n 0, 1) := by decide +kernel
theorem dX6_count_89 : decode cX6_count 89 = .ok (.getfield 26, 3) := by decide +kernel
theorem dX6_count_92 : decode cX6_count 92 = .ok (.iconst 0, 1) := by decide +kernel
theorem dX6_count_93 : decode cX6_count 93 = .ok (.invokevirtual 322, 3) := by decide +kernel
theorem dX6_count_96 : decode cX6_count 96 = .ok (.ireturn, 1) := by decide +kernel
theorem dX6_count_97 : decode cX6_count 97 = .ok (.aload_n 0, 1) := by decide +kernel
theorem dX6_count_98 : decode cX6_count 98 = .ok (.getfield 42, 3) := by decide +kernel
theorem dX6_count_101 : decode cX6_count 101 = .ok (.getfield 134, 3) := by decide +kernel
theorem dX6_count_104 : decode cX6_count 104 = .ok (.ireturn, 1) := by decide +kernel
theorem dX6_count_105 : decode cX6_count 105 = .ok (.aload_n 0, 1) := by decide +kernel
theorem dX6_count_106 : decode cX6_count 106 = .ok (.getfield 19, 3) := by decide +kernel
theorem dX6_count_109 : decode cX6_count 109 = .ok (.getfield 111, 3) := by decide +kernel
theorem dX6_count_112 : decode cX6_count 112 = .ok (.ireturn, 1) := by decide +kernel
theorem dX6_count_113 : decode cX6_count 113 = .ok (.ldc 71, 2) := by decide +kernel
theorem dX6_count_115 : decode cX6_count 115 = .ok (.ireturn, 1) := by decide +kernel
theorem dX6_status_0 : decode cX6_status 0 = .ok (.aload_n 0, 1) := by decide +kernel
theorem dX6_status_1 : decode cX6_status 1 = .ok (.getfield 60, 3) := by decide +kernel
theorem dX6_status_4 : decode cX6_status 4 = .ok (.ireturn, 1) := by decide +kernel
theorem dX6_found_0 : decode cX6_found 0 = .ok (.aload_n 0, 1) := by decide +kernel
theorem dX6_found_1 : decode cX6_found 1 = .ok (.iload_n 1, 1) := by decide +kernel
theorem dX6_found_2 : decode cX6_found 2 = .ok (.putfield 60, 3) := by decide +kernel
theorem dX6_found_5 : decode cX6_found 5 = .ok (.ldc_w 325, 3) := by decide +kernel
theorem dX6_found_8 : decode cX6_found 8 = .ok (.iload_n 1, 1) := by decide +kernel
theorem dX6_found_9 : decode cX6_found 9 = .ok (.isub, 1) := by decide +kernel
theorem dX6_found_10 : decode cX6_found 10 = .ok (.ireturn, 1) := by decide +kernel
theorem dX6_foundNothing_0 : decode cX6_foundNothing 0 = .ok (.aload_n 0, 1) := by decide +kernel
theorem dX6_foundNothing_1 : decode cX6_foundNothing 1 = .ok (.iconst 0, 1) := by decide +kernel
theorem dX6_foundNothing_2 : decode cX6_foundNothing 2 = .ok (.putfield 60, 3) := by decide +kernel
theorem dX6_foundNothing_5 : decode cX6_foundNothing 5 = .ok (.iload_n 1, 1) := by decide +kernel
theorem dX6_foundNothing_6 : decode cX6_foundNothing 6 = .ok (.ireturn, 1) := by decide +kernel
theorem dX6_isWithin_0 : decode cX6_isWithin 0 = .ok (.iload_n 0, 1) := by decide +kernel
theorem dX6_isWithin_1 : decode cX6_isWithin 1 = .ok (.iload_n 1, 1) := by decide +kernel
theorem dX6_isWithin_2 : decode cX6_isWithin 2 = .ok (.if_icmp .lt 12, 3) := by decide +kernel
theorem dX6_isWithin_5 : decode cX6_isWithin 5 = .ok (.iload_n 0, 1) := by decide +kernel
theorem dX6_isWithin_6 : decode cX6_isWithin 6 = .ok (.iload_n 2, 1) := by decide +kernel
theorem dX6_isWithin_7 : decode cX6_isWithin 7 = .ok (.if_icmp .gt 7, 3) := by decide +kernel
theorem dX6_isWithin_10 : decode cX6_isWithin 10 = .ok (.iconst 1, 1) := by decide +kernel
theorem dX6_isWithin_11 : decode cX6_isWithin 11 = .ok (.goto 4, 3) := by decide +kernel
theorem dX6_isWithin_14 : decode cX6_isWithin 14 = .ok (.iconst 0, 1) := by decide +kernel
theorem dX6_isWithin_15 : decode cX6_isWithin 15 = .ok (.ireturn, 1) := by decide +kernel
theorem dX6_bitOf_0 : decode cX6_bitOf 0 = .ok (.iload_n 0, 1) := by decide +kernel
theorem dX6_bitOf_1 : decode cX6_bitOf 1 = .ok (.iload_n 1, 1) := by decide +kernel
theorem dX6_bitOf_2 : decode cX6_bitOf 2 = .ok (.ishr, 1) := by decide +kernel
theorem dX6_bitOf_3 : decode cX6_bitOf 3 = .ok (.iconst 1, 1) := by decide +kernel
theorem dX6_bitOf_4 : decode cX6_bitOf 4 = .ok (.iand, 1) := by decide +kernel
theorem dX6_bitOf_5 : decode cX6_bitOf 5 = .ok (.ireturn, 1) := by decide +kernel
theorem dX6_isKind_0 : decode cX6_isKind 0 = .ok (.iload_n 0, 1) := by decide +kernel
theorem dX6_isKind_1 : decode cX6_isKind 1 = .ok (.istore_n 2, 1) := by decide +kernel
theorem dX6_isKind_2 : decode cX6_isKind 2 = .ok (.iconst 0, 1) := by decide +kernel
theorem dX6_isKind_3 : decode cX6_isKind 3 = .ok (.istore_n 3, 1) := by decide +kernel
theorem dX6_isKind_4 : decode cX6_isKind 4 = .ok (.iload_n 3, 1) := by decide +kernel
theorem dX6_isKind_5 : decode cX6_isKind 5 = .ok (.getstatic 326, 3) := by decide +kernel
theorem dX6_isKind_8 : decode cX6_isKind 8 = .ok (.arraylength, 1) := by decide +kernel
theorem dX6_isKind_9 : decode cX6_isKind 9 = .ok (.if_icmp .ge 33, 3) := by decide +kernel
theorem dX6_isKind_12 : decode cX6_isKind 12 = .ok (.iload_n 2, 1) := by decide +kernel
theorem dX6_isKind_13 : decode cX6_isKind 13 = .ok (.iload_n 1, 1) := by decide +kernel
theorem dX6_isKind_14 : decode cX6_isKind 14 = .ok (.if_icmp .ne 5, 3) := by decide +kernel
theorem dX6_isKind_17 : decode cX6_isKind 17 = .ok (.iconst 1, 1) := by decide +kernel
theorem dX6_isKind_18 : decode cX6_isKind 18 = .ok (.ireturn, 1) := by decide +kernel
theorem dX6_isKind_19 : decode cX6_isKind 19 = .ok (.iload_n 2, 1) := by decide +kernel
theorem dX6_isKind_20 : decode cX6_isKind 20 = .ok (.iconst 0, 1) := by decide +kernel
theorem dX6_isKind_21 : decode cX6_isKind 21 = .ok (.iconst 5, 1) := by decide +kernel
theorem dX6_isKind_22 : decode cX6_isKind 22 = .ok (.invokestatic 104, 3) := by decide +kernel
theorem dX6_isKind_25 : decode cX6_isKind 25 = .ok (.ifCond .ne 5, 3) := by decide +kernel
theorem dX6_isKind_28 : decode cX6_isKind 28 = .ok (.iconst 0, 1) := by decide +kernel
theorem dX6_isKind_29 : decode cX6_isKind 29 = .ok (.ireturn, 1) := by decide +kernel
theorem dX6_isKind_30 : decode cX6_isKind 30 = .ok (.getstatic 326, 3) := by decide +kernel
theorem dX6_isKind_33 : decode cX6_isKind 33 = .ok (.iload_n 2, 1) := by decide +kernel
theorem dX6_isKind_34 : decode cX6_isKind 34 = .ok (.iaload, 1) := by decide +kernel
theorem dX6_isKind_35 : decode cX6_isKind 35 = .ok (.istore_n 2, 1) := by decide +kernel
theorem dX6_isKind_36 : decode cX6_isKind 36 = .ok (.iinc 3 1, 3) := by decide +kernel
theorem dX6_isKind_39 : decode cX6_isKind 39 = .ok (.goto (-35), 3) := by decide +kernel
theorem dX6_isKind_42 : decode cX6_isKind 42 = .ok (.iconst 0, 1) := by decide +kernel
theorem dX6_isKind_43 : decode cX6_isKind 43 = .ok (.ireturn, 1) := by decide +kernel
theorem dX6_power_0 : decode cX6_power 0 = .ok (.lconst 1, 1) := by decide +kernel
theorem dX6_power_1 : decode cX6_power 1 = .ok (.lstore_n 2, 1) := by decide +kernel
theorem dX6_power_2 : decode cX6_power 2 = .ok (.iconst 0, 1) := by decide +kernel
theorem dX6_power_3 : decode cX6_power 3 = .ok (.istore 4, 2) := by decide +kernel
theorem dX6_power_5 : decode cX6_power 5 = .ok (.iload 4, 2) := by decide +kernel
theorem dX6_power_7 : decode cX6_power 7 = .ok (.iload_n 1, 1) := by decide +kernel
theorem dX6_power_8 : decode cX6_power 8 = .ok (.if_icmp .ge 14, 3) := by decide +kernel
theorem dX6_power_11 : decode cX6_power 11 = .ok (.lload_n 2, 1) := by decide +kernel
theorem dX6_power_12 : decode cX6_power 12 = .ok (.iload_n 0, 1) := by decide +kernel
theorem dX6_power_13 : decode cX6_power 13 = .ok (.i2l, 1) := by decide +kernel
theorem dX6_power_14 : decode cX6_power 14 = .ok (.lmul, 1) := by decide +kernel
theorem dX6_power_15 : decode cX6_power 15 = .ok (.lstore_n 2, 1) := by decide +kernel
theorem dX6_power_16 : decode cX6_power 16 = .ok (.iinc 4 1, 3) := by decide +kernel
theorem dX6_power_19 : decode cX6_power 19 = .ok (.goto (-14), 3) := by decide +kernel
theorem dX6_power_22 : decode cX6_power 22 = .ok (.lload_n 2, 1) := by decide +kernel
theorem dX6_power_23 : decode cX6_power 23 = .ok (.lreturn, 1) := by decide +kernel
theorem dX6_commonDivisor_0 : decode cX6_commonDivisor 0 = .ok (.lload_n 0, 1) := by decide +kernel
theorem dX6_commonDivisor_1 : decode cX6_commonDivisor 1 = .ok (.lstore 4, 2) := by decide +kernel
theorem dX6_commonDivisor_3 : decode cX6_commonDivisor 3 = .ok (.lload_n 2, 1) := by decide +kernel
theorem dX6_commonDivisor_4 : decode cX6_commonDivisor 4 = .ok (.lstore 6, 2) := by decide +kernel
theorem dX6_commonDivisor_6 : decode cX6_commonDivisor 6 = .ok (.iconst 0, 1) := by decide +kernel
theorem dX6_commonDivisor_7 : decode cX6_commonDivisor 7 = .ok (.istore 8, 2) := by decide +kernel
theorem dX6_commonDivisor_9 : decode cX6_commonDivisor 9 = .ok (.iload 8, 2) := by decide +kernel
theorem dX6_commonDivisor_11 : decode cX6_commonDivisor 11 = .ok (.sipush 1000, 3) := by decide +kernel
theorem dX6_commonDivisor_14 : decode cX6_commonDivisor 14 = .ok (.if_icmp .ge 31, 3) := by decide +kernel
theorem dX6_commonDivisor_17 : decode cX6_commonDivisor 17 = .ok (.lload 6, 2) := by decide +kernel
theorem dX6_commonDivisor_19 : decode cX6_commonDivisor 19 = .ok (.lconst 0, 1) := by decide +kernel
theorem dX6_commonDivisor_20 : decode cX6_commonDivisor 20 = .ok (.lcmp, 1) := by decide +kernel
theorem dX6_commonDivisor_21 : decode cX6_commonDivisor 21 = .ok (.ifCond .eq 24, 3) := by decide +kernel
theorem dX6_commonDivisor_24 : decode cX6_commonDivisor 24 = .ok (.lload 4, 2) := by decide +kernel
theorem dX6_commonDivisor_26 : decode cX6_commonDivisor 26 = .ok (.lload 6, 2) := by decide +kernel
theorem dX6_commonDivisor_28 : decode cX6_commonDivisor 28 = .ok (.lrem, 1) := by decide +kernel
theorem dX6_commonDivisor_29 : decode cX6_commonDivisor 29 = .ok (.lstore 9, 2) := by decide +kernel
theorem dX6_commonDivisor_31 : decode cX6_commonDivisor 31 = .ok (.lload 6, 2) := by decide +kernel
theorem dX6_commonDivisor_33 : decode cX6_commonDivisor 33 = .ok (.lstore 4, 2) := by decide +kernel
theorem dX6_commonDivisor_35 : decode cX6_commonDivisor 35 = .ok (.lload 9, 2) := by decide +kernel
theorem dX6_commonDivisor_37 : decode cX6_commonDivisor 37 = .ok (.lstore 6, 2) := by decide +kernel
theorem dX6_commonDivisor_39 : decode cX6_commonDivisor 39 = .ok (.iinc 8 1, 3) := by decide +kernel
theorem dX6_commonDivisor_42 : decode cX6_commonDivisor 42 = .ok (.goto (-33), 3) := by decide +kernel
theorem dX6_commonDivisor_45 : decode cX6_commonDivisor 45 = .ok (.lload 4, 2) := by decide +kernel
theorem dX6_commonDivisor_47 : decode cX6_commonDivisor 47 = .ok (.lreturn, 1) := by decide +kernel
