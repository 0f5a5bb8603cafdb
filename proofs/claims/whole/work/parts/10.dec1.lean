theorem dX0_remember_0 : decode cX0_remember 0 = .ok (.aload_n 0, 1) := by decide +kernel
theorem dX0_remember_1 : decode cX0_remember 1 = .ok (.aload_n 0, 1) := by decide +kernel
theorem dX0_remember_2 : decode cX0_remember 2 = .ok (.getfield 17, 3) := by decide +kernel
theorem dX0_remember_5 : decode cX0_remember 5 = .ok (.invokevirtual 25, 3) := by decide +kernel
theorem dX0_remember_8 : decode cX0_remember 8 = .ok (.astore_n 2, 1) := by decide +kernel
theorem dX0_remember_9 : decode cX0_remember 9 = .ok (.aload_n 2, 1) := by decide +kernel
theorem dX0_remember_10 : decode cX0_remember 10 = .ok (.ifnonnull 4, 3) := by decide +kernel
theorem dX0_remember_13 : decode cX0_remember 13 = .ok (.return_, 1) := by decide +kernel
theorem dX0_remember_14 : decode cX0_remember 14 = .ok (.aload_n 2, 1) := by decide +kernel
theorem dX0_remember_15 : decode cX0_remember 15 = .ok (.aload_n 1, 1) := by decide +kernel
theorem dX0_remember_16 : decode cX0_remember 16 = .ok (.invokevirtual 29, 3) := by decide +kernel
theorem dX0_remember_19 : decode cX0_remember 19 = .ok (.aload_n 0, 1) := by decide +kernel
theorem dX0_remember_20 : decode cX0_remember 20 = .ok (.aload_n 0, 1) := by decide +kernel
theorem dX0_remember_21 : decode cX0_remember 21 = .ok (.getfield 17, 3) := by decide +kernel
theorem dX0_remember_24 : decode cX0_remember 24 = .ok (.iconst 1, 1) := by decide +kernel
theorem dX0_remember_25 : decode cX0_remember 25 = .ok (.iadd, 1) := by decide +kernel
theorem dX0_remember_26 : decode cX0_remember 26 = .ok (.bipush 24, 2) := by decide +kernel
theorem dX0_remember_28 : decode cX0_remember 28 = .ok (.irem, 1) := by decide +kernel
theorem dX0_remember_29 : decode cX0_remember 29 = .ok (.putfield 17, 3) := by decide +kernel
theorem dX0_remember_32 : decode cX0_remember 32 = .ok (.aload_n 0, 1) := by decide +kernel
theorem dX0_remember_33 : decode cX0_remember 33 = .ok (.aload_n 0, 1) := by decide +kernel
theorem dX0_remember_34 : decode cX0_remember 34 = .ok (.getfield 21, 3) := by decide +kernel
theorem dX0_remember_37 : decode cX0_remember 37 = .ok (.iconst 1, 1) := by decide +kernel
theorem dX0_remember_38 : decode cX0_remember 38 = .ok (.iadd, 1) := by decide +kernel
theorem dX0_remember_39 : decode cX0_remember 39 = .ok (.bipush 24, 2) := by decide +kernel
theorem dX0_remember_41 : decode cX0_remember 41 = .ok (.invokestatic 33, 3) := by decide +kernel
theorem dX0_remember_44 : decode cX0_remember 44 = .ok (.putfield 21, 3) := by decide +kernel
theorem dX0_remember_47 : decode cX0_remember 47 = .ok (.return_, 1) := by decide +kernel
theorem dX0_bringBack_0 : decode cX0_bringBack 0 = .ok (.aload_n 0, 1) := by decide +kernel
theorem dX0_bringBack_1 : decode cX0_bringBack 1 = .ok (.getfield 17, 3) := by decide +kernel
theorem dX0_bringBack_4 : decode cX0_bringBack 4 = .ok (.bipush 24, 2) := by decide +kernel
theorem dX0_bringBack_6 : decode cX0_bringBack 6 = .ok (.iadd, 1) := by decide +kernel
theorem dX0_bringBack_7 : decode cX0_bringBack 7 = .ok (.iconst 1, 1) := by decide +kernel
theorem dX0_bringBack_8 : decode cX0_bringBack 8 = .ok (.isub, 1) := by decide +kernel
theorem dX0_bringBack_9 : decode cX0_bringBack 9 = .ok (.bipush 24, 2) := by decide +kernel
theorem dX0_bringBack_11 : decode cX0_bringBack 11 = .ok (.irem, 1) := by decide +kernel
theorem dX0_bringBack_12 : decode cX0_bringBack 12 = .ok (.istore_n 2, 1) := by decide +kernel
theorem dX0_bringBack_13 : decode cX0_bringBack 13 = .ok (.aload_n 0, 1) := by decide +kernel
theorem dX0_bringBack_14 : decode cX0_bringBack 14 = .ok (.iload_n 2, 1) := by decide +kernel
theorem dX0_bringBack_15 : decode cX0_bringBack 15 = .ok (.invokevirtual 25, 3) := by decide +kernel
theorem dX0_bringBack_18 : decode cX0_bringBack 18 = .ok (.astore_n 3, 1) := by decide +kernel
theorem dX0_bringBack_19 : decode cX0_bringBack 19 = .ok (.aload_n 3, 1) := by decide +kernel
theorem dX0_bringBack_20 : decode cX0_bringBack 20 = .ok (.ifnull 10, 3) := by decide +kernel
theorem dX0_bringBack_23 : decode cX0_bringBack 23 = .ok (.aload_n 0, 1) := by decide +kernel
theorem dX0_bringBack_24 : decode cX0_bringBack 24 = .ok (.getfield 21, 3) := by decide +kernel
theorem dX0_bringBack_27 : decode cX0_bringBack 27 = .ok (.ifCond .ne 4, 3) := by decide +kernel
theorem dX0_bringBack_30 : decode cX0_bringBack 30 = .ok (.return_, 1) := by decide +kernel
theorem dX0_bringBack_31 : decode cX0_bringBack 31 = .ok (.aload_n 1, 1) := by decide +kernel
theorem dX0_bringBack_32 : decode cX0_bringBack 32 = .ok (.aload_n 3, 1) := by decide +kernel
theorem dX0_bringBack_33 : decode cX0_bringBack 33 = .ok (.invokevirtual 29, 3) := by decide +kernel
theorem dX0_bringBack_36 : decode cX0_bringBack 36 = .ok (.aload_n 0, 1) := by decide +kernel
theorem dX0_bringBack_37 : decode cX0_bringBack 37 = .ok (.iload_n 2, 1) := by decide +kernel
theorem dX0_bringBack_38 : decode cX0_bringBack 38 = .ok (.putfield 17, 3) := by decide +kernel
theorem dX0_bringBack_41 : decode cX0_bringBack 41 = .ok (.aload_n 0, 1) := by decide +kernel
theorem dX0_bringBack_42 : decode cX0_bringBack 42 = .ok (.dup, 1) := by decide +kernel
theorem dX0_bringBack_43 : decode cX0_bringBack 43 = .ok (.getfield 21, 3) := by decide +kernel
theorem dX0_bringBack_46 : decode cX0_bringBack 46 = .ok (.iconst 1, 1) := by decide +kernel
theorem dX0_bringBack_47 : decode cX0_bringBack 47 = .ok (.isub, 1) := by decide +kernel
theorem dX0_bringBack_48 : decode cX0_bringBack 48 = .ok (.putfield 21, 3) := by decide +kernel
theorem dX0_bringBack_51 : decode cX0_bringBack 51 = .ok (.return_, 1) := by decide +kernel
theorem dX0_forget_0 : decode cX0_forget 0 = .ok (.aload_n 0, 1) := by decide +kernel
theorem dX0_forget_1 : decode cX0_forget 1 = .ok (.iconst 0, 1) := by decide +kernel
theorem dX0_forget_2 : decode cX0_forget 2 = .ok (.putfield 21, 3) := by decide +kernel
theorem dX0_forget_5 : decode cX0_forget 5 = .ok (.return_, 1) := by decide +kernel
theorem dX0_slotAt_0 : decode cX0_slotAt 0 = .ok (.iload_n 1, 1) := by decide +kernel
theorem dX0_slotAt_1 : decode cX0_slotAt 1 = .ok (.ifCond .lt 18, 3) := by decide +kernel
theorem dX0_slotAt_4 : decode cX0_slotAt 4 = .ok (.iload_n 1, 1) := by decide +kernel
theorem dX0_slotAt_5 : decode cX0_slotAt 5 = .ok (.bipush 24, 2) := by decide +kernel
theorem dX0_slotAt_7 : decode cX0_slotAt 7 = .ok (.if_icmp .ge 12, 3) := by decide +kernel
theorem dX0_slotAt_10 : decode cX0_slotAt 10 = .ok (.aload_n 0, 1) := by decide +kernel
theorem dX0_slotAt_11 : decode cX0_slotAt 11 = .ok (.getfield 11, 3) := by decide +kernel
theorem dX0_slotAt_14 : decode cX0_slotAt 14 = .ok (.iload_n 1, 1) := by decide +kernel
theorem dX0_slotAt_15 : decode cX0_slotAt 15 = .ok (.aaload, 1) := by decide +kernel
theorem dX0_slotAt_16 : decode cX0_slotAt 16 = .ok (.goto 4, 3) := by decide +kernel
theorem dX0_slotAt_19 : decode cX0_slotAt 19 = .ok (.aconst_null, 1) := by decide +kernel
theorem dX0_slotAt_20 : decode cX0_slotAt 20 = .ok (.areturn, 1) := by decide +kernel
theorem dX1_begin_0 : decode cX1_begin 0 = .ok (.aload_n 0, 1) := by decide +kernel
theorem dX1_begin_1 : decode cX1_begin 1 = .ok (.iconst 0, 1) := by decide +kernel
theorem dX1_begin_2 : decode cX1_begin 2 = .ok (.putfield 15, 3) := by decide +kernel
theorem dX1_begin_5 : decode cX1_begin 5 = .ok (.aload_n 0, 1) := by decide +kernel
theorem dX1_begin_6 : decode cX1_begin 6 = .ok (.iload_n 1, 1) := by decide +kernel
theorem dX1_begin_7 : decode cX1_begin 7 = .ok (.putfield 19, 3) := by decide +kernel
theorem dX1_begin_10 : decode cX1_begin 10 = .ok (.aload_n 0, 1) := by decide +kernel
theorem dX1_begin_11 : decode cX1_begin 11 = .ok (.iload_n 2, 1) := by decide +kernel
theorem dX1_begin_12 : decode cX1_begin 12 = .ok (.putfield 22, 3) := by decide +kernel
theorem dX1_begin_15 : decode cX1_begin 15 = .ok (.aload_n 0, 1) := by decide +kernel
theorem dX1_begin_16 : decode cX1_begin 16 = .ok (.iload_n 3, 1) := by decide +kernel
theorem dX1_begin_17 : decode cX1_begin 17 = .ok (.putfield 25, 3) := by decide +kernel
theorem dX1_begin_20 : decode cX1_begin 20 = .ok (.aload_n 0, 1) := by decide +kernel
theorem dX1_begin_21 : decode cX1_begin 21 = .ok (.iload 4, 2) := by decide +kernel
theorem dX1_begin_23 : decode cX1_begin 23 = .ok (.putfield 28, 3) := by decide +kernel
theorem dX1_begin_26 : decode cX1_begin 26 = .ok (.return_, 1) := by decide +kernel
theorem dX1_left_0 : decode cX1_left 0 = .ok (.iload_n 1, 1) := by decide +kernel
theorem dX1_left_1 : decode cX1_left 1 = .ok (.ifCond .lt 26, 3) := by decide +kernel
theorem dX1_left_4 : decode cX1_left 4 = .ok (.iload_n 1, 1) := by decide +kernel
theorem dX1_left_5 : decode cX1_left 5 = .ok (.aload_n 0, 1) := by decide +kernel
theorem dX1_left_6 : decode cX1_left 6 = .ok (.getfield 15, 3) := by decide +kernel
theorem dX1_left_9 : decode cX1_left 9 = .ok (.if_icmp .ge 18, 3) := by decide +kernel
theorem dX1_left_12 : decode cX1_left 12 = .ok (.iload_n 1, 1) := by decide +kernel
theorem dX1_left_13 : decode cX1_left 13 = .ok (.bipush 16, 2) := by decide +kernel
theorem dX1_left_15 : decode cX1_left 15 = .ok (.if_icmp .ge 12, 3) := by decide +kernel
theorem dX1_left_18 : decode cX1_left 18 = .ok (.aload_n 0, 1) := by decide +kernel
theorem dX1_left_19 : decode cX1_left 19 = .ok (.getfield 11, 3) := by decide +kernel
theorem dX1_left_22 : decode cX1_left 22 = .ok (.iload_n 1, 1) := by decide +kernel
theorem dX1_left_23 : decode cX1_left 23 = .ok (.iaload, 1) := by decide +kernel
theorem dX1_left_24 : decode cX1_left 24 = .ok (.goto 5, 3) := by decide +kernel
theorem dX1_left_27 : decode cX1_left 27 = .ok (.ldc 31, 2) := by decide +kernel
theorem dX1_left_29 : decode cX1_left 29 = .ok (.ireturn, 1) := by decide +kernel
theorem dX1_leave_0 : decode cX1_leave 0 = .ok (.aload_n 0, 1) := by decide +kernel
theorem dX1_leave_1 : decode cX1_leave 1 = .ok (.getfield 15, 3) := by decide +kernel
theorem dX1_leave_4 : decode cX1_leave 4 = .ok (.ifCond .lt 32, 3) := by decide +kernel
theorem dX1_leave_7 : decode cX1_leave 7 = .ok (.aload_n 0, 1) := by decide +kernel
theorem dX1_leave_8 : decode cX1_leave 8 = .ok (.getfield 15, 3) := by decide +kernel
theorem dX1_leave_11 : decode cX1_leave 11 = .ok (.bipush 16, 2) := by decide +kernel
theorem dX1_leave_13 : decode cX1_leave 13 = .ok (.if_icmp .ge 23, 3) := by decide +kernel
theorem dX1_leave_16 : decode cX1_leave 16 = .ok (.aload_n 0, 1) := by decide +kernel
theorem dX1_leave_17 : decode cX1_leave 17 = .ok (.getfield 11, 3) := by decide +kernel
theorem dX1_leave_20 : decode cX1_leave 20 = .ok (.aload_n 0, 1) := by decide +kernel
theorem dX1_leave_21 : decode cX1_leave 21 = .ok (.getfield 15, 3) := by decide +kernel
theorem dX1_leave_24 : decode cX1_leave 24 = .ok (.iload_n 1, 1) := by decide +kernel
theorem dX1_leave_25 : decode cX1_leave 25 = .ok (.iastore, 1) := by decide +kernel
theorem dX1_leave_26 : decode cX1_leave 26 = .ok (.aload_n 0, 1) := by decide +kernel
theorem dX1_leave_27 : decode cX1_leave 27 = .ok (.dup, 1) := by decide +kernel
theorem dX1_leave_28 : decode cX1_leave 28 = .ok (.getfield 15, 3) := by decide +kernel
theorem dX1_leave_31 : decode cX1_leave 31 = .ok (.iconst 1, 1) := by decide +kernel
theorem dX1_leave_32 : decode cX1_leave 32 = .ok (.iadd, 1) := by decide +kernel
theorem dX1_leave_33 : decode cX1_leave 33 = .ok (.putfield 15, 3) := by decide +kernel
theorem dX1_leave_36 : decode cX1_leave 36 = .ok (.return_, 1) := by decide +kernel
theorem dX1_sizeAsked_0 : decode cX1_sizeAsked 0 = .ok (.aload_n 0, 1) := by decide +kernel
theorem dX1_sizeAsked_1 : decode cX1_sizeAsked 1 = .ok (.getfield 22, 3) := by decide +kernel
theorem dX1_sizeAsked_4 : decode cX1_sizeAsked 4 = .ok (.iconst 4, 1) := by decide +kernel
theorem dX1_sizeAsked_5 : decode cX1_sizeAsked 5 = .ok (.invokestatic 32, 3) := by decide +kernel
theorem dX1_sizeAsked_8 : decode cX1_sizeAsked 8 = .ok (.ifCond .eq 10, 3) := by decide +kernel
theorem dX1_sizeAsked_11 : decode cX1_sizeAsked 11 = .ok (.aload_n 0, 1) := by decide +kernel
theorem dX1_sizeAsked_12 : decode cX1_sizeAsked 12 = .ok (.invokevirtual 36, 3) := by decide +kernel
theorem dX1_sizeAsked_15 : decode cX1_sizeAsked 15 = .ok (.goto 7, 3) := by decide +kernel
theorem dX1_sizeAsked_18 : decode cX1_sizeAsked 18 = .ok (.aload_n 0, 1) := by decide +kernel
theorem dX1_sizeAsked_19 : decode cX1_sizeAsked 19 = .ok (.invokevirtual 40, 3) := by decide +kernel
theorem dX1_sizeAsked_22 : decode cX1_sizeAsked 22 = .ok (.ireturn, 1) := by decide +kernel
theorem dX1_markAsked_0 : decode cX1_markAsked 0 = .ok (.aload_n 0, 1) := by decide +kernel
theorem dX1_markAsked_1 : decode cX1_markAsked 1 = .ok (.getfield 22, 3) := by decide +kernel
theorem dX1_markAsked_4 : decode cX1_markAsked 4 = .ok (.iconst 4, 1) := by decide +kernel
theorem dX1_markAsked_5 : decode cX1_markAsked 5 = .ok (.invokestatic 32, 3) := by decide +kernel
theorem dX1_markAsked_8 : decode cX1_markAsked 8 = .ok (.ifCond .eq 10, 3) := by decide +kernel
theorem dX1_markAsked_11 : decode cX1_markAsked 11 = .ok (.aload_n 0, 1) := by decide +kernel
theorem dX1_markAsked_12 : decode cX1_markAsked 12 = .ok (.invokevirtual 43, 3) := by decide +kernel
theorem dX1_markAsked_15 : decode cX1_markAsked 15 = .ok (.goto 7, 3) := by decide +kernel
theorem dX1_markAsked_18 : decode cX1_markAsked 18 = .ok (.aload_n 0, 1) := by decide +kernel
theorem dX1_markAsked_19 : decode cX1_markAsked 19 = .ok (.invokevirtual 46, 3) := by decide +kernel
theorem dX1_markAsked_22 : decode cX1_markAsked 22 = .ok (.ireturn, 1) := by decide +kernel
theorem dX1_sizeOfReader_0 : decode cX1_sizeOfReader 0 = .ok (.aload_n 0, 1) := by decide +kernel
theorem dX1_sizeOfReader_1 : decode cX1_sizeOfReader 1 = .ok (.getfield 22, 3) := by decide +kernel
theorem dX1_sizeOfReader_4 : decode cX1_sizeOfReader 4 = .ok (.iconst 2, 1) := by decide +kernel
theorem dX1_sizeOfReader_5 : decode cX1_sizeOfReader 5 = .ok (.if_icmp .ne 7, 3) := by decide +kernel
theorem dX1_sizeOfReader_8 : decode cX1_sizeOfReader 8 = .ok (.iconst 1, 1) := by decide +kernel
theorem dX1_sizeOfReader_9 : decode cX1_sizeOfReader 9 = .ok (.goto 4, 3) := by decide +kernel
theorem dX1_sizeOfReader_12 : decode cX1_sizeOfReader 12 = .ok (.iconst 0, 1) := by decide +kernel
theorem dX1_sizeOfReader_13 : decode cX1_sizeOfReader 13 = .ok (.istore_n 1, 1) := by decide +kernel
theorem dX1_sizeOfReader_14 : decode cX1_sizeOfReader 14 = .ok (.iload_n 1, 1) := by decide +kernel
theorem dX1_sizeOfReader_15 : decode cX1_sizeOfReader 15 = .ok (.ifCond .eq 9, 3) := by decide +kernel
theorem dX1_sizeOfReader_18 : decode cX1_sizeOfReader 18 = .ok (.aload_n 0, 1) := by decide +kernel
theorem dX1_sizeOfReader_19 : decode cX1_sizeOfReader 19 = .ok (.bipush 12, 2) := by decide +kernel
theorem dX1_sizeOfReader_21 : decode cX1_sizeOfReader 21 = .ok (.invokevirtual 49, 3) := by decide +kernel
theorem dX1_sizeOfReader_24 : decode cX1_sizeOfReader 24 = .ok (.aload_n 0, 1) := by decide +kernel
theorem dX1_sizeOfReader_25 : decode cX1_sizeOfReader 25 = .ok (.bipush 11, 2) := by decide +kernel
theorem dX1_sizeOfReader_27 : decode cX1_sizeOfReader 27 = .ok (.invokevirtual 49, 3) := by decide +kernel
theorem dX1_sizeOfReader_30 : decode cX1_sizeOfReader 30 = .ok (.aload_n 0, 1) := by decide +kernel
theorem dX1_sizeOfReader_31 : decode cX1_sizeOfReader 31 = .ok (.bipush 10, 2) := by decide +kernel
theorem dX1_sizeOfReader_33 : decode cX1_sizeOfReader 33 = .ok (.invokevirtual 49, 3) := by decide +kernel
theorem dX1_sizeOfReader_36 : decode cX1_sizeOfReader 36 = .ok (.aload_n 0, 1) := by decide +kernel
theorem dX1_sizeOfReader_37 : decode cX1_sizeOfReader 37 = .ok (.getfield 28, 3) := by decide +kernel
theorem dX1_sizeOfReader_40 : decode cX1_sizeOfReader 40 = .ok (.aload_n 0, 1) := by decide +kernel
theorem dX1_sizeOfReader_41 : decode cX1_sizeOfReader 41 = .ok (.invokevirtual 46, 3) := by decide +kernel
theorem dX1_sizeOfReader_44 : decode cX1_sizeOfReader 44 = .ok (.iadd, 1) := by decide +kernel
theorem dX1_sizeOfReader_45 : decode cX1_sizeOfReader 45 = .ok (.istore_n 2, 1) := by decide +kernel
theorem dX1_sizeOfReader_46 : decode cX1_sizeOfReader 46 = .ok (.iload_n 1, 1) := by decide +kernel
theorem dX1_sizeOfReader_47 : decode cX1_sizeOfReader 47 = .ok (.ifCond .eq 8, 3) := by decide +kernel
theorem dX1_sizeOfReader_50 : decode cX1_sizeOfReader 50 = .ok (.iload_n 2, 1) := by decide +kernel
theorem dX1_sizeOfReader_51 : decode cX1_sizeOfReader 51 = .ok (.ineg, 1) := by decide +kernel
theorem dX1_sizeOfReader_52 : decode cX1_sizeOfReader 52 = .ok (.goto 4, 3) := by decide +kernel
theorem dX1_sizeOfReader_55 : decode cX1_sizeOfReader 55 = .ok (.iload_n 2, 1) := by decide +kernel
theorem dX1_sizeOfReader_56 : decode cX1_sizeOfReader 56 = .ok (.ireturn, 1) := by decide +kernel
theorem dX1_sizeOfWanderer_0 : decode cX1_sizeOfWanderer 0 = .ok (.aload_n 0, 1) := by decide +kernel
theorem dX1_sizeOfWanderer_1 : decode cX1_sizeOfWanderer 1 = .ok (.getfield 22, 3) := by decide +kernel
theorem dX1_sizeOfWanderer_4 : decode cX1_sizeOfWanderer 4 = .ok (.iconst 5, 1) := by decide +kernel
theorem dX1_sizeOfWanderer_5 : decode cX1_sizeOfWanderer 5 = .ok (.if_icmp .ne 7, 3) := by decide +kernel
theorem dX1_sizeOfWanderer_8 : decode cX1_sizeOfWanderer 8 = .ok (.iconst 1, 1) := by decide +kernel
theorem dX1_sizeOfWanderer_9 : decode cX1_sizeOfWanderer 9 = .ok (.goto 4, 3) := by decide +kernel
theorem dX1_sizeOfWanderer_12 : decode cX1_sizeOfWanderer 12 = .ok (.iconst 0, 1) := by decide +kernel
theorem dX1_sizeOfWanderer_13 : decode cX1_sizeOfWanderer 13 = .ok (.istore_n 1, 1) := by decide +kernel
theorem dX1_sizeOfWanderer_14 : decode cX1_sizeOfWanderer 14 = .ok (.iload_n 1, 1) := by decide +kernel
theorem dX1_sizeOfWanderer_15 : decode cX1_sizeOfWanderer 15 = .ok (.ifCond .eq 9, 3) := by decide +kernel
theorem dX1_sizeOfWanderer_18 : decode cX1_sizeOfWanderer 18 = .ok (.aload_n 0, 1) := by decide +kernel
theorem dX1_sizeOfWanderer_19 : decode cX1_sizeOfWanderer 19 = .ok (.bipush 14, 2) := by decide +kernel
theorem dX1_sizeOfWanderer_21 : decode cX1_sizeOfWanderer 21 = .ok (.invokevirtual 49, 3) := by decide +kernel
theorem dX1_sizeOfWanderer_24 : decode cX1_sizeOfWanderer 24 = .ok (.aload_n 0, 1) := by decide +kernel
theorem dX1_sizeOfWanderer_25 : decode cX1_sizeOfWanderer 25 = .ok (.bipush 13, 2) := by decide +kernel
theorem dX1_sizeOfWanderer_27 : decode cX1_sizeOfWanderer 27 = .ok (.invokevirtual 49, 3) := by decide +kernel
theorem dX1_sizeOfWanderer_30 : decode cX1_sizeOfWanderer 30 = .ok (.aload_n 0, 1) := by decide +kernel
theorem dX1_sizeOfWanderer_31 : decode cX1_sizeOfWanderer 31 = .ok (.bipush 10, 2) := by decide +kernel
theorem dX1_sizeOfWanderer_33 : decode cX1_sizeOfWanderer 33 = .ok (.invokevirtual 49, 3) := by decide +kernel
theorem dX1_sizeOfWanderer_36 : decode cX1_sizeOfWanderer 36 = .ok (.aload_n 0, 1) := by decide +kernel
theorem dX1_sizeOfWanderer_37 : decode cX1_sizeOfWanderer 37 = .ok (.getfield 28, 3) := by decide +kernel
theorem dX1_sizeOfWanderer_40 : decode cX1_sizeOfWanderer 40 = .ok (.bipush 100, 2) := by decide +kernel
theorem dX1_sizeOfWanderer_42 : decode cX1_sizeOfWanderer 42 = .ok (.isub, 1) := by decide +kernel
theorem dX1_sizeOfWanderer_43 : decode cX1_sizeOfWanderer 43 = .ok (.istore_n 2, 1) := by decide +kernel
theorem dX1_sizeOfWanderer_44 : decode cX1_sizeOfWanderer 44 = .ok (.iload_n 1, 1) := by decide +kernel
theorem dX1_sizeOfWanderer_45 : decode cX1_sizeOfWanderer 45 = .ok (.ifCond .eq 9, 3) := by decide +kernel
theorem dX1_sizeOfWanderer_48 : decode cX1_sizeOfWanderer 48 = .ok (.iconst 2, 1) := by decide +kernel
theorem dX1_sizeOfWanderer_49 : decode cX1_sizeOfWanderer 49 = .ok (.iload_n 2, 1) := by decide +kernel
theorem dX1_sizeOfWanderer_50 : decode cX1_sizeOfWanderer 50 = .ok (.imul, 1) := by decide +kernel
theorem dX1_sizeOfWanderer_51 : decode cX1_sizeOfWanderer 51 = .ok (.goto 4, 3) := by decide +kernel
theorem dX1_sizeOfWanderer_54 : decode cX1_sizeOfWanderer 54 = .ok (.iload_n 2, 1) := by decide +kernel
theorem dX1_sizeOfWanderer_55 : decode cX1_sizeOfWanderer 55 = .ok (.ireturn, 1) := by decide +kernel
theorem dX1_markOfReader_0 : decode cX1_markOfReader 0 = .ok (.aload_n 0, 1) := by decide +kernel
theorem dX1_markOfReader_1 : decode cX1_markOfReader 1 = .ok (.getfield 22, 3) := by decide +kernel
theorem dX1_markOfReader_4 : decode cX1_markOfReader 4 = .ok (.iconst 2, 1) := by decide +kernel
theorem dX1_markOfReader_5 : decode cX1_markOfReader 5 = .ok (.if_icmp .ne 7, 3) := by decide +kernel
theorem dX1_markOfReader_8 : decode cX1_markOfReader 8 = .ok (.iconst 1, 1) := by decide +kernel
theorem dX1_markOfReader_9 : decode cX1_markOfReader 9 = .ok (.goto 4, 3) := by decide +kernel
theorem dX1_markOfReader_12 : decode cX1_markOfReader 12 = .ok (.iconst 0, 1) := by decide +kernel
theorem dX1_markOfReader_13 : decode cX1_markOfReader 13 = .ok (.istore_n 1, 1) := by decide +kernel
theorem dX1_markOfReader_14 : decode cX1_markOfReader 14 = .ok (.aload_n 0, 1) := by decide +kernel
theorem dX1_markOfReader_15 : decode cX1_markOfReader 15 = .ok (.getfield 22, 3) := by decide +kernel
theorem dX1_markOfReader_18 : decode cX1_markOfReader 18 = .ok (.iconst 3, 1) := by decide +kernel
theorem dX1_markOfReader_19 : decode cX1_markOfReader 19 = .ok (.if_icmp .ne 7, 3) := by decide +kernel
theorem dX1_markOfReader_22 : decode cX1_markOfReader 22 = .ok (.iconst 1, 1) := by decide +kernel
theorem dX1_markOfReader_23 : decode cX1_markOfReader 23 = .ok (.goto 4, 3) := by decide +kernel
theorem dX1_markOfReader_26 : decode cX1_markOfReader 26 = .ok (.iconst 0, 1) := by decide +kernel
theorem dX1_markOfReader_27 : decode cX1_markOfReader 27 = .ok (.istore_n 2, 1) := by decide +kernel
theorem dX1_markOfReader_28 : decode cX1_markOfReader 28 = .ok (.iload_n 1, 1) := by decide +kernel
theorem dX1_markOfReader_29 : decode cX1_markOfReader 29 = .ok (.ifCond .eq 9, 3) := by decide +kernel
theorem dX1_markOfReader_32 : decode cX1_markOfReader 32 = .ok (.aload_n 0, 1) := by decide +kernel
theorem dX1_markOfReader_33 : decode cX1_markOfReader 33 = .ok (.bipush 24, 2) := by decide +kernel
theorem dX1_markOfReader_35 : decode cX1_markOfReader 35 = .ok (.invokevirtual 49, 3) := by decide +kernel
theorem dX1_markOfReader_38 : decode cX1_markOfReader 38 = .ok (.iload_n 2, 1) := by decide +kernel
theorem dX1_markOfReader_39 : decode cX1_markOfReader 39 = .ok (.ifCond .eq 9, 3) := by decide +kernel
theorem dX1_markOfReader_42 : decode cX1_markOfReader 42 = .ok (.aload_n 0, 1) := by decide +kernel
theorem dX1_markOfReader_43 : decode cX1_markOfReader 43 = .ok (.bipush 22, 2) := by decide +kernel
theorem dX1_markOfReader_45 : decode cX1_markOfReader 45 = .ok (.invokevirtual 49, 3) := by decide +kernel
theorem dX1_markOfReader_48 : decode cX1_markOfReader 48 = .ok (.aload_n 0, 1) := by decide +kernel
theorem dX1_markOfReader_49 : decode cX1_markOfReader 49 = .ok (.bipush 21, 2) := by decide +kernel
theorem dX1_markOfReader_51 : decode cX1_markOfReader 51 = .ok (.invokevirtual 49, 3) := by decide +kernel
theorem dX1_markOfReader_54 : decode cX1_markOfReader 54 = .ok (.aload_n 0, 1) := by decide +kernel
theorem dX1_markOfReader_55 : decode cX1_markOfReader 55 = .ok (.bipush 20, 2) := by decide +kernel
theorem dX1_markOfReader_57 : decode cX1_markOfReader 57 = .ok (.invokevirtual 49, 3) := by decide +kernel
theorem dX1_markOfReader_60 : decode cX1_markOfReader 60 = .ok (.aload_n 0, 1) := by decide +kernel
theorem dX1_markOfReader_61 : decode cX1_markOfReader 61 = .ok (.getfield 19, 3) := by decide +kernel
theorem dX1_markOfReader_64 : decode cX1_markOfReader 64 = .ok (.aload_n 0, 1) := by decide +kernel
theorem dX1_markOfReader_65 : decode cX1_markOfReader 65 = .ok (.getfield 25, 3) := by decide +kernel
theorem dX1_markOfReader_68 : decode cX1_markOfReader 68 = .ok (.iadd, 1) := by decide +kernel
theorem dX1_markOfReader_69 : decode cX1_markOfReader 69 = .ok (.istore_n 3, 1) := by decide +kernel
theorem dX1_markOfReader_70 : decode cX1_markOfReader 70 = .ok (.iload_n 1, 1) := by decide +kernel
theorem dX1_markOfReader_71 : decode cX1_markOfReader 71 = .ok (.ifCond .eq 7, 3) := by decide +kernel
theorem dX1_markOfReader_74 : decode cX1_markOfReader 74 = .ok (.iconst 2, 1) := by decide +kernel
theorem dX1_markOfReader_75 : decode cX1_markOfReader 75 = .ok (.iload_n 3, 1) := by decide +kernel
theorem dX1_markOfReader_76 : decode cX1_markOfReader 76 = .ok (.imul, 1) := by decide +kernel
theorem dX1_markOfReader_77 : decode cX1_markOfReader 77 = .ok (.ireturn, 1) := by decide +kernel
theorem dX1_markOfReader_78 : decode cX1_markOfReader 78 = .ok (.iload_n 2, 1) := by decide +kernel
theorem dX1_markOfReader_79 : decode cX1_markOfReader 79 = .ok (.ifCond .eq 11, 3) := by decide +kernel
theorem dX1_markOfReader_82 : decode cX1_markOfReader 82 = .ok (.iload_n 3, 1) := by decide +kernel
theorem dX1_markOfReader_83 : decode cX1_markOfReader 83 = .ok (.sipush 1000, 3) := by decide +kernel
theorem dX1_markOfReader_86 : decode cX1_markOfReader 86 = .ok (.isub, 1) := by decide +kernel
theorem dX1_markOfReader_87 : decode cX1_markOfReader 87 = .ok (.goto 4, 3) := by decide +kernel
theorem dX1_markOfReader_90 : decode cX1_markOfReader 90 = .ok (.iload_n 3, 1) := by decide +kernel
theorem dX1_markOfReader_91 : decode cX1_markOfReader 91 = .ok (.ireturn, 1) := by decide +kernel
theorem dX1_markOfWanderer_0 : decode cX1_markOfWanderer 0 = .ok (.aload_n 0, 1) := by decide +kernel
theorem dX1_markOfWanderer_1 : decode cX1_markOfWanderer 1 = .ok (.bipush 23, 2) := by decide +kernel
theorem dX1_markOfWanderer_3 : decode cX1_markOfWanderer 3 = .ok (.invokevirtual 49, 3) := by decide +kernel
theorem dX1_markOfWanderer_6 : decode cX1_markOfWanderer 6 = .ok (.aload_n 0, 1) := by decide +kernel
theorem dX1_markOfWanderer_7 : decode cX1_markOfWanderer 7 = .ok (.bipush 20, 2) := by decide +kernel
theorem dX1_markOfWanderer_9 : decode cX1_markOfWanderer 9 = .ok (.invokevirtual 49, 3) := by decide +kernel
theorem dX1_markOfWanderer_12 : decode cX1_markOfWanderer 12 = .ok (.aload_n 0, 1) := by decide +kernel
theorem dX1_markOfWanderer_13 : decode cX1_markOfWanderer 13 = .ok (.getfield 19, 3) := by decide +kernel
theorem dX1_markOfWanderer_16 : decode cX1_markOfWanderer 16 = .ok (.aload_n 0, 1) := by decide +kernel
theorem dX1_markOfWanderer_17 : decode cX1_markOfWanderer 17 = .ok (.invokevirtual 36, 3) := by decide +kernel
theorem dX1_markOfWanderer_20 : decode cX1_markOfWanderer 20 = .ok (.isub, 1) := by decide +kernel
theorem dX1_markOfWanderer_21 : decode cX1_markOfWanderer 21 = .ok (.ireturn, 1) := by decide +kernel
theorem dX2_behind_0 : decode cX2_behind 0 = .ok (.aload_n 0, 1) := by decide +kernel
theorem dX2_behind_1 : decode cX2_behind 1 = .ok (.getfield 12, 3) := by decide +kernel
theorem dX2_behind_4 : decode cX2_behind 4 = .ok (.aload_n 1, 1) := by decide +kernel
theorem dX2_behind_5 : decode cX2_behind 5 = .ok (.invokevirtual 25, 3) := by decide +kernel
theorem dX2_behind_8 : decode cX2_behind 8 = .ok (.aload_n 0, 1) := by decide +kernel
theorem dX2_behind_9 : decode cX2_behind 9 = .ok (.getfield 12, 3) := by decide +kernel
theorem dX2_behind_12 : decode cX2_behind 12 = .ok (.iload_n 2, 1) := by decide +kernel
theorem dX2_behind_13 : decode cX2_behind 13 = .ok (.invokevirtual 29, 3) := by decide +kernel
theorem dX2_behind_16 : decode cX2_behind 16 = .ok (.aload_n 0, 1) := by decide +kernel
theorem dX2_behind_17 : decode cX2_behind 17 = .ok (.getfield 12, 3) := by decide +kernel
theorem dX2_behind_20 : decode cX2_behind 20 = .ok (.areturn, 1) := by decide +kernel
theorem dX2_nightsTillEmpty_0 : decode cX2_nightsTillEmpty 0 = .ok (.aload_n 0, 1) := by decide +kernel
theorem dX2_nightsTillEmpty_1 : decode cX2_nightsTillEmpty 1 = .ok (.getfield 12, 3) := by decide +kernel
theorem dX2_nightsTillEmpty_4 : decode cX2_nightsTillEmpty 4 = .ok (.aload_n 1, 1) := by decide +kernel
theorem dX2_nightsTillEmpty_5 : decode cX2_nightsTillEmpty 5 = .ok (.invokevirtual 25, 3) := by decide +kernel
theorem dX2_nightsTillEmpty_8 : decode cX2_nightsTillEmpty 8 = .ok (.iconst 0, 1) := by decide +kernel
theorem dX2_nightsTillEmpty_9 : decode cX2_nightsTillEmpty 9 = .ok (.istore_n 3, 1) := by decide +kernel
theorem dX2_nightsTillEmpty_10 : decode cX2_nightsTillEmpty 10 = .ok (.iload_n 3, 1) := by decide +kernel
theorem dX2_nightsTillEmpty_11 : decode cX2_nightsTillEmpty 11 = .ok (.bipush 60, 2) := by decide +kernel
theorem dX2_nightsTillEmpty_13 : decode cX2_nightsTillEmpty 13 = .ok (.if_icmp .gt 32, 3) := by decide +kernel
theorem dX2_nightsTillEmpty_16 : decode cX2_nightsTillEmpty 16 = .ok (.iload_n 2, 1) := by decide +kernel
theorem dX2_nightsTillEmpty_17 : decode cX2_nightsTillEmpty 17 = .ok (.aload_n 0, 1) := by decide +kernel
theorem dX2_nightsTillEmpty_18 : decode cX2_nightsTillEmpty 18 = .ok (.getfield 12, 3) := by decide +kernel
theorem dX2_nightsTillEmpty_21 : decode cX2_nightsTillEmpty 21 = .ok (.invokevirtual 33, 3) := by decide +kernel
theorem dX2_nightsTillEmpty_24 : decode cX2_nightsTillEmpty 24 = .ok (.iconst (-1), 1) := by decide +kernel
theorem dX2_nightsTillEmpty_25 : decode cX2_nightsTillEmpty 25 = .ok (.ixor, 1) := by decide +kernel
theorem dX2_nightsTillEmpty_26 : decode cX2_nightsTillEmpty 26 = .ok (.iand, 1) := by decide +kernel
theorem dX2_nightsTillEmpty_27 : decode cX2_nightsTillEmpty 27 = .ok (.ifCond .eq 5, 3) := by decide +kernel
theorem dX2_nightsTillEmpty_30 : decode cX2_nightsTillEmpty 30 = .ok (.iload_n 3, 1) := by decide +kernel
theorem dX2_nightsTillEmpty_31 : decode cX2_nightsTillEmpty 31 = .ok (.ireturn, 1) := by decide +kernel
theorem dX2_nightsTillEmpty_32 : decode cX2_nightsTillEmpty 32 = .ok (.aload_n 0, 1) := by decide +kernel
theorem dX2_nightsTillEmpty_33 : decode cX2_nightsTillEmpty 33 = .ok (.getfield 12, 3) := by decide +kernel
theorem dX2_nightsTillEmpty_36 : decode cX2_nightsTillEmpty 36 = .ok (.invokevirtual 37, 3) := by decide +kernel
theorem dX2_nightsTillEmpty_39 : decode cX2_nightsTillEmpty 39 = .ok (.iinc 3 1, 3) := by decide +kernel
theorem dX2_nightsTillEmpty_42 : decode cX2_nightsTillEmpty 42 = .ok (.goto (-32), 3) := by decide +kernel
theorem dX2_nightsTillEmpty_45 : decode cX2_nightsTillEmpty 45 = .ok (.ldc 40, 2) := by decide +kernel
theorem dX2_nightsTillEmpty_47 : decode cX2_nightsTillEmpty 47 = .ok (.ireturn, 1) := by decide +kernel
theorem dX2_emptyOneOf_0 : decode cX2_emptyOneOf 0 = .ok (.iload_n 1, 1) := by decide +kernel
theorem dX2_emptyOneOf_1 : decode cX2_emptyOneOf 1 = .ok (.aload_n 0, 1) := by decide +kernel
theorem dX2_emptyOneOf_2 : decode cX2_emptyOneOf 2 = .ok (.getfield 12, 3) := by decide +kernel
theorem dX2_emptyOneOf_5 : decode cX2_emptyOneOf 5 = .ok (.invokevirtual 33, 3) := by decide +kernel
theorem dX2_emptyOneOf_8 : decode cX2_emptyOneOf 8 = .ok (.iconst (-1), 1) := by decide +kernel
theorem dX2_emptyOneOf_9 : decode cX2_emptyOneOf 9 = .ok (.ixor, 1) := by decide +kernel
theorem dX2_emptyOneOf_10 : decode cX2_emptyOneOf 10 = .ok (.iand, 1) := by decide +kernel
theorem dX2_emptyOneOf_11 : decode cX2_emptyOneOf 11 = .ok (.istore_n 2, 1) := by decide +kernel
theorem dX2_emptyOneOf_12 : decode cX2_emptyOneOf 12 = .ok (.iconst 0, 1) := by decide +kernel
theorem dX2_emptyOneOf_13 : decode cX2_emptyOneOf 13 = .ok (.istore_n 3, 1) := by decide +kernel
theorem dX2_emptyOneOf_14 : decode cX2_emptyOneOf 14 = .ok (.iload_n 3, 1) := by decide +kernel
theorem dX2_emptyOneOf_15 : decode cX2_emptyOneOf 15 = .ok (.bipush 6, 2) := by decide +kernel
theorem dX2_emptyOneOf_17 : decode cX2_emptyOneOf 17 = .ok (.if_icmp .ge 19, 3) := by decide +kernel
theorem dX2_emptyOneOf_20 : decode cX2_emptyOneOf 20 = .ok (.iload_n 2, 1) := by decide +kernel
theorem dX2_emptyOneOf_21 : decode cX2_emptyOneOf 21 = .ok (.iload_n 3, 1) := by decide +kernel
theorem dX2_emptyOneOf_22 : decode cX2_emptyOneOf 22 = .ok (.ishr, 1) := by decide +kernel
theorem dX2_emptyOneOf_23 : decode cX2_emptyOneOf 23 = .ok (.iconst 1, 1) := by decide +kernel
theorem dX2_emptyOneOf_24 : decode cX2_emptyOneOf 24 = .ok (.iand, 1) := by decide +kernel
theorem dX2_emptyOneOf_25 : decode cX2_emptyOneOf 25 = .ok (.ifCond .eq 5, 3) := by decide +kernel
theorem dX2_emptyOneOf_28 : decode cX2_emptyOneOf 28 = .ok (.iload_n 3, 1) := by decide +kernel
theorem dX2_emptyOneOf_29 : decode cX2_emptyOneOf 29 = .ok (.ireturn, 1) := by decide +kernel
theorem dX2_emptyOneOf_30 : decode cX2_emptyOneOf 30 = .ok (.iinc 3 1, 3) := by decide +kernel
theorem dX2_emptyOneOf_33 : decode cX2_emptyOneOf 33 = .ok (.goto (-19), 3) := by decide +kernel
theorem dX2_emptyOneOf_36 : decode cX2_emptyOneOf 36 = .ok (.ldc 40, 2) := by decide +kernel
theorem dX2_emptyOneOf_38 : decode cX2_emptyOneOf 38 = .ok (.ireturn, 1) := by decide +kernel
theorem dX2_bestOrder_0 : decode cX2_bestOrder 0 = .ok (.iconst 0, 1) := by decide +kernel
theorem dX2_bestOrder_1 : decode cX2_bestOrder 1 = .ok (.istore 4, 2) := by decide +kernel
theorem dX2_bestOrder_3 : decode cX2_bestOrder 3 = .ok (.iload 4, 2) := by decide +kernel
theorem dX2_bestOrder_5 : decode cX2_bestOrder 5 = .ok (.bipush 6, 2) := by decide +kernel
theorem dX2_bestOrder_7 : decode cX2_bestOrder 7 = .ok (.if_icmp .ge 18, 3) := by decide +kernel
theorem dX2_bestOrder_10 : decode cX2_bestOrder 10 = .ok (.aload_n 0, 1) := by decide +kernel
theorem dX2_bestOrder_11 : decode cX2_bestOrder 11 = .ok (.getfield 18, 3) := by decide +kernel
theorem dX2_bestOrder_14 : decode cX2_bestOrder 14 = .ok (.iload 4, 2) := by decide +kernel
theorem dX2_bestOrder_16 : decode cX2_bestOrder 16 = .ok (.iload 4, 2) := by decide +kernel
theorem dX2_bestOrder_18 : decode cX2_bestOrder 18 = .ok (.iastore, 1) := by decide +kernel
theorem dX2_bestOrder_19 : decode cX2_bestOrder 19 = .ok (.iinc 4 1, 3) := by decide +kernel
theorem dX2_bestOrder_22 : decode cX2_bestOrder 22 = .ok (.goto (-19), 3) := by decide +kernel
theorem dX2_bestOrder_25 : decode cX2_bestOrder 25 = .ok (.iconst (-1), 1) := by decide +kernel
theorem dX2_bestOrder_26 : decode cX2_bestOrder 26 = .ok (.istore 4, 2) := by decide +kernel
theorem dX2_bestOrder_28 : decode cX2_bestOrder 28 = .ok (.iconst 0, 1) := by decide +kernel
theorem dX2_bestOrder_29 : decode cX2_bestOrder 29 = .ok (.istore 5, 2) := by decide +kernel
theorem dX2_bestOrder_31 : decode cX2_bestOrder 31 = .ok (.iload 5, 2) := by decide +kernel
theorem dX2_bestOrder_33 : decode cX2_bestOrder 33 = .ok (.sipush 720, 3) := by decide +kernel
theorem dX2_bestOrder_36 : decode cX2_bestOrder 36 = .ok (.if_icmp .ge 112, 3) := by decide +kernel
theorem dX2_bestOrder_39 : decode cX2_bestOrder 39 = .ok (.aload_n 0, 1) := by decide +kernel
theorem dX2_bestOrder_40 : decode cX2_bestOrder 40 = .ok (.getfield 12, 3) := by decide +kernel
theorem dX2_bestOrder_43 : decode cX2_bestOrder 43 = .ok (.aload_n 1, 1) := by decide +kernel
theorem dX2_bestOrder_44 : decode cX2_bestOrder 44 = .ok (.invokevirtual 25, 3) := by decide +kernel
theorem dX2_bestOrder_47 : decode cX2_bestOrder 47 = .ok (.iconst 0, 1) := by decide +kernel
theorem dX2_bestOrder_48 : decode cX2_bestOrder 48 = .ok (.istore 6, 2) := by decide +kernel
theorem dX2_bestOrder_50 : decode cX2_bestOrder 50 = .ok (.iload 6, 2) := by decide +kernel
theorem dX2_bestOrder_52 : decode cX2_bestOrder 52 = .ok (.bipush 6, 2) := by decide +kernel
theorem dX2_bestOrder_54 : decode cX2_bestOrder 54 = .ok (.if_icmp .ge 25, 3) := by decide +kernel
theorem dX2_bestOrder_57 : decode cX2_bestOrder 57 = .ok (.aload_n 0, 1) := by decide +kernel
theorem dX2_bestOrder_58 : decode cX2_bestOrder 58 = .ok (.getfield 12, 3) := by decide +kernel
theorem dX2_bestOrder_61 : decode cX2_bestOrder 61 = .ok (.aload_n 0, 1) := by decide +kernel
theorem dX2_bestOrder_62 : decode cX2_bestOrder 62 = .ok (.getfield 18, 3) := by decide +kernel
theorem dX2_bestOrder_65 : decode cX2_bestOrder 65 = .ok (.iload 6, 2) := by decide +kernel
theorem dX2_bestOrder_67 : decode cX2_bestOrder 67 = .ok (.iaload, 1) := by decide +kernel
theorem dX2_bestOrder_68 : decode cX2_bestOrder 68 = .ok (.iload 6, 2) := by decide +kernel
theorem dX2_bestOrder_70 : decode cX2_bestOrder 70 = .ok (.invokevirtual 41, 3) := by decide +kernel
theorem dX2_bestOrder_73 : decode cX2_bestOrder 73 = .ok (.iinc 6 1, 3) := by decide +kernel
theorem dX2_bestOrder_76 : decode cX2_bestOrder 76 = .ok (.goto (-26), 3) := by decide +kernel
theorem dX2_bestOrder_79 : decode cX2_bestOrder 79 = .ok (.aload_n 0, 1) := by decide +kernel
theorem dX2_bestOrder_80 : decode cX2_bestOrder 80 = .ok (.getfield 12, 3) := by decide +kernel
theorem dX2_bestOrder_83 : decode cX2_bestOrder 83 = .ok (.iload_n 3, 1) := by decide +kernel
theorem dX2_bestOrder_84 : decode cX2_bestOrder 84 = .ok (.invokevirtual 29, 3) := by decide +kernel
theorem dX2_bestOrder_87 : decode cX2_bestOrder 87 = .ok (.aload_n 0, 1) := by decide +kernel
theorem dX2_bestOrder_88 : decode cX2_bestOrder 88 = .ok (.getfield 12, 3) := by decide +kernel
theorem dX2_bestOrder_91 : decode cX2_bestOrder 91 = .ok (.iload_n 2, 1) := by decide +kernel
theorem dX2_bestOrder_92 : decode cX2_bestOrder 92 = .ok (.invokevirtual 45, 3) := by decide +kernel
theorem dX2_bestOrder_95 : decode cX2_bestOrder 95 = .ok (.istore 6, 2) := by decide +kernel
theorem dX2_bestOrder_97 : decode cX2_bestOrder 97 = .ok (.iload 6, 2) := by decide +kernel
theorem dX2_bestOrder_99 : decode cX2_bestOrder 99 = .ok (.iload 4, 2) := by decide +kernel
theorem dX2_bestOrder_101 : decode cX2_bestOrder 101 = .ok (.if_icmp .le 22, 3) := by decide +kernel
theorem dX2_bestOrder_104 : decode cX2_bestOrder 104 = .ok (.iload 6, 2) := by decide +kernel
theorem dX2_bestOrder_106 : decode cX2_bestOrder 106 = .ok (.istore 4, 2) := by decide +kernel
theorem dX2_bestOrder_108 : decode cX2_bestOrder 108 = .ok (.aload_n 0, 1) := by decide +kernel
theorem dX2_bestOrder_109 : decode cX2_bestOrder 109 = .ok (.getfield 18, 3) := by decide +kernel
theorem dX2_bestOrder_112 : decode cX2_bestOrder 112 = .ok (.iconst 0, 1) := by decide +kernel
theorem dX2_bestOrder_113 : decode cX2_bestOrder 113 = .ok (.aload_n 0, 1) := by decide +kernel
theorem dX2_bestOrder_114 : decode cX2_bestOrder 114 = .ok (.getfield 22, 3) := by decide +kernel
theorem dX2_bestOrder_117 : decode cX2_bestOrder 117 = .ok (.iconst 0, 1) := by decide +kernel
theorem dX2_bestOrder_118 : decode cX2_bestOrder 118 = .ok (.bipush 6, 2) := by decide +kernel
theorem dX2_bestOrder_120 : decode cX2_bestOrder 120 = .ok (.invokestatic 49, 3) := by decide +kernel
theorem dX2_bestOrder_123 : decode cX2_bestOrder 123 = .ok (.aload_n 0, 1) := by decide +kernel
theorem dX2_bestOrder_124 : decode cX2_bestOrder 124 = .ok (.aload_n 1, 1) := by decide +kernel
theorem dX2_bestOrder_125 : decode cX2_bestOrder 125 = .ok (.getfield 55, 3) := by decide +kernel
theorem dX2_bestOrder_128 : decode cX2_bestOrder 128 = .ok (.bipush 6, 2) := by decide +kernel
theorem dX2_bestOrder_130 : decode cX2_bestOrder 130 = .ok (.invokestatic 59, 3) := by decide +kernel
theorem dX2_bestOrder_133 : decode cX2_bestOrder 133 = .ok (.invokevirtual 65, 3) := by decide +kernel
theorem dX2_bestOrder_136 : decode cX2_bestOrder 136 = .ok (.ifCond .ne 6, 3) := by decide +kernel
theorem dX2_bestOrder_139 : decode cX2_bestOrder 139 = .ok (.goto 9, 3) := by decide +kernel
theorem dX2_bestOrder_142 : decode cX2_bestOrder 142 = .ok (.iinc 5 1, 3) := by decide +kernel
theorem dX2_bestOrder_145 : decode cX2_bestOrder 145 = .ok (.goto (-114), 3) := by decide +kernel
theorem dX2_bestOrder_148 : decode cX2_bestOrder 148 = .ok (.iload 4, 2) := by decide +kernel
theorem dX2_bestOrder_150 : decode cX2_bestOrder 150 = .ok (.ireturn, 1) := by decide +kernel
theorem dX2_nextOrder_0 : decode cX2_nextOrder 0 = .ok (.iload_n 1, 1) := by decide +kernel
theorem dX2_nextOrder_1 : decode cX2_nextOrder 1 = .ok (.iconst 2, 1) := by decide +kernel
theorem dX2_nextOrder_2 : decode cX2_nextOrder 2 = .ok (.isub, 1) := by decide +kernel
theorem dX2_nextOrder_3 : decode cX2_nextOrder 3 = .ok (.istore_n 2, 1) := by decide +kernel
theorem dX2_nextOrder_4 : decode cX2_nextOrder 4 = .ok (.iload_n 2, 1) := by decide +kernel
theorem dX2_nextOrder_5 : decode cX2_nextOrder 5 = .ok (.ifCond .lt 26, 3) := by decide +kernel
theorem dX2_nextOrder_8 : decode cX2_nextOrder 8 = .ok (.aload_n 0, 1) := by decide +kernel
theorem dX2_nextOrder_9 : decode cX2_nextOrder 9 = .ok (.getfield 18, 3) := by decide +kernel
theorem dX2_nextOrder_12 : decode cX2_nextOrder 12 = .ok (.iload_n 2, 1) := by decide +kernel
theorem dX2_nextOrder_13 : decode cX2_nextOrder 13 = .ok (.iaload, 1) := by decide +kernel
theorem dX2_nextOrder_14 : decode cX2_nextOrder 14 = .ok (.aload_n 0, 1) := by decide +kernel
theorem dX2_nextOrder_15 : decode cX2_nextOrder 15 = .ok (.getfield 18, 3) := by decide +kernel
theorem dX2_nextOrder_18 : decode cX2_nextOrder 18 = .ok (.iload_n 2, 1) := by decide +kernel
theorem dX2_nextOrder_19 : decode cX2_nextOrder 19 = .ok (.iconst 1, 1) := by decide +kernel
theorem dX2_nextOrder_20 : decode cX2_nextOrder 20 = .ok (.iadd, 1) := by decide +kernel
theorem dX2_nextOrder_21 : decode cX2_nextOrder 21 = .ok (.iaload, 1) := by decide +kernel
theorem dX2_nextOrder_22 : decode cX2_nextOrder 22 = .ok (.if_icmp .le 9, 3) := by decide +kernel
theorem dX2_nextOrder_25 : decode cX2_nextOrder 25 = .ok (.iinc 2 (-1), 3) := by decide +kernel
theorem dX2_nextOrder_28 : decode cX2_nextOrder 28 = .ok (.goto (-24), 3) := by decide +kernel
theorem dX2_nextOrder_31 : decode cX2_nextOrder 31 = .ok (.iload_n 2, 1) := by decide +kernel
theorem dX2_nextOrder_32 : decode cX2_nextOrder 32 = .ok (.ifCond .ge 5, 3) := by decide +kernel
theorem dX2_nextOrder_35 : decode cX2_nextOrder 35 = .ok (.iconst 0, 1) := by decide +kernel
theorem dX2_nextOrder_36 : decode cX2_nextOrder 36 = .ok (.ireturn, 1) := by decide +kernel
theorem dX2_nextOrder_37 : decode cX2_nextOrder 37 = .ok (.iload_n 1, 1) := by decide +kernel
theorem dX2_nextOrder_38 : decode cX2_nextOrder 38 = .ok (.iconst 1, 1) := by decide +kernel
theorem dX2_nextOrder_39 : decode cX2_nextOrder 39 = .ok (.isub, 1) := by decide +kernel
theorem dX2_nextOrder_40 : decode cX2_nextOrder 40 = .ok (.istore_n 3, 1) := by decide +kernel
theorem dX2_nextOrder_41 : decode cX2_nextOrder 41 = .ok (.iload_n 3, 1) := by decide +kernel
theorem dX2_nextOrder_42 : decode cX2_nextOrder 42 = .ok (.iload_n 2, 1) := by decide +kernel
theorem dX2_nextOrder_43 : decode cX2_nextOrder 43 = .ok (.if_icmp .le 24, 3) := by decide +kernel
theorem dX2_nextOrder_46 : decode cX2_nextOrder 46 = .ok (.aload_n 0, 1) := by decide +kernel
theorem dX2_nextOrder_47 : decode cX2_nextOrder 47 = .ok (.getfield 18, 3) := by decide +kernel
theorem dX2_nextOrder_50 : decode cX2_nextOrder 50 = .ok (.iload_n 3, 1) := by decide +kernel
theorem dX2_nextOrder_51 : decode cX2_nextOrder 51 = .ok (.iaload, 1) := by decide +kernel
theorem dX2_nextOrder_52 : decode cX2_nextOrder 52 = .ok (.aload_n 0, 1) := by decide +kernel
theorem dX2_nextOrder_53 : decode cX2_nextOrder 53 = .ok (.getfield 18, 3) := by decide +kernel
theorem dX2_nextOrder_56 : decode cX2_nextOrder 56 = .ok (.iload_n 2, 1) := by decide +kernel
theorem dX2_nextOrder_57 : decode cX2_nextOrder 57 = .ok (.iaload, 1) := by decide +kernel
theorem dX2_nextOrder_58 : decode cX2_nextOrder 58 = .ok (.if_icmp .ge 9, 3) := by decide +kernel
theorem dX2_nextOrder_61 : decode cX2_nextOrder 61 = .ok (.iinc 3 (-1), 3) := by decide +kernel
theorem dX2_nextOrder_64 : decode cX2_nextOrder 64 = .ok (.goto (-23), 3) := by decide +kernel
theorem dX2_nextOrder_67 : decode cX2_nextOrder 67 = .ok (.aload_n 0, 1) := by decide +kernel
theorem dX2_nextOrder_68 : decode cX2_nextOrder 68 = .ok (.iload_n 2, 1) := by decide +kernel
theorem dX2_nextOrder_69 : decode cX2_nextOrder 69 = .ok (.iload_n 3, 1) := by decide +kernel
theorem dX2_nextOrder_70 : decode cX2_nextOrder 70 = .ok (.invokevirtual 69, 3) := by decide +kernel
theorem dX2_nextOrder_73 : decode cX2_nextOrder 73 = .ok (.iload_n 2, 1) := by decide +kernel
theorem dX2_nextOrder_74 : decode cX2_nextOrder 74 = .ok (.iconst 1, 1) := by decide +kernel
theorem dX2_nextOrder_75 : decode cX2_nextOrder 75 = .ok (.iadd, 1) := by decide +kernel
theorem dX2_nextOrder_76 : decode cX2_nextOrder 76 = .ok (.istore 4, 2) := by decide +kernel
theorem dX2_nextOrder_78 : decode cX2_nextOrder 78 = .ok (.iload_n 1, 1) := by decide +kernel
theorem dX2_nextOrder_79 : decode cX2_nextOrder 79 = .ok (.iconst 1, 1) := by decide +kernel
theorem dX2_nextOrder_80 : decode cX2_nextOrder 80 = .ok (.isub, 1) := by decide +kernel
theorem dX2_nextOrder_81 : decode cX2_nextOrder 81 = .ok (.istore 5, 2) := by decide +kernel
theorem dX2_nextOrder_83 : decode cX2_nextOrder 83 = .ok (.iload 4, 2) := by decide +kernel
theorem dX2_nextOrder_85 : decode cX2_nextOrder 85 = .ok (.iload 5, 2) := by decide +kernel
theorem dX2_nextOrder_87 : decode cX2_nextOrder 87 = .ok (.if_icmp .ge 20, 3) := by decide +kernel
theorem dX2_nextOrder_90 : decode cX2_nextOrder 90 = .ok (.aload_n 0, 1) := by decide +kernel
theorem dX2_nextOrder_91 : decode cX2_nextOrder 91 = .ok (.iload 4, 2) := by decide +kernel
theorem dX2_nextOrder_93 : decode cX2_nextOrder 93 = .ok (.iload 5, 2) := by decide +kernel
theorem dX2_nextOrder_95 : decode cX2_nextOrder 95 = .ok (.invokevirtual 69, 3) := by decide +kernel
theorem dX2_nextOrder_98 : decode cX2_nextOrder 98 = .ok (.iinc 4 1, 3) := by decide +kernel
theorem dX2_nextOrder_101 : decode cX2_nextOrder 101 = .ok (.iinc 5 (-1), 3) := by decide +kernel
theorem dX2_nextOrder_104 : decode cX2_nextOrder 104 = .ok (.goto (-21), 3) := by decide +kernel
theorem dX2_nextOrder_107 : decode cX2_nextOrder 107 = .ok (.iconst 1, 1) := by decide +kernel
theorem dX2_nextOrder_108 : decode cX2_nextOrder 108 = .ok (.ireturn, 1) := by decide +kernel
theorem dX2_swap_0 : decode cX2_swap 0 = .ok (.aload_n 0, 1) := by decide +kernel
theorem dX2_swap_1 : decode cX2_swap 1 = .ok (.getfield 18, 3) := by decide +kernel
theorem dX2_swap_4 : decode cX2_swap 4 = .ok (.iload_n 1, 1) := by decide +kernel
theorem dX2_swap_5 : decode cX2_swap 5 = .ok (.iaload, 1) := by decide +kernel
theorem dX2_swap_6 : decode cX2_swap 6 = .ok (.istore_n 3, 1) := by decide +kernel
theorem dX2_swap_7 : decode cX2_swap 7 = .ok (.aload_n 0, 1) := by decide +kernel
theorem dX2_swap_8 : decode cX2_swap 8 = .ok (.getfield 18, 3) := by decide +kernel
theorem dX2_swap_11 : decode cX2_swap 11 = .ok (.iload_n 1, 1) := by decide +kernel
theorem dX2_swap_12 : decode cX2_swap 12 = .ok (.aload_n 0, 1) := by decide +kernel
theorem dX2_swap_13 : decode cX2_swap 13 = .ok (.getfield 18, 3) := by decide +kernel
theorem dX2_swap_16 : decode cX2_swap 16 = .ok (.iload_n 2, 1) := by decide +kernel
theorem dX2_swap_17 : decode cX2_swap 17 = .ok (.iaload, 1) := by decide +kernel
theorem dX2_swap_18 : decode cX2_swap 18 = .ok (.iastore, 1) := by decide +kernel
theorem dX2_swap_19 : decode cX2_swap 19 = .ok (.aload_n 0, 1) := by decide +kernel
theorem dX2_swap_20 : decode cX2_swap 20 = .ok (.getfield 18, 3) := by decide +kernel
theorem dX2_swap_23 : decode cX2_swap 23 = .ok (.iload_n 2, 1) := by decide +kernel
theorem dX2_swap_24 : decode cX2_swap 24 = .ok (.iload_n 3, 1) := by decide +kernel
theorem dX2_swap_25 : decode cX2_swap 25 = .ok (.iastore, 1) := by decide +kernel
theorem dX2_swap_26 : decode cX2_swap 26 = .ok (.return_, 1) := by decide +kernel
theorem dX2_pagesIfLit_0 : decode cX2_pagesIfLit 0 = .ok (.aload_n 0, 1) := by decide +kernel
theorem dX2_pagesIfLit_1 : decode cX2_pagesIfLit 1 = .ok (.getfield 12, 3) := by decide +kernel
theorem dX2_pagesIfLit_4 : decode cX2_pagesIfLit 4 = .ok (.aload_n 1, 1) := by decide +kernel
theorem dX2_pagesIfLit_5 : decode cX2_pagesIfLit 5 = .ok (.invokevirtual 25, 3) := by decide +kernel
theorem dX2_pagesIfLit_8 : decode cX2_pagesIfLit 8 = .ok (.aload_n 0, 1) := by decide +kernel
theorem dX2_pagesIfLit_9 : decode cX2_pagesIfLit 9 = .ok (.getfield 12, 3) := by decide +kernel
theorem dX2_pagesIfLit_12 : decode cX2_pagesIfLit 12 = .ok (.iload_n 2, 1) := by decide +kernel
theorem dX2_pagesIfLit_13 : decode cX2_pagesIfLit 13 = .ok (.putfield 72, 3) := by decide +kernel
theorem dX2_pagesIfLit_16 : decode cX2_pagesIfLit 16 = .ok (.aload_n 0, 1) := by decide +kernel
theorem dX2_pagesIfLit_17 : decode cX2_pagesIfLit 17 = .ok (.getfield 12, 3) := by decide +kernel
theorem dX2_pagesIfLit_20 : decode cX2_pagesIfLit 20 = .ok (.iload 4, 2) := by decide +kernel
theorem dX2_pagesIfLit_22 : decode cX2_pagesIfLit 22 = .ok (.invokevirtual 29, 3) := by decide +kernel
theorem dX2_pagesIfLit_25 : decode cX2_pagesIfLit 25 = .ok (.aload_n 0, 1) := by decide +kernel
theorem dX2_pagesIfLit_26 : decode cX2_pagesIfLit 26 = .ok (.getfield 12, 3) := by decide +kernel
theorem dX2_pagesIfLit_29 : decode cX2_pagesIfLit 29 = .ok (.getfield 75, 3) := by decide +kernel
theorem dX2_pagesIfLit_32 : decode cX2_pagesIfLit 32 = .ok (.iload_n 3, 1) := by decide +kernel
theorem dX2_pagesIfLit_33 : decode cX2_pagesIfLit 33 = .ok (.iaload, 1) := by decide +kernel
theorem dX2_pagesIfLit_34 : decode cX2_pagesIfLit 34 = .ok (.ireturn, 1) := by decide +kernel
theorem dX2_bestLamps_0 : decode cX2_bestLamps 0 = .ok (.iconst 0, 1) := by decide +kernel
theorem dX2_bestLamps_1 : decode cX2_bestLamps 1 = .ok (.istore 4, 2) := by decide +kernel
theorem dX2_bestLamps_3 : decode cX2_bestLamps 3 = .ok (.iconst (-1), 1) := by decide +kernel
theorem dX2_bestLamps_4 : decode cX2_bestLamps 4 = .ok (.istore 5, 2) := by decide +kernel
theorem dX2_bestLamps_6 : decode cX2_bestLamps 6 = .ok (.iconst 0, 1) := by decide +kernel
theorem dX2_bestLamps_7 : decode cX2_bestLamps 7 = .ok (.istore 6, 2) := by decide +kernel
theorem dX2_bestLamps_9 : decode cX2_bestLamps 9 = .ok (.iload 6, 2) := by decide +kernel
theorem dX2_bestLamps_11 : decode cX2_bestLamps 11 = .ok (.aload_n 1, 1) := by decide +kernel
theorem dX2_bestLamps_12 : decode cX2_bestLamps 12 = .ok (.invokevirtual 78, 3) := by decide +kernel
theorem dX2_bestLamps_15 : decode cX2_bestLamps 15 = .ok (.if_icmp .gt 82, 3) := by decide +kernel
theorem dX2_bestLamps_18 : decode cX2_bestLamps 18 = .ok (.iload 6, 2) := by decide +kernel
theorem dX2_bestLamps_20 : decode cX2_bestLamps 20 = .ok (.invokestatic 81, 3) := by decide +kernel
theorem dX2_bestLamps_23 : decode cX2_bestLamps 23 = .ok (.aload_n 1, 1) := by decide +kernel
theorem dX2_bestLamps_24 : decode cX2_bestLamps 24 = .ok (.getfield 86, 3) := by decide +kernel
theorem dX2_bestLamps_27 : decode cX2_bestLamps 27 = .ok (.if_icmp .le 6, 3) := by decide +kernel
theorem dX2_bestLamps_30 : decode cX2_bestLamps 30 = .ok (.goto 61, 3) := by decide +kernel
theorem dX2_bestLamps_33 : decode cX2_bestLamps 33 = .ok (.aload_n 0, 1) := by decide +kernel
theorem dX2_bestLamps_34 : decode cX2_bestLamps 34 = .ok (.aload_n 1, 1) := by decide +kernel
theorem dX2_bestLamps_35 : decode cX2_bestLamps 35 = .ok (.iload 6, 2) := by decide +kernel
theorem dX2_bestLamps_37 : decode cX2_bestLamps 37 = .ok (.iload_n 2, 1) := by decide +kernel
theorem dX2_bestLamps_38 : decode cX2_bestLamps 38 = .ok (.iload_n 3, 1) := by decide +kernel
theorem dX2_bestLamps_39 : decode cX2_bestLamps 39 = .ok (.invokevirtual 89, 3) := by decide +kernel
theorem dX2_bestLamps_42 : decode cX2_bestLamps 42 = .ok (.istore 7, 2) := by decide +kernel
theorem dX2_bestLamps_44 : decode cX2_bestLamps 44 = .ok (.iload 6, 2) := by decide +kernel
theorem dX2_bestLamps_46 : decode cX2_bestLamps 46 = .ok (.invokestatic 81, 3) := by decide +kernel
theorem dX2_bestLamps_49 : decode cX2_bestLamps 49 = .ok (.iload 4, 2) := by decide +kernel
theorem dX2_bestLamps_51 : decode cX2_bestLamps 51 = .ok (.invokestatic 81, 3) := by decide +kernel
theorem dX2_bestLamps_54 : decode cX2_bestLamps 54 = .ok (.if_icmp .ge 7, 3) := by decide +kernel
theorem dX2_bestLamps_57 : decode cX2_bestLamps 57 = .ok (.iconst 1, 1) := by decide +kernel
theorem dX2_bestLamps_58 : decode cX2_bestLamps 58 = .ok (.goto 4, 3) := by decide +kernel
theorem dX2_bestLamps_61 : decode cX2_bestLamps 61 = .ok (.iconst 0, 1) := by decide +kernel
theorem dX2_bestLamps_62 : decode cX2_bestLamps 62 = .ok (.istore 8, 2) := by decide +kernel
theorem dX2_bestLamps_64 : decode cX2_bestLamps 64 = .ok (.iload 7, 2) := by decide +kernel
theorem dX2_bestLamps_66 : decode cX2_bestLamps 66 = .ok (.iload 5, 2) := by decide +kernel
theorem dX2_bestLamps_68 : decode cX2_bestLamps 68 = .ok (.if_icmp .gt 15, 3) := by decide +kernel
theorem dX2_bestLamps_71 : decode cX2_bestLamps 71 = .ok (.iload 7, 2) := by decide +kernel
theorem dX2_bestLamps_73 : decode cX2_bestLamps 73 = .ok (.iload 5, 2) := by decide +kernel
theorem dX2_bestLamps_75 : decode cX2_bestLamps 75 = .ok (.if_icmp .ne 16, 3) := by decide +kernel
theorem dX2_bestLamps_78 : decode cX2_bestLamps 78 = .ok (.iload 8, 2) := by decide +kernel
theorem dX2_bestLamps_80 : decode cX2_bestLamps 80 = .ok (.ifCond .eq 11, 3) := by decide +kernel
theorem dX2_bestLamps_83 : decode cX2_bestLamps 83 = .ok (.iload 7, 2) := by decide +kernel
theorem dX2_bestLamps_85 : decode cX2_bestLamps 85 = .ok (.istore 5, 2) := by decide +kernel
theorem dX2_bestLamps_87 : decode cX2_bestLamps 87 = .ok (.iload 6, 2) := by decide +kernel
theorem dX2_bestLamps_89 : decode cX2_bestLamps 89 = .ok (.istore 4, 2) := by decide +kernel
theorem dX2_bestLamps_91 : decode cX2_bestLamps 91 = .ok (.iinc 6 1, 3) := by decide +kernel
theorem dX2_bestLamps_94 : decode cX2_bestLamps 94 = .ok (.goto (-85), 3) := by decide +kernel
theorem dX2_bestLamps_97 : decode cX2_bestLamps 97 = .ok (.iload 4, 2) := by decide +kernel
theorem dX2_bestLamps_99 : decode cX2_bestLamps 99 = .ok (.ireturn, 1) := by decide +kernel
theorem dX2_fewestCaught_0 : decode cX2_fewestCaught 0 = .ok (.iconst 1, 1) := by decide +kernel
theorem dX2_fewestCaught_1 : decode cX2_fewestCaught 1 = .ok (.aload_n 1, 1) := by decide +kernel
theorem dX2_fewestCaught_2 : decode cX2_fewestCaught 2 = .ok (.getfield 93, 3) := by decide +kernel
theorem dX2_fewestCaught_5 : decode cX2_fewestCaught 5 = .ok (.ishl, 1) := by decide +kernel
theorem dX2_fewestCaught_6 : decode cX2_fewestCaught 6 = .ok (.iconst 1, 1) := by decide +kernel
theorem dX2_fewestCaught_7 : decode cX2_fewestCaught 7 = .ok (.isub, 1) := by decide +kernel
theorem dX2_fewestCaught_8 : decode cX2_fewestCaught 8 = .ok (.aload_n 1, 1) := by decide +kernel
theorem dX2_fewestCaught_9 : decode cX2_fewestCaught 9 = .ok (.getfield 96, 3) := by decide +kernel
theorem dX2_fewestCaught_12 : decode cX2_fewestCaught 12 = .ok (.iconst (-1), 1) := by decide +kernel
theorem dX2_fewestCaught_13 : decode cX2_fewestCaught 13 = .ok (.ixor, 1) := by decide +kernel
theorem dX2_fewestCaught_14 : decode cX2_fewestCaught 14 = .ok (.iand, 1) := by decide +kernel
theorem dX2_fewestCaught_15 : decode cX2_fewestCaught 15 = .ok (.istore 4, 2) := by decide +kernel
theorem dX2_fewestCaught_17 : decode cX2_fewestCaught 17 = .ok (.iconst 0, 1) := by decide +kernel
theorem dX2_fewestCaught_18 : decode cX2_fewestCaught 18 = .ok (.istore 5, 2) := by decide +kernel
theorem dX2_fewestCaught_20 : decode cX2_fewestCaught 20 = .ok (.iload 5, 2) := by decide +kernel
theorem dX2_fewestCaught_22 : decode cX2_fewestCaught 22 = .ok (.iconst 1, 1) := by decide +kernel
theorem dX2_fewestCaught_23 : decode cX2_fewestCaught 23 = .ok (.aload_n 1, 1) := by decide +kernel
theorem dX2_fewestCaught_24 : decode cX2_fewestCaught 24 = .ok (.getfield 93, 3) := by decide +kernel
theorem dX2_fewestCaught_27 : decode cX2_fewestCaught 27 = .ok (.ishl, 1) := by decide +kernel
theorem dX2_fewestCaught_28 : decode cX2_fewestCaught 28 = .ok (.if_icmp .ge 101, 3) := by decide +kernel
theorem dX2_fewestCaught_31 : decode cX2_fewestCaught 31 = .ok (.iload 5, 2) := by decide +kernel
theorem dX2_fewestCaught_33 : decode cX2_fewestCaught 33 = .ok (.aload_n 1, 1) := by decide +kernel
theorem dX2_fewestCaught_34 : decode cX2_fewestCaught 34 = .ok (.getfield 96, 3) := by decide +kernel
theorem dX2_fewestCaught_37 : decode cX2_fewestCaught 37 = .ok (.iand, 1) := by decide +kernel
theorem dX2_fewestCaught_38 : decode cX2_fewestCaught 38 = .ok (.ifCond .ne 7, 3) := by decide +kernel
theorem dX2_fewestCaught_41 : decode cX2_fewestCaught 41 = .ok (.iconst 1, 1) := by decide +kernel
theorem dX2_fewestCaught_42 : decode cX2_fewestCaught 42 = .ok (.goto 4, 3) := by decide +kernel
theorem dX2_fewestCaught_45 : decode cX2_fewestCaught 45 = .ok (.iconst 0, 1) := by decide +kernel
theorem dX2_fewestCaught_46 : decode cX2_fewestCaught 46 = .ok (.istore 6, 2) := by decide +kernel
theorem dX2_fewestCaught_48 : decode cX2_fewestCaught 48 = .ok (.iload 6, 2) := by decide +kernel
theorem dX2_fewestCaught_50 : decode cX2_fewestCaught 50 = .ok (.ifCond .eq 73, 3) := by decide +kernel
theorem dX2_fewestCaught_53 : decode cX2_fewestCaught 53 = .ok (.iload 5, 2) := by decide +kernel
theorem dX2_fewestCaught_55 : decode cX2_fewestCaught 55 = .ok (.invokestatic 81, 3) := by decide +kernel
theorem dX2_fewestCaught_58 : decode cX2_fewestCaught 58 = .ok (.iload 4, 2) := by decide +kernel
theorem dX2_fewestCaught_60 : decode cX2_fewestCaught 60 = .ok (.invokestatic 81, 3) := by decide +kernel
theorem dX2_fewestCaught_63 : decode cX2_fewestCaught 63 = .ok (.if_icmp .ge 60, 3) := by decide +kernel
theorem dX2_fewestCaught_66 : decode cX2_fewestCaught 66 = .ok (.aload_n 0, 1) := by decide +kernel
theorem dX2_fewestCaught_67 : decode cX2_fewestCaught 67 = .ok (.getfield 12, 3) := by decide +kernel
theorem dX2_fewestCaught_70 : decode cX2_fewestCaught 70 = .ok (.aload_n 1, 1) := by decide +kernel
theorem dX2_fewestCaught_71 : decode cX2_fewestCaught 71 = .ok (.invokevirtual 25, 3) := by decide +kernel
theorem dX2_fewestCaught_74 : decode cX2_fewestCaught 74 = .ok (.aload_n 0, 1) := by decide +kernel
theorem dX2_fewestCaught_75 : decode cX2_fewestCaught 75 = .ok (.getfield 12, 3) := by decide +kernel
theorem dX2_fewestCaught_78 : decode cX2_fewestCaught 78 = .ok (.dup, 1) := by decide +kernel
theorem dX2_fewestCaught_79 : decode cX2_fewestCaught 79 = .ok (.getfield 96, 3) := by decide +kernel
theorem dX2_fewestCaught_82 : decode cX2_fewestCaught 82 = .ok (.iload 5, 2) := by decide +kernel
theorem dX2_fewestCaught_84 : decode cX2_fewestCaught 84 = .ok (.ior, 1) := by decide +kernel
theorem dX2_fewestCaught_85 : decode cX2_fewestCaught 85 = .ok (.putfield 96, 3) := by decide +kernel
theorem dX2_fewestCaught_88 : decode cX2_fewestCaught 88 = .ok (.aload_n 0, 1) := by decide +kernel
theorem dX2_fewestCaught_89 : decode cX2_fewestCaught 89 = .ok (.getfield 12, 3) := by decide +kernel
theorem dX2_fewestCaught_92 : decode cX2_fewestCaught 92 = .ok (.iload_n 3, 1) := by decide +kernel
theorem dX2_fewestCaught_93 : decode cX2_fewestCaught 93 = .ok (.invokevirtual 29, 3) := by decide +kernel
theorem dX2_fewestCaught_96 : decode cX2_fewestCaught 96 = .ok (.aload_n 0, 1) := by decide +kernel
theorem dX2_fewestCaught_97 : decode cX2_fewestCaught 97 = .ok (.getfield 12, 3) := by decide +kernel
theorem dX2_fewestCaught_100 : decode cX2_fewestCaught 100 = .ok (.getfield 75, 3) := by decide +kernel
theorem dX2_fewestCaught_103 : decode cX2_fewestCaught 103 = .ok (.iload_n 2, 1) := by decide +kernel
theorem dX2_fewestCaught_104 : decode cX2_fewestCaught 104 = .ok (.iaload, 1) := by decide +kernel
theorem dX2_fewestCaught_105 : decode cX2_fewestCaught 105 = .ok (.aload_n 1, 1) := by decide +kernel
theorem dX2_fewestCaught_106 : decode cX2_fewestCaught 106 = .ok (.getfield 75, 3) := by decide +kernel
theorem dX2_fewestCaught_109 : decode cX2_fewestCaught 109 = .ok (.iload_n 2, 1) := by decide +kernel
theorem dX2_fewestCaught_110 : decode cX2_fewestCaught 110 = .ok (.iaload, 1) := by decide +kernel
theorem dX2_fewestCaught_111 : decode cX2_fewestCaught 111 = .ok (.if_icmp .ne 8, 3) := by decide +kernel
theorem dX2_fewestCaught_114 : decode cX2_fewestCaught 114 = .ok (.iload 5, 2) := by decide +kernel
theorem dX2_fewestCaught_116 : decode cX2_fewestCaught 116 = .ok (.goto 5, 3) := by decide +kernel
theorem dX2_fewestCaught_119 : decode cX2_fewestCaught 119 = .ok (.iload 4, 2) := by decide +kernel
theorem dX2_fewestCaught_121 : decode cX2_fewestCaught 121 = .ok (.istore 4, 2) := by decide +kernel
theorem dX2_fewestCaught_123 : decode cX2_fewestCaught 123 = .ok (.iinc 5 1, 3) := by decide +kernel
theorem dX2_fewestCaught_126 : decode cX2_fewestCaught 126 = .ok (.goto (-106), 3) := by decide +kernel
theorem dX2_fewestCaught_129 : decode cX2_fewestCaught 129 = .ok (.iload 4, 2) := by decide +kernel
theorem dX2_fewestCaught_131 : decode cX2_fewestCaught 131 = .ok (.ireturn, 1) := by decide +kernel
theorem dX2_kindsThatFit_0 : decode cX2_kindsThatFit 0 = .ok (.iconst 0, 1) := by decide +kernel
theorem dX2_kindsThatFit_1 : decode cX2_kindsThatFit 1 = .ok (.istore 5, 2) := by decide +kernel
theorem dX2_kindsThatFit_3 : decode cX2_kindsThatFit 3 = .ok (.iconst 1, 1) := by decide +kernel
theorem dX2_kindsThatFit_4 : decode cX2_kindsThatFit 4 = .ok (.istore 6, 2) := by decide +kernel
theorem dX2_kindsThatFit_6 : decode cX2_kindsThatFit 6 = .ok (.iload 6, 2) := by decide +kernel
theorem dX2_kindsThatFit_8 : decode cX2_kindsThatFit 8 = .ok (.iconst 5, 1) := by decide +kernel
theorem dX2_kindsThatFit_9 : decode cX2_kindsThatFit 9 = .ok (.if_icmp .gt 51, 3) := by decide +kernel
theorem dX2_kindsThatFit_12 : decode cX2_kindsThatFit 12 = .ok (.aload_n 0, 1) := by decide +kernel
theorem dX2_kindsThatFit_13 : decode cX2_kindsThatFit 13 = .ok (.getfield 12, 3) := by decide +kernel
theorem dX2_kindsThatFit_16 : decode cX2_kindsThatFit 16 = .ok (.aload_n 1, 1) := by decide +kernel
theorem dX2_kindsThatFit_17 : decode cX2_kindsThatFit 17 = .ok (.invokevirtual 25, 3) := by decide +kernel
theorem dX2_kindsThatFit_20 : decode cX2_kindsThatFit 20 = .ok (.aload_n 0, 1) := by decide +kernel
theorem dX2_kindsThatFit_21 : decode cX2_kindsThatFit 21 = .ok (.getfield 12, 3) := by decide +kernel
theorem dX2_kindsThatFit_24 : decode cX2_kindsThatFit 24 = .ok (.getfield 99, 3) := by decide +kernel
theorem dX2_kindsThatFit_27 : decode cX2_kindsThatFit 27 = .ok (.iload_n 2, 1) := by decide +kernel
theorem dX2_kindsThatFit_28 : decode cX2_kindsThatFit 28 = .ok (.iload 6, 2) := by decide +kernel
theorem dX2_kindsThatFit_30 : decode cX2_kindsThatFit 30 = .ok (.iastore, 1) := by decide +kernel
theorem dX2_kindsThatFit_31 : decode cX2_kindsThatFit 31 = .ok (.iload 5, 2) := by decide +kernel
theorem dX2_kindsThatFit_33 : decode cX2_kindsThatFit 33 = .ok (.aload_n 0, 1) := by decide +kernel
theorem dX2_kindsThatFit_34 : decode cX2_kindsThatFit 34 = .ok (.iload_n 3, 1) := by decide +kernel
theorem dX2_kindsThatFit_35 : decode cX2_kindsThatFit 35 = .ok (.aload 4, 2) := by decide +kernel
theorem dX2_kindsThatFit_37 : decode cX2_kindsThatFit 37 = .ok (.invokevirtual 102, 3) := by decide +kernel
theorem dX2_kindsThatFit_40 : decode cX2_kindsThatFit 40 = .ok (.ifCond .eq 10, 3) := by decide +kernel
theorem dX2_kindsThatFit_43 : decode cX2_kindsThatFit 43 = .ok (.iconst 1, 1) := by decide +kernel
theorem dX2_kindsThatFit_44 : decode cX2_kindsThatFit 44 = .ok (.iload 6, 2) := by decide +kernel
theorem dX2_kindsThatFit_46 : decode cX2_kindsThatFit 46 = .ok (.ishl, 1) := by decide +kernel
theorem dX2_kindsThatFit_47 : decode cX2_kindsThatFit 47 = .ok (.goto 4, 3) := by decide +kernel
theorem dX2_kindsThatFit_50 : decode cX2_kindsThatFit 50 = .ok (.iconst 0, 1) := by decide +kernel
theorem dX2_kindsThatFit_51 : decode cX2_kindsThatFit 51 = .ok (.ior, 1) := by decide +kernel
theorem dX2_kindsThatFit_52 : decode cX2_kindsThatFit 52 = .ok (.istore 5, 2) := by decide +kernel
theorem dX2_kindsThatFit_54 : decode cX2_kindsThatFit 54 = .ok (.iinc 6 1, 3) := by decide +kernel
theorem dX2_kindsThatFit_57 : decode cX2_kindsThatFit 57 = .ok (.goto (-51), 3) := by decide +kernel
theorem dX2_kindsThatFit_60 : decode cX2_kindsThatFit 60 = .ok (.iload 5, 2) := by decide +kernel
theorem dX2_kindsThatFit_62 : decode cX2_kindsThatFit 62 = .ok (.ireturn, 1) := by decide +kernel
theorem dX2_placesThatFit_0 : decode cX2_placesThatFit 0 = .ok (.iconst 0, 1) := by decide +kernel
theorem dX2_placesThatFit_1 : decode cX2_placesThatFit 1 = .ok (.istore 5, 2) := by decide +kernel
theorem dX2_placesThatFit_3 : decode cX2_placesThatFit 3 = .ok (.iconst 0, 1) := by decide +kernel
theorem dX2_placesThatFit_4 : decode cX2_placesThatFit 4 = .ok (.istore 6, 2) := by decide +kernel
theorem dX2_placesThatFit_6 : decode cX2_placesThatFit 6 = .ok (.iload 6, 2) := by decide +kernel
theorem dX2_placesThatFit_8 : decode cX2_placesThatFit 8 = .ok (.aload_n 1, 1) := by decide +kernel
theorem dX2_placesThatFit_9 : decode cX2_placesThatFit 9 = .ok (.getfield 55, 3) := by decide +kernel
theorem dX2_placesThatFit_12 : decode cX2_placesThatFit 12 = .ok (.if_icmp .ge 51, 3) := by decide +kernel
theorem dX2_placesThatFit_15 : decode cX2_placesThatFit 15 = .ok (.aload_n 0, 1) := by decide +kernel
theorem dX2_placesThatFit_16 : decode cX2_placesThatFit 16 = .ok (.getfield 12, 3) := by decide +kernel
theorem dX2_placesThatFit_19 : decode cX2_placesThatFit 19 = .ok (.aload_n 1, 1) := by decide +kernel
theorem dX2_placesThatFit_20 : decode cX2_placesThatFit 20 = .ok (.invokevirtual 25, 3) := by decide +kernel
theorem dX2_placesThatFit_23 : decode cX2_placesThatFit 23 = .ok (.aload_n 0, 1) := by decide +kernel
theorem dX2_placesThatFit_24 : decode cX2_placesThatFit 24 = .ok (.getfield 12, 3) := by decide +kernel
theorem dX2_placesThatFit_27 : decode cX2_placesThatFit 27 = .ok (.getfield 106, 3) := by decide +kernel
theorem dX2_placesThatFit_30 : decode cX2_placesThatFit 30 = .ok (.iload_n 2, 1) := by decide +kernel
theorem dX2_placesThatFit_31 : decode cX2_placesThatFit 31 = .ok (.iload 6, 2) := by decide +kernel
theorem dX2_placesThatFit_33 : decode cX2_placesThatFit 33 = .ok (.iastore, 1) := by decide +kernel
theorem dX2_placesThatFit_34 : decode cX2_placesThatFit 34 = .ok (.iload 5, 2) := by decide +kernel
theorem dX2_placesThatFit_36 : decode cX2_placesThatFit 36 = .ok (.aload_n 0, 1) := by decide +kernel
theorem dX2_placesThatFit_37 : decode cX2_placesThatFit 37 = .ok (.iload_n 3, 1) := by decide +kernel
theorem dX2_placesThatFit_38 : decode cX2_placesThatFit 38 = .ok (.aload 4, 2) := by decide +kernel
theorem dX2_placesThatFit_40 : decode cX2_placesThatFit 40 = .ok (.invokevirtual 102, 3) := by decide +kernel
theorem dX2_placesThatFit_43 : decode cX2_placesThatFit 43 = .ok (.ifCond .eq 10, 3) := by decide +kernel
theorem dX2_placesThatFit_46 : decode cX2_placesThatFit 46 = .ok (.iconst 1, 1) := by decide +kernel
theorem dX2_placesThatFit_47 : decode cX2_placesThatFit 47 = .ok (.iload 6, 2) := by decide +kernel
theorem dX2_placesThatFit_49 : decode cX2_placesThatFit 49 = .ok (.ishl, 1) := by decide +kernel
theorem dX2_placesThatFit_50 : decode cX2_placesThatFit 50 = .ok (.goto 4, 3) := by decide +kernel
theorem dX2_placesThatFit_53 : decode cX2_placesThatFit 53 = .ok (.iconst 0, 1) := by decide +kernel
theorem dX2_placesThatFit_54 : decode cX2_placesThatFit 54 = .ok (.ior, 1) := by decide +kernel
theorem dX2_placesThatFit_55 : decode cX2_placesThatFit 55 = .ok (.istore 5, 2) := by decide +kernel
theorem dX2_placesThatFit_57 : decode cX2_placesThatFit 57 = .ok (.iinc 6 1, 3) := by decide +kernel
theorem dX2_placesThatFit_60 : decode cX2_placesThatFit 60 = .ok (.goto (-54), 3) := by decide +kernel
theorem dX2_placesThatFit_63 : decode cX2_placesThatFit 63 = .ok (.iload 5, 2) := by decide +kernel
theorem dX2_placesThatFit_65 : decode cX2_placesThatFit 65 = .ok (.ireturn, 1) := by decide +kernel
theorem dX2_pastesThatFit_0 : decode cX2_pastesThatFit 0 = .ok (.iconst 0, 1) := by decide +kernel
theorem dX2_pastesThatFit_1 : decode cX2_pastesThatFit 1 = .ok (.istore 5, 2) := by decide +kernel
theorem dX2_pastesThatFit_3 : decode cX2_pastesThatFit 3 = .ok (.iconst 0, 1) := by decide +kernel
theorem dX2_pastesThatFit_4 : decode cX2_pastesThatFit 4 = .ok (.istore 6, 2) := by decide +kernel
theorem dX2_pastesThatFit_6 : decode cX2_pastesThatFit 6 = .ok (.iload 6, 2) := by decide +kernel
theorem dX2_pastesThatFit_8 : decode cX2_pastesThatFit 8 = .ok (.bipush 9, 2) := by decide +kernel
theorem dX2_pastesThatFit_10 : decode cX2_pastesThatFit 10 = .ok (.if_icmp .gt 51, 3) := by decide +kernel
theorem dX2_pastesThatFit_13 : decode cX2_pastesThatFit 13 = .ok (.aload_n 0, 1) := by decide +kernel
theorem dX2_pastesThatFit_14 : decode cX2_pastesThatFit 14 = .ok (.getfield 12, 3) := by decide +kernel
theorem dX2_pastesThatFit_17 : decode cX2_pastesThatFit 17 = .ok (.aload_n 1, 1) := by decide +kernel
theorem dX2_pastesThatFit_18 : decode cX2_pastesThatFit 18 = .ok (.invokevirtual 25, 3) := by decide +kernel
theorem dX2_pastesThatFit_21 : decode cX2_pastesThatFit 21 = .ok (.aload_n 0, 1) := by decide +kernel
theorem dX2_pastesThatFit_22 : decode cX2_pastesThatFit 22 = .ok (.getfield 12, 3) := by decide +kernel
theorem dX2_pastesThatFit_25 : decode cX2_pastesThatFit 25 = .ok (.getfield 109, 3) := by decide +kernel
theorem dX2_pastesThatFit_28 : decode cX2_pastesThatFit 28 = .ok (.iload_n 2, 1) := by decide +kernel
theorem dX2_pastesThatFit_29 : decode cX2_pastesThatFit 29 = .ok (.iload 6, 2) := by decide +kernel
theorem dX2_pastesThatFit_31 : decode cX2_pastesThatFit 31 = .ok (.iastore, 1) := by decide +kernel
theorem dX2_pastesThatFit_32 : decode cX2_pastesThatFit 32 = .ok (.iload 5, 2) := by decide +kernel
theorem dX2_pastesThatFit_34 : decode cX2_pastesThatFit 34 = .ok (.aload_n 0, 1) := by decide +kernel
theorem dX2_pastesThatFit_35 : decode cX2_pastesThatFit 35 = .ok (.iload_n 3, 1) := by decide +kernel
theorem dX2_pastesThatFit_36 : decode cX2_pastesThatFit 36 = .ok (.aload 4, 2) := by decide +kernel
theorem dX2_pastesThatFit_38 : decode cX2_pastesThatFit 38 = .ok (.invokevirtual 102, 3) := by decide +kernel
theorem dX2_pastesThatFit_41 : decode cX2_pastesThatFit 41 = .ok (.ifCond .eq 10, 3) := by decide +kernel
theorem dX2_pastesThatFit_44 : decode cX2_pastesThatFit 44 = .ok (.iconst 1, 1) := by decide +kernel
theorem dX2_pastesThatFit_45 : decode cX2_pastesThatFit 45 = .ok (.iload 6, 2) := by decide +kernel
theorem dX2_pastesThatFit_47 : decode cX2_pastesThatFit 47 = .ok (.ishl, 1) := by decide +kernel
theorem dX2_pastesThatFit_48 : decode cX2_pastesThatFit 48 = .ok (.goto 4, 3) := by decide +kernel
theorem dX2_pastesThatFit_51 : decode cX2_pastesThatFit 51 = .ok (.iconst 0, 1) := by decide +kernel
theorem dX2_pastesThatFit_52 : decode cX2_pastesThatFit 52 = .ok (.ior, 1) := by decide +kernel
theorem dX2_pastesThatFit_53 : decode cX2_pastesThatFit 53 = .ok (.istore 5, 2) := by decide +kernel
theorem dX2_pastesThatFit_55 : decode cX2_pastesThatFit 55 = .ok (.iinc 6 1, 3) := by decide +kernel
theorem dX2_pastesThatFit_58 : decode cX2_pastesThatFit 58 = .ok (.goto (-52), 3) := by decide +kernel
theorem dX2_pastesThatFit_61 : decode cX2_pastesThatFit 61 = .ok (.iload 5, 2) := by decide +kernel
theorem dX2_pastesThatFit_63 : decode cX2_pastesThatFit 63 = .ok (.ireturn, 1) := by decide +kernel
theorem dX2_hungersThatFit_0 : decode cX2_hungersThatFit 0 = .ok (.iconst 0, 1) := by decide +kernel
theorem dX2_hungersThatFit_1 : decode cX2_hungersThatFit 1 = .ok (.istore 4, 2) := by decide +kernel
theorem dX2_hungersThatFit_3 : decode cX2_hungersThatFit 3 = .ok (.iconst 1, 1) := by decide +kernel
theorem dX2_hungersThatFit_4 : decode cX2_hungersThatFit 4 = .ok (.istore 5, 2) := by decide +kernel
theorem dX2_hungersThatFit_6 : decode cX2_hungersThatFit 6 = .ok (.iload 5, 2) := by decide +kernel
theorem dX2_hungersThatFit_8 : decode cX2_hungersThatFit 8 = .ok (.bipush 9, 2) := by decide +kernel
theorem dX2_hungersThatFit_10 : decode cX2_hungersThatFit 10 = .ok (.if_icmp .gt 48, 3) := by decide +kernel
theorem dX2_hungersThatFit_13 : decode cX2_hungersThatFit 13 = .ok (.aload_n 0, 1) := by decide +kernel
theorem dX2_hungersThatFit_14 : decode cX2_hungersThatFit 14 = .ok (.getfield 12, 3) := by decide +kernel
theorem dX2_hungersThatFit_17 : decode cX2_hungersThatFit 17 = .ok (.aload_n 1, 1) := by decide +kernel
theorem dX2_hungersThatFit_18 : decode cX2_hungersThatFit 18 = .ok (.invokevirtual 25, 3) := by decide +kernel
theorem dX2_hungersThatFit_21 : decode cX2_hungersThatFit 21 = .ok (.aload_n 0, 1) := by decide +kernel
theorem dX2_hungersThatFit_22 : decode cX2_hungersThatFit 22 = .ok (.getfield 12, 3) := by decide +kernel
theorem dX2_hungersThatFit_25 : decode cX2_hungersThatFit 25 = .ok (.iload 5, 2) := by decide +kernel
theorem dX2_hungersThatFit_27 : decode cX2_hungersThatFit 27 = .ok (.putfield 112, 3) := by decide +kernel
theorem dX2_hungersThatFit_30 : decode cX2_hungersThatFit 30 = .ok (.iload 4, 2) := by decide +kernel
theorem dX2_hungersThatFit_32 : decode cX2_hungersThatFit 32 = .ok (.aload_n 0, 1) := by decide +kernel
theorem dX2_hungersThatFit_33 : decode cX2_hungersThatFit 33 = .ok (.iload_n 2, 1) := by decide +kernel
theorem dX2_hungersThatFit_34 : decode cX2_hungersThatFit 34 = .ok (.aload_n 3, 1) := by decide +kernel
theorem dX2_hungersThatFit_35 : decode cX2_hungersThatFit 35 = .ok (.invokevirtual 102, 3) := by decide +kernel
theorem dX2_hungersThatFit_38 : decode cX2_hungersThatFit 38 = .ok (.ifCond .eq 10, 3) := by decide +kernel
theorem dX2_hungersThatFit_41 : decode cX2_hungersThatFit 41 = .ok (.iconst 1, 1) := by decide +kernel
theorem dX2_hungersThatFit_42 : decode cX2_hungersThatFit 42 = .ok (.iload 5, 2) := by decide +kernel
theorem dX2_hungersThatFit_44 : decode cX2_hungersThatFit 44 = .ok (.ishl, 1) := by decide +kernel
theorem dX2_hungersThatFit_45 : decode cX2_hungersThatFit 45 = .ok (.goto 4, 3) := by decide +kernel
theorem dX2_hungersThatFit_48 : decode cX2_hungersThatFit 48 = .ok (.iconst 0, 1) := by decide +kernel
theorem dX2_hungersThatFit_49 : decode cX2_hungersThatFit 49 = .ok (.ior, 1) := by decide +kernel
theorem dX2_hungersThatFit_50 : decode cX2_hungersThatFit 50 = .ok (.istore 4, 2) := by decide +kernel
theorem dX2_hungersThatFit_52 : decode cX2_hungersThatFit 52 = .ok (.iinc 5 1, 3) := by decide +kernel
theorem dX2_hungersThatFit_55 : decode cX2_hungersThatFit 55 = .ok (.goto (-49), 3) := by decide +kernel
theorem dX2_hungersThatFit_58 : decode cX2_hungersThatFit 58 = .ok (.iload 4, 2) := by decide +kernel
theorem dX2_hungersThatFit_60 : decode cX2_hungersThatFit 60 = .ok (.ireturn, 1) := by decide +kernel
theorem dX2_fits_0 : decode cX2_fits 0 = .ok (.iconst 0, 1) := by decide +kernel
theorem dX2_fits_1 : decode cX2_fits 1 = .ok (.istore_n 3, 1) := by decide +kernel
theorem dX2_fits_2 : decode cX2_fits 2 = .ok (.iload_n 3, 1) := by decide +kernel
theorem dX2_fits_3 : decode cX2_fits 3 = .ok (.aload_n 2, 1) := by decide +kernel
theorem dX2_fits_4 : decode cX2_fits 4 = .ok (.invokevirtual 115, 3) := by decide +kernel
theorem dX2_fits_7 : decode cX2_fits 7 = .ok (.if_icmp .ge 35, 3) := by decide +kernel
theorem dX2_fits_10 : decode cX2_fits 10 = .ok (.aload_n 0, 1) := by decide +kernel
theorem dX2_fits_11 : decode cX2_fits 11 = .ok (.getfield 12, 3) := by decide +kernel
theorem dX2_fits_14 : decode cX2_fits 14 = .ok (.invokevirtual 37, 3) := by decide +kernel
theorem dX2_fits_17 : decode cX2_fits 17 = .ok (.aload_n 0, 1) := by decide +kernel
theorem dX2_fits_18 : decode cX2_fits 18 = .ok (.getfield 12, 3) := by decide +kernel
theorem dX2_fits_21 : decode cX2_fits 21 = .ok (.getfield 75, 3) := by decide +kernel
theorem dX2_fits_24 : decode cX2_fits 24 = .ok (.iload_n 1, 1) := by decide +kernel
theorem dX2_fits_25 : decode cX2_fits 25 = .ok (.iaload, 1) := by decide +kernel
theorem dX2_fits_26 : decode cX2_fits 26 = .ok (.aload_n 2, 1) := by decide +kernel
theorem dX2_fits_27 : decode cX2_fits 27 = .ok (.iload_n 3, 1) := by decide +kernel
theorem dX2_fits_28 : decode cX2_fits 28 = .ok (.invokevirtual 120, 3) := by decide +kernel
theorem dX2_fits_31 : decode cX2_fits 31 = .ok (.if_icmp .eq 5, 3) := by decide +kernel
theorem dX2_fits_34 : decode cX2_fits 34 = .ok (.iconst 0, 1) := by decide +kernel
theorem dX2_fits_35 : decode cX2_fits 35 = .ok (.ireturn, 1) := by decide +kernel
theorem dX2_fits_36 : decode cX2_fits 36 = .ok (.iinc 3 1, 3) := by decide +kernel
theorem dX2_fits_39 : decode cX2_fits 39 = .ok (.goto (-37), 3) := by decide +kernel
theorem dX2_fits_42 : decode cX2_fits 42 = .ok (.iconst 1, 1) := by decide +kernel
theorem dX2_fits_43 : decode cX2_fits 43 = .ok (.ireturn, 1) := by decide +kernel
theorem dX2_casesWithPages_0 : decode cX2_casesWithPages 0 = .ok (.lconst 0, 1) := by decide +kernel
theorem dX2_casesWithPages_1 : decode cX2_casesWithPages 1 = .ok (.lstore 5, 2) := by decide +kernel
theorem dX2_casesWithPages_3 : decode cX2_casesWithPages 3 = .ok (.iconst 0, 1) := by decide +kernel
theorem dX2_casesWithPages_4 : decode cX2_casesWithPages 4 = .ok (.istore 7, 2) := by decide +kernel
theorem dX2_casesWithPages_6 : decode cX2_casesWithPages 6 = .ok (.iload 7, 2) := by decide +kernel
theorem dX2_casesWithPages_8 : decode cX2_casesWithPages 8 = .ok (.aload_n 1, 1) := by decide +kernel
theorem dX2_casesWithPages_9 : decode cX2_casesWithPages 9 = .ok (.invokevirtual 78, 3) := by decide +kernel
theorem dX2_casesWithPages_12 : decode cX2_casesWithPages 12 = .ok (.if_icmp .gt 81, 3) := by decide +kernel
theorem dX2_casesWithPages_15 : decode cX2_casesWithPages 15 = .ok (.iload 7, 2) := by decide +kernel
theorem dX2_casesWithPages_17 : decode cX2_casesWithPages 17 = .ok (.aload_n 1, 1) := by decide +kernel
theorem dX2_casesWithPages_18 : decode cX2_casesWithPages 18 = .ok (.getfield 72, 3) := by decide +kernel
theorem dX2_casesWithPages_21 : decode cX2_casesWithPages 21 = .ok (.iconst (-1), 1) := by decide +kernel
theorem dX2_casesWithPages_22 : decode cX2_casesWithPages 22 = .ok (.ixor, 1) := by decide +kernel
theorem dX2_casesWithPages_23 : decode cX2_casesWithPages 23 = .ok (.iand, 1) := by decide +kernel
theorem dX2_casesWithPages_24 : decode cX2_casesWithPages 24 = .ok (.ifCond .eq 6, 3) := by decide +kernel
theorem dX2_casesWithPages_27 : decode cX2_casesWithPages 27 = .ok (.goto 60, 3) := by decide +kernel
theorem dX2_casesWithPages_30 : decode cX2_casesWithPages 30 = .ok (.aload_n 0, 1) := by decide +kernel
theorem dX2_casesWithPages_31 : decode cX2_casesWithPages 31 = .ok (.aload_n 1, 1) := by decide +kernel
theorem dX2_casesWithPages_32 : decode cX2_casesWithPages 32 = .ok (.aload_n 1, 1) := by decide +kernel
theorem dX2_casesWithPages_33 : decode cX2_casesWithPages 33 = .ok (.getfield 72, 3) := by decide +kernel
theorem dX2_casesWithPages_36 : decode cX2_casesWithPages 36 = .ok (.iload 7, 2) := by decide +kernel
theorem dX2_casesWithPages_38 : decode cX2_casesWithPages 38 = .ok (.iconst (-1), 1) := by decide +kernel
theorem dX2_casesWithPages_39 : decode cX2_casesWithPages 39 = .ok (.ixor, 1) := by decide +kernel
theorem dX2_casesWithPages_40 : decode cX2_casesWithPages 40 = .ok (.iand, 1) := by decide +kernel
theorem dX2_casesWithPages_41 : decode cX2_casesWithPages 41 = .ok (.iload_n 2, 1) := by decide +kernel
theorem dX2_casesWithPages_42 : decode cX2_casesWithPages 42 = .ok (.iload_n 3, 1) := by decide +kernel
theorem dX2_casesWithPages_43 : decode cX2_casesWithPages 43 = .ok (.invokevirtual 89, 3) := by decide +kernel
theorem dX2_casesWithPages_46 : decode cX2_casesWithPages 46 = .ok (.ifCond .le 41, 3) := by decide +kernel
theorem dX2_casesWithPages_49 : decode cX2_casesWithPages 49 = .ok (.iload 7, 2) := by decide +kernel
theorem dX2_casesWithPages_51 : decode cX2_casesWithPages 51 = .ok (.invokestatic 81, 3) := by decide +kernel
theorem dX2_casesWithPages_54 : decode cX2_casesWithPages 54 = .ok (.istore 8, 2) := by decide +kernel
theorem dX2_casesWithPages_56 : decode cX2_casesWithPages 56 = .ok (.lload 5, 2) := by decide +kernel
theorem dX2_casesWithPages_58 : decode cX2_casesWithPages 58 = .ok (.iload 4, 2) := by decide +kernel
theorem dX2_casesWithPages_60 : decode cX2_casesWithPages 60 = .ok (.iload 8, 2) := by decide +kernel
theorem dX2_casesWithPages_62 : decode cX2_casesWithPages 62 = .ok (.invokestatic 123, 3) := by decide +kernel
theorem dX2_casesWithPages_65 : decode cX2_casesWithPages 65 = .ok (.bipush 10, 2) := by decide +kernel
theorem dX2_casesWithPages_67 : decode cX2_casesWithPages 67 = .ok (.iload 4, 2) := by decide +kernel
theorem dX2_casesWithPages_69 : decode cX2_casesWithPages 69 = .ok (.isub, 1) := by decide +kernel
theorem dX2_casesWithPages_70 : decode cX2_casesWithPages 70 = .ok (.aload_n 1, 1) := by decide +kernel
theorem dX2_casesWithPages_71 : decode cX2_casesWithPages 71 = .ok (.getfield 72, 3) := by decide +kernel
theorem dX2_casesWithPages_74 : decode cX2_casesWithPages 74 = .ok (.invokestatic 81, 3) := by decide +kernel
theorem dX2_casesWithPages_77 : decode cX2_casesWithPages 77 = .ok (.iload 8, 2) := by decide +kernel
theorem dX2_casesWithPages_79 : decode cX2_casesWithPages 79 = .ok (.isub, 1) := by decide +kernel
theorem dX2_casesWithPages_80 : decode cX2_casesWithPages 80 = .ok (.invokestatic 123, 3) := by decide +kernel
theorem dX2_casesWithPages_83 : decode cX2_casesWithPages 83 = .ok (.lmul, 1) := by decide +kernel
theorem dX2_casesWithPages_84 : decode cX2_casesWithPages 84 = .ok (.ladd, 1) := by decide +kernel
theorem dX2_casesWithPages_85 : decode cX2_casesWithPages 85 = .ok (.lstore 5, 2) := by decide +kernel
theorem dX2_casesWithPages_87 : decode cX2_casesWithPages 87 = .ok (.iinc 7 1, 3) := by decide +kernel
theorem dX2_casesWithPages_90 : decode cX2_casesWithPages 90 = .ok (.goto (-84), 3) := by decide +kernel
theorem dX2_casesWithPages_93 : decode cX2_casesWithPages 93 = .ok (.lload 5, 2) := by decide +kernel
theorem dX2_casesWithPages_95 : decode cX2_casesWithPages 95 = .ok (.lreturn, 1) := by decide +kernel
theorem dX2_behindCenturies_0 : decode cX2_behindCenturies 0 = .ok (.aload_n 0, 1) := by decide +kernel
theorem dX2_behindCenturies_1 : decode cX2_behindCenturies 1 = .ok (.getfield 12, 3) := by decide +kernel
theorem dX2_behindCenturies_4 : decode cX2_behindCenturies 4 = .ok (.aload_n 1, 1) := by decide +kernel
theorem dX2_behindCenturies_5 : decode cX2_behindCenturies 5 = .ok (.invokevirtual 25, 3) := by decide +kernel
theorem dX2_behindCenturies_8 : decode cX2_behindCenturies 8 = .ok (.iload_n 3, 1) := by decide +kernel
theorem dX2_behindCenturies_9 : decode cX2_behindCenturies 9 = .ok (.i2l, 1) := by decide +kernel
theorem dX2_behindCenturies_10 : decode cX2_behindCenturies 10 = .ok (.lstore 4, 2) := by decide +kernel
theorem dX2_behindCenturies_12 : decode cX2_behindCenturies 12 = .ok (.iconst 0, 1) := by decide +kernel
theorem dX2_behindCenturies_13 : decode cX2_behindCenturies 13 = .ok (.istore 6, 2) := by decide +kernel
theorem dX2_behindCenturies_15 : decode cX2_behindCenturies 15 = .ok (.iload 6, 2) := by decide +kernel
theorem dX2_behindCenturies_17 : decode cX2_behindCenturies 17 = .ok (.iload_n 2, 1) := by decide +kernel
theorem dX2_behindCenturies_18 : decode cX2_behindCenturies 18 = .ok (.if_icmp .ge 34, 3) := by decide +kernel
theorem dX2_behindCenturies_21 : decode cX2_behindCenturies 21 = .ok (.lload 4, 2) := by decide +kernel
theorem dX2_behindCenturies_23 : decode cX2_behindCenturies 23 = .ok (.ldc2_w 127, 3) := by decide +kernel
theorem dX2_behindCenturies_26 : decode cX2_behindCenturies 26 = .ok (.lmul, 1) := by decide +kernel
theorem dX2_behindCenturies_27 : decode cX2_behindCenturies 27 = .ok (.ldc2_w 129, 3) := by decide +kernel
theorem dX2_behindCenturies_30 : decode cX2_behindCenturies 30 = .ok (.lrem, 1) := by decide +kernel
theorem dX2_behindCenturies_31 : decode cX2_behindCenturies 31 = .ok (.lstore 4, 2) := by decide +kernel
theorem dX2_behindCenturies_33 : decode cX2_behindCenturies 33 = .ok (.aload_n 0, 1) := by decide +kernel
theorem dX2_behindCenturies_34 : decode cX2_behindCenturies 34 = .ok (.lload 4, 2) := by decide +kernel
theorem dX2_behindCenturies_36 : decode cX2_behindCenturies 36 = .ok (.invokevirtual 131, 3) := by decide +kernel
theorem dX2_behindCenturies_39 : decode cX2_behindCenturies 39 = .ok (.aload_n 0, 1) := by decide +kernel
theorem dX2_behindCenturies_40 : decode cX2_behindCenturies 40 = .ok (.getfield 12, 3) := by decide +kernel
theorem dX2_behindCenturies_43 : decode cX2_behindCenturies 43 = .ok (.invokevirtual 37, 3) := by decide +kernel
theorem dX2_behindCenturies_46 : decode cX2_behindCenturies 46 = .ok (.iinc 6 1, 3) := by decide +kernel
theorem dX2_behindCenturies_49 : decode cX2_behindCenturies 49 = .ok (.goto (-34), 3) := by decide +kernel
theorem dX2_behindCenturies_52 : decode cX2_behindCenturies 52 = .ok (.aload_n 0, 1) := by decide +kernel
theorem dX2_behindCenturies_53 : decode cX2_behindCenturies 53 = .ok (.getfield 12, 3) := by decide +kernel
theorem dX2_behindCenturies_56 : decode cX2_behindCenturies 56 = .ok (.areturn, 1) := by decide +kernel
theorem dX2_drawLamp_0 : decode cX2_drawLamp 0 = .ok (.aload_n 0, 1) := by decide +kernel
theorem dX2_drawLamp_1 : decode cX2_drawLamp 1 = .ok (.getfield 12, 3) := by decide +kernel
theorem dX2_drawLamp_4 : decode cX2_drawLamp 4 = .ok (.getfield 55, 3) := by decide +kernel
theorem dX2_drawLamp_7 : decode cX2_drawLamp 7 = .ok (.ifCond .gt 4, 3) := by decide +kernel
theorem dX2_drawLamp_10 : decode cX2_drawLamp 10 = .ok (.return_, 1) := by decide +kernel
theorem dX2_drawLamp_11 : decode cX2_drawLamp 11 = .ok (.iconst 1, 1) := by decide +kernel
theorem dX2_drawLamp_12 : decode cX2_drawLamp 12 = .ok (.lload_n 1, 1) := by decide +kernel
theorem dX2_drawLamp_13 : decode cX2_drawLamp 13 = .ok (.aload_n 0, 1) := by decide +kernel
theorem dX2_drawLamp_14 : decode cX2_drawLamp 14 = .ok (.getfield 12, 3) := by decide +kernel
theorem dX2_drawLamp_17 : decode cX2_drawLamp 17 = .ok (.getfield 55, 3) := by decide +kernel
theorem dX2_drawLamp_20 : decode cX2_drawLamp 20 = .ok (.i2l, 1) := by decide +kernel
theorem dX2_drawLamp_21 : decode cX2_drawLamp 21 = .ok (.lrem, 1) := by decide +kernel
theorem dX2_drawLamp_22 : decode cX2_drawLamp 22 = .ok (.l2i, 1) := by decide +kernel
theorem dX2_drawLamp_23 : decode cX2_drawLamp 23 = .ok (.ishl, 1) := by decide +kernel
theorem dX2_drawLamp_24 : decode cX2_drawLamp 24 = .ok (.istore_n 3, 1) := by decide +kernel
theorem dX2_drawLamp_25 : decode cX2_drawLamp 25 = .ok (.aload_n 0, 1) := by decide +kernel
theorem dX2_drawLamp_26 : decode cX2_drawLamp 26 = .ok (.getfield 12, 3) := by decide +kernel
theorem dX2_drawLamp_29 : decode cX2_drawLamp 29 = .ok (.getfield 72, 3) := by decide +kernel
theorem dX2_drawLamp_32 : decode cX2_drawLamp 32 = .ok (.iload_n 3, 1) := by decide +kernel
theorem dX2_drawLamp_33 : decode cX2_drawLamp 33 = .ok (.iand, 1) := by decide +kernel
theorem dX2_drawLamp_34 : decode cX2_drawLamp 34 = .ok (.ifCond .eq 7, 3) := by decide +kernel
theorem dX2_drawLamp_37 : decode cX2_drawLamp 37 = .ok (.iconst 1, 1) := by decide +kernel
theorem dX2_drawLamp_38 : decode cX2_drawLamp 38 = .ok (.goto 4, 3) := by decide +kernel
theorem dX2_drawLamp_41 : decode cX2_drawLamp 41 = .ok (.iconst 0, 1) := by decide +kernel
theorem dX2_drawLamp_42 : decode cX2_drawLamp 42 = .ok (.istore 4, 2) := by decide +kernel
theorem dX2_drawLamp_44 : decode cX2_drawLamp 44 = .ok (.iload 4, 2) := by decide +kernel
theorem dX2_drawLamp_46 : decode cX2_drawLamp 46 = .ok (.ifCond .ne 46, 3) := by decide +kernel
theorem dX2_drawLamp_49 : decode cX2_drawLamp 49 = .ok (.lload_n 1, 1) := by decide +kernel
theorem dX2_drawLamp_50 : decode cX2_drawLamp 50 = .ok (.ldc2_w 135, 3) := by decide +kernel
theorem dX2_drawLamp_53 : decode cX2_drawLamp 53 = .ok (.lrem, 1) := by decide +kernel
theorem dX2_drawLamp_54 : decode cX2_drawLamp 54 = .ok (.lconst 0, 1) := by decide +kernel
theorem dX2_drawLamp_55 : decode cX2_drawLamp 55 = .ok (.lcmp, 1) := by decide +kernel
theorem dX2_drawLamp_56 : decode cX2_drawLamp 56 = .ok (.ifCond .ne 36, 3) := by decide +kernel
theorem dX2_drawLamp_59 : decode cX2_drawLamp 59 = .ok (.aload_n 0, 1) := by decide +kernel
theorem dX2_drawLamp_60 : decode cX2_drawLamp 60 = .ok (.getfield 12, 3) := by decide +kernel
theorem dX2_drawLamp_63 : decode cX2_drawLamp 63 = .ok (.getfield 72, 3) := by decide +kernel
theorem dX2_drawLamp_66 : decode cX2_drawLamp 66 = .ok (.invokestatic 81, 3) := by decide +kernel
theorem dX2_drawLamp_69 : decode cX2_drawLamp 69 = .ok (.aload_n 0, 1) := by decide +kernel
theorem dX2_drawLamp_70 : decode cX2_drawLamp 70 = .ok (.getfield 12, 3) := by decide +kernel
theorem dX2_drawLamp_73 : decode cX2_drawLamp 73 = .ok (.getfield 86, 3) := by decide +kernel
theorem dX2_drawLamp_76 : decode cX2_drawLamp 76 = .ok (.if_icmp .ge 16, 3) := by decide +kernel
theorem dX2_drawLamp_79 : decode cX2_drawLamp 79 = .ok (.aload_n 0, 1) := by decide +kernel
theorem dX2_drawLamp_80 : decode cX2_drawLamp 80 = .ok (.getfield 12, 3) := by decide +kernel
theorem dX2_drawLamp_83 : decode cX2_drawLamp 83 = .ok (.dup, 1) := by decide +kernel
theorem dX2_drawLamp_84 : decode cX2_drawLamp 84 = .ok (.getfield 72, 3) := by decide +kernel
theorem dX2_drawLamp_87 : decode cX2_drawLamp 87 = .ok (.iload_n 3, 1) := by decide +kernel
theorem dX2_drawLamp_88 : decode cX2_drawLamp 88 = .ok (.ior, 1) := by decide +kernel
theorem dX2_drawLamp_89 : decode cX2_drawLamp 89 = .ok (.putfield 72, 3) := by decide +kernel
theorem dX2_drawLamp_92 : decode cX2_drawLamp 92 = .ok (.iload 4, 2) := by decide +kernel
theorem dX2_drawLamp_94 : decode cX2_drawLamp 94 = .ok (.ifCond .eq 28, 3) := by decide +kernel
theorem dX2_drawLamp_97 : decode cX2_drawLamp 97 = .ok (.lload_n 1, 1) := by decide +kernel
theorem dX2_drawLamp_98 : decode cX2_drawLamp 98 = .ok (.ldc2_w 137, 3) := by decide +kernel
theorem dX2_drawLamp_101 : decode cX2_drawLamp 101 = .ok (.lrem, 1) := by decide +kernel
theorem dX2_drawLamp_102 : decode cX2_drawLamp 102 = .ok (.lconst 0, 1) := by decide +kernel
theorem dX2_drawLamp_103 : decode cX2_drawLamp 103 = .ok (.lcmp, 1) := by decide +kernel
theorem dX2_drawLamp_104 : decode cX2_drawLamp 104 = .ok (.ifCond .ne 18, 3) := by decide +kernel
theorem dX2_drawLamp_107 : decode cX2_drawLamp 107 = .ok (.aload_n 0, 1) := by decide +kernel
theorem dX2_drawLamp_108 : decode cX2_drawLamp 108 = .ok (.getfield 12, 3) := by decide +kernel
theorem dX2_drawLamp_111 : decode cX2_drawLamp 111 = .ok (.dup, 1) := by decide +kernel
theorem dX2_drawLamp_112 : decode cX2_drawLamp 112 = .ok (.getfield 72, 3) := by decide +kernel
theorem dX2_drawLamp_115 : decode cX2_drawLamp 115 = .ok (.iload_n 3, 1) := by decide +kernel
theorem dX2_drawLamp_116 : decode cX2_drawLamp 116 = .ok (.iconst (-1), 1) := by decide +kernel
theorem dX2_drawLamp_117 : decode cX2_drawLamp 117 = .ok (.ixor, 1) := by decide +kernel
theorem dX2_drawLamp_118 : decode cX2_drawLamp 118 = .ok (.iand, 1) := by decide +kernel
theorem dX2_drawLamp_119 : decode cX2_drawLamp 119 = .ok (.putfield 72, 3) := by decide +kernel
theorem dX2_drawLamp_122 : decode cX2_drawLamp 122 = .ok (.return_, 1) := by decide +kernel
theorem dX3_clear_0 : decode cX3_clear 0 = .ok (.aload_n 0, 1) := by decide +kernel
theorem dX3_clear_1 : decode cX3_clear 1 = .ok (.iconst 0, 1) := by decide +kernel
theorem dX3_clear_2 : decode cX3_clear 2 = .ok (.putfield 9, 3) := by decide +kernel
theorem dX3_clear_5 : decode cX3_clear 5 = .ok (.aload_n 0, 1) := by decide +kernel
theorem dX3_clear_6 : decode cX3_clear 6 = .ok (.iconst 0, 1) := by decide +kernel
theorem dX3_clear_7 : decode cX3_clear 7 = .ok (.putfield 15, 3) := by decide +kernel
theorem dX3_clear_10 : decode cX3_clear 10 = .ok (.aload_n 0, 1) := by decide +kernel
theorem dX3_clear_11 : decode cX3_clear 11 = .ok (.iconst 0, 1) := by decide +kernel
theorem dX3_clear_12 : decode cX3_clear 12 = .ok (.putfield 18, 3) := by decide +kernel
theorem dX3_clear_15 : decode cX3_clear 15 = .ok (.aload_n 0, 1) := by decide +kernel
theorem dX3_clear_16 : decode cX3_clear 16 = .ok (.iconst 0, 1) := by decide +kernel
theorem dX3_clear_17 : decode cX3_clear 17 = .ok (.putfield 21, 3) := by decide +kernel
theorem dX3_clear_20 : decode cX3_clear 20 = .ok (.aload_n 0, 1) := by decide +kernel
theorem dX3_clear_21 : decode cX3_clear 21 = .ok (.iconst 0, 1) := by decide +kernel
theorem dX3_clear_22 : decode cX3_clear 22 = .ok (.putfield 24, 3) := by decide +kernel
theorem dX3_clear_25 : decode cX3_clear 25 = .ok (.aload_n 0, 1) := by decide +kernel
theorem dX3_clear_26 : decode cX3_clear 26 = .ok (.iconst 0, 1) := by decide +kernel
theorem dX3_clear_27 : decode cX3_clear 27 = .ok (.putfield 27, 3) := by decide +kernel
theorem dX3_clear_30 : decode cX3_clear 30 = .ok (.aload_n 0, 1) := by decide +kernel
theorem dX3_clear_31 : decode cX3_clear 31 = .ok (.iconst 0, 1) := by decide +kernel
theorem dX3_clear_32 : decode cX3_clear 32 = .ok (.putfield 30, 3) := by decide +kernel
theorem dX3_clear_35 : decode cX3_clear 35 = .ok (.aload_n 0, 1) := by decide +kernel
theorem dX3_clear_36 : decode cX3_clear 36 = .ok (.iconst 0, 1) := by decide +kernel
theorem dX3_clear_37 : decode cX3_clear 37 = .ok (.putfield 33, 3) := by decide +kernel
theorem dX3_clear_40 : decode cX3_clear 40 = .ok (.return_, 1) := by decide +kernel
theorem dX3_take_0 : decode cX3_take 0 = .ok (.aload_n 0, 1) := by decide +kernel
theorem dX3_take_1 : decode cX3_take 1 = .ok (.aload_n 1, 1) := by decide +kernel
theorem dX3_take_2 : decode cX3_take 2 = .ok (.getfield 9, 3) := by decide +kernel
theorem dX3_take_5 : decode cX3_take 5 = .ok (.putfield 9, 3) := by decide +kernel
theorem dX3_take_8 : decode cX3_take 8 = .ok (.aload_n 0, 1) := by decide +kernel
theorem dX3_take_9 : decode cX3_take 9 = .ok (.aload_n 1, 1) := by decide +kernel
theorem dX3_take_10 : decode cX3_take 10 = .ok (.getfield 15, 3) := by decide +kernel
theorem dX3_take_13 : decode cX3_take 13 = .ok (.putfield 15, 3) := by decide +kernel
theorem dX3_take_16 : decode cX3_take 16 = .ok (.aload_n 0, 1) := by decide +kernel
theorem dX3_take_17 : decode cX3_take 17 = .ok (.aload_n 1, 1) := by decide +kernel
theorem dX3_take_18 : decode cX3_take 18 = .ok (.getfield 18, 3) := by decide +kernel
theorem dX3_take_21 : decode cX3_take 21 = .ok (.putfield 18, 3) := by decide +kernel
theorem dX3_take_24 : decode cX3_take 24 = .ok (.aload_n 0, 1) := by decide +kernel
theorem dX3_take_25 : decode cX3_take 25 = .ok (.aload_n 1, 1) := by decide +kernel
theorem dX3_take_26 : decode cX3_take 26 = .ok (.getfield 21, 3) := by decide +kernel
theorem dX3_take_29 : decode cX3_take 29 = .ok (.putfield 21, 3) := by decide +kernel
theorem dX3_take_32 : decode cX3_take 32 = .ok (.aload_n 0, 1) := by decide +kernel
theorem dX3_take_33 : decode cX3_take 33 = .ok (.aload_n 1, 1) := by decide +kernel
theorem dX3_take_34 : decode cX3_take 34 = .ok (.getfield 24, 3) := by decide +kernel
theorem dX3_take_37 : decode cX3_take 37 = .ok (.putfield 24, 3) := by decide +kernel
theorem dX3_take_40 : decode cX3_take 40 = .ok (.aload_n 0, 1) := by decide +kernel
theorem dX3_take_41 : decode cX3_take 41 = .ok (.aload_n 1, 1) := by decide +kernel
theorem dX3_take_42 : decode cX3_take 42 = .ok (.getfield 27, 3) := by decide +kernel
theorem dX3_take_45 : decode cX3_take 45 = .ok (.putfield 27, 3) := by decide +kernel
theorem dX3_take_48 : decode cX3_take 48 = .ok (.aload_n 0, 1) := by decide +kernel
theorem dX3_take_49 : decode cX3_take 49 = .ok (.aload_n 1, 1) := by decide +kernel
theorem dX3_take_50 : decode cX3_take 50 = .ok (.getfield 30, 3) := by decide +kernel
theorem dX3_take_53 : decode cX3_take 53 = .ok (.putfield 30, 3) := by decide +kernel
theorem dX3_take_56 : decode cX3_take 56 = .ok (.aload_n 0, 1) := by decide +kernel
theorem dX3_take_57 : decode cX3_take 57 = .ok (.aload_n 1, 1) := by decide +kernel
theorem dX3_take_58 : decode cX3_take 58 = .ok (.getfield 33, 3) := by decide +kernel
theorem dX3_take_61 : decode cX3_take 61 = .ok (.putfield 33, 3) := by decide +kernel
theorem dX3_take_64 : decode cX3_take 64 = .ok (.iconst 0, 1) := by decide +kernel
theorem dX3_take_65 : decode cX3_take 65 = .ok (.istore_n 2, 1) := by decide +kernel
theorem dX3_take_66 : decode cX3_take 66 = .ok (.iload_n 2, 1) := by decide +kernel
theorem dX3_take_67 : decode cX3_take 67 = .ok (.bipush 6, 2) := by decide +kernel
theorem dX3_take_69 : decode cX3_take 69 = .ok (.if_icmp .ge 57, 3) := by decide +kernel
theorem dX3_take_72 : decode cX3_take 72 = .ok (.aload_n 0, 1) := by decide +kernel
theorem dX3_take_73 : decode cX3_take 73 = .ok (.getfield 36, 3) := by decide +kernel
theorem dX3_take_76 : decode cX3_take 76 = .ok (.iload_n 2, 1) := by decide +kernel
theorem dX3_take_77 : decode cX3_take 77 = .ok (.aload_n 1, 1) := by decide +kernel
theorem dX3_take_78 : decode cX3_take 78 = .ok (.getfield 36, 3) := by decide +kernel
theorem dX3_take_81 : decode cX3_take 81 = .ok (.iload_n 2, 1) := by decide +kernel
theorem dX3_take_82 : decode cX3_take 82 = .ok (.iaload, 1) := by decide +kernel
theorem dX3_take_83 : decode cX3_take 83 = .ok (.iastore, 1) := by decide +kernel
theorem dX3_take_84 : decode cX3_take 84 = .ok (.aload_n 0, 1) := by decide +kernel
theorem dX3_take_85 : decode cX3_take 85 = .ok (.getfield 40, 3) := by decide +kernel
theorem dX3_take_88 : decode cX3_take 88 = .ok (.iload_n 2, 1) := by decide +kernel
theorem dX3_take_89 : decode cX3_take 89 = .ok (.aload_n 1, 1) := by decide +kernel
theorem dX3_take_90 : decode cX3_take 90 = .ok (.getfield 40, 3) := by decide +kernel
theorem dX3_take_93 : decode cX3_take 93 = .ok (.iload_n 2, 1) := by decide +kernel
theorem dX3_take_94 : decode cX3_take 94 = .ok (.iaload, 1) := by decide +kernel
theorem dX3_take_95 : decode cX3_take 95 = .ok (.iastore, 1) := by decide +kernel
theorem dX3_take_96 : decode cX3_take 96 = .ok (.aload_n 0, 1) := by decide +kernel
theorem dX3_take_97 : decode cX3_take 97 = .ok (.getfield 43, 3) := by decide +kernel
theorem dX3_take_100 : decode cX3_take 100 = .ok (.iload_n 2, 1) := by decide +kernel
theorem dX3_take_101 : decode cX3_take 101 = .ok (.aload_n 1, 1) := by decide +kernel
theorem dX3_take_102 : decode cX3_take 102 = .ok (.getfield 43, 3) := by decide +kernel
theorem dX3_take_105 : decode cX3_take 105 = .ok (.iload_n 2, 1) := by decide +kernel
theorem dX3_take_106 : decode cX3_take 106 = .ok (.iaload, 1) := by decide +kernel
theorem dX3_take_107 : decode cX3_take 107 = .ok (.iastore, 1) := by decide +kernel
theorem dX3_take_108 : decode cX3_take 108 = .ok (.aload_n 0, 1) := by decide +kernel
theorem dX3_take_109 : decode cX3_take 109 = .ok (.getfield 46, 3) := by decide +kernel
theorem dX3_take_112 : decode cX3_take 112 = .ok (.iload_n 2, 1) := by decide +kernel
theorem dX3_take_113 : decode cX3_take 113 = .ok (.aload_n 1, 1) := by decide +kernel
theorem dX3_take_114 : decode cX3_take 114 = .ok (.getfield 46, 3) := by decide +kernel
theorem dX3_take_117 : decode cX3_take 117 = .ok (.iload_n 2, 1) := by decide +kernel
theorem dX3_take_118 : decode cX3_take 118 = .ok (.iaload, 1) := by decide +kernel
theorem dX3_take_119 : decode cX3_take 119 = .ok (.iastore, 1) := by decide +kernel
theorem dX3_take_120 : decode cX3_take 120 = .ok (.iinc 2 1, 3) := by decide +kernel
theorem dX3_take_123 : decode cX3_take 123 = .ok (.goto (-57), 3) := by decide +kernel
theorem dX3_take_126 : decode cX3_take 126 = .ok (.iconst 0, 1) := by decide +kernel
theorem dX3_take_127 : decode cX3_take 127 = .ok (.istore_n 2, 1) := by decide +kernel
theorem dX3_take_128 : decode cX3_take 128 = .ok (.iload_n 2, 1) := by decide +kernel
theorem dX3_take_129 : decode cX3_take 129 = .ok (.iconst 5, 1) := by decide +kernel
theorem dX3_take_130 : decode cX3_take 130 = .ok (.if_icmp .ge 52, 3) := by decide +kernel
theorem dX3_take_133 : decode cX3_take 133 = .ok (.aload_n 0, 1) := by decide +kernel
theorem dX3_take_134 : decode cX3_take 134 = .ok (.getfield 49, 3) := by decide +kernel
theorem dX3_take_137 : decode cX3_take 137 = .ok (.iload_n 2, 1) := by decide +kernel
theorem dX3_take_138 : decode cX3_take 138 = .ok (.aload_n 1, 1) := by decide +kernel
theorem dX3_take_139 : decode cX3_take 139 = .ok (.getfield 49, 3) := by decide +kernel
theorem dX3_take_142 : decode cX3_take 142 = .ok (.iload_n 2, 1) := by decide +kernel
theorem dX3_take_143 : decode cX3_take 143 = .ok (.iaload, 1) := by decide +kernel
theorem dX3_take_144 : decode cX3_take 144 = .ok (.iastore, 1) := by decide +kernel
theorem dX3_take_145 : decode cX3_take 145 = .ok (.aload_n 0, 1) := by decide +kernel
theorem dX3_take_146 : decode cX3_take 146 = .ok (.getfield 52, 3) := by decide +kernel
theorem dX3_take_149 : decode cX3_take 149 = .ok (.iload_n 2, 1) := by decide +kernel
theorem dX3_take_150 : decode cX3_take 150 = .ok (.aload_n 1, 1) := by decide +kernel
theorem dX3_take_151 : decode cX3_take 151 = .ok (.getfield 52, 3) := by decide +kernel
theorem dX3_take_154 : decode cX3_take 154 = .ok (.iload_n 2, 1) := by decide +kernel
theorem dX3_take_155 : decode cX3_take 155 = .ok (.iaload, 1) := by decide +kernel
theorem dX3_take_156 : decode cX3_take 156 = .ok (.iastore, 1) := by decide +kernel
theorem dX3_take_157 : decode cX3_take 157 = .ok (.aload_n 0, 1) := by decide +kernel
theorem dX3_take_158 : decode cX3_take 158 = .ok (.getfield 55, 3) := by decide +kernel
theorem dX3_take_161 : decode cX3_take 161 = .ok (.iload_n 2, 1) := by decide +kernel
theorem dX3_take_162 : decode cX3_take 162 = .ok (.aload_n 1, 1) := by decide +kernel
theorem dX3_take_163 : decode cX3_take 163 = .ok (.getfield 55, 3) := by decide +kernel
theorem dX3_take_166 : decode cX3_take 166 = .ok (.iload_n 2, 1) := by decide +kernel
theorem dX3_take_167 : decode cX3_take 167 = .ok (.iaload, 1) := by decide +kernel
theorem dX3_take_168 : decode cX3_take 168 = .ok (.iastore, 1) := by decide +kernel
theorem dX3_take_169 : decode cX3_take 169 = .ok (.aload_n 0, 1) := by decide +kernel
theorem dX3_take_170 : decode cX3_take 170 = .ok (.getfield 58, 3) := by decide +kernel
theorem dX3_take_173 : decode cX3_take 173 = .ok (.iload_n 2, 1) := by decide +kernel
theorem dX3_take_174 : decode cX3_take 174 = .ok (.iconst 0, 1) := by decide +kernel
theorem dX3_take_175 : decode cX3_take 175 = .ok (.iastore, 1) := by decide +kernel
theorem dX3_take_176 : decode cX3_take 176 = .ok (.iinc 2 1, 3) := by decide +kernel
theorem dX3_take_179 : decode cX3_take 179 = .ok (.goto (-51), 3) := by decide +kernel
theorem dX3_take_182 : decode cX3_take 182 = .ok (.return_, 1) := by decide +kernel
theorem dX3_addBook_0 : decode cX3_addBook 0 = .ok (.aload_n 0, 1) := by decide +kernel
theorem dX3_addBook_1 : decode cX3_addBook 1 = .ok (.getfield 9, 3) := by decide +kernel
theorem dX3_addBook_4 : decode cX3_addBook 4 = .ok (.ifCond .lt 12, 3) := by decide +kernel
theorem dX3_addBook_7 : decode cX3_addBook 7 = .ok (.aload_n 0, 1) := by decide +kernel
theorem dX3_addBook_8 : decode cX3_addBook 8 = .ok (.getfield 9, 3) := by decide +kernel
theorem dX3_addBook_11 : decode cX3_addBook 11 = .ok (.bipush 6, 2) := by decide +kernel
theorem dX3_addBook_13 : decode cX3_addBook 13 = .ok (.if_icmp .lt 4, 3) := by decide +kernel
theorem dX3_addBook_16 : decode cX3_addBook 16 = .ok (.return_, 1) := by decide +kernel
theorem dX3_addBook_17 : decode cX3_addBook 17 = .ok (.aload_n 0, 1) := by decide +kernel
theorem dX3_addBook_18 : decode cX3_addBook 18 = .ok (.getfield 36, 3) := by decide +kernel
theorem dX3_addBook_21 : decode cX3_addBook 21 = .ok (.aload_n 0, 1) := by decide +kernel
theorem dX3_addBook_22 : decode cX3_addBook 22 = .ok (.getfield 9, 3) := by decide +kernel
theorem dX3_addBook_25 : decode cX3_addBook 25 = .ok (.iload_n 1, 1) := by decide +kernel
theorem dX3_addBook_26 : decode cX3_addBook 26 = .ok (.iastore, 1) := by decide +kernel
theorem dX3_addBook_27 : decode cX3_addBook 27 = .ok (.aload_n 0, 1) := by decide +kernel
theorem dX3_addBook_28 : decode cX3_addBook 28 = .ok (.getfield 40, 3) := by decide +kernel
theorem dX3_addBook_31 : decode cX3_addBook 31 = .ok (.aload_n 0, 1) := by decide +kernel
theorem dX3_addBook_32 : decode cX3_addBook 32 = .ok (.getfield 9, 3) := by decide +kernel
theorem dX3_addBook_35 : decode cX3_addBook 35 = .ok (.iload_n 2, 1) := by decide +kernel
theorem dX3_addBook_36 : decode cX3_addBook 36 = .ok (.iastore, 1) := by decide +kernel
theorem dX3_addBook_37 : decode cX3_addBook 37 = .ok (.aload_n 0, 1) := by decide +kernel
theorem dX3_addBook_38 : decode cX3_addBook 38 = .ok (.getfield 43, 3) := by decide +kernel
theorem dX3_addBook_41 : decode cX3_addBook 41 = .ok (.aload_n 0, 1) := by decide +kernel
theorem dX3_addBook_42 : decode cX3_addBook 42 = .ok (.getfield 9, 3) := by decide +kernel
theorem dX3_addBook_45 : decode cX3_addBook 45 = .ok (.aload_n 0, 1) := by decide +kernel
theorem dX3_addBook_46 : decode cX3_addBook 46 = .ok (.getfield 9, 3) := by decide +kernel
theorem dX3_addBook_49 : decode cX3_addBook 49 = .ok (.iastore, 1) := by decide +kernel
theorem dX3_addBook_50 : decode cX3_addBook 50 = .ok (.aload_n 0, 1) := by decide +kernel
theorem dX3_addBook_51 : decode cX3_addBook 51 = .ok (.getfield 46, 3) := by decide +kernel
theorem dX3_addBook_54 : decode cX3_addBook 54 = .ok (.aload_n 0, 1) := by decide +kernel
theorem dX3_addBook_55 : decode cX3_addBook 55 = .ok (.getfield 9, 3) := by decide +kernel
theorem dX3_addBook_58 : decode cX3_addBook 58 = .ok (.aload_n 0, 1) := by decide +kernel
theorem dX3_addBook_59 : decode cX3_addBook 59 = .ok (.getfield 9, 3) := by decide +kernel
theorem dX3_addBook_62 : decode cX3_addBook 62 = .ok (.iastore, 1) := by decide +kernel
theorem dX3_addBook_63 : decode cX3_addBook 63 = .ok (.aload_n 0, 1) := by decide +kernel
theorem dX3_addBook_64 : decode cX3_addBook 64 = .ok (.dup, 1) := by decide +kernel
theorem dX3_addBook_65 : decode cX3_addBook 65 = .ok (.getfield 9, 3) := by decide +kernel
theorem dX3_addBook_68 : decode cX3_addBook 68 = .ok (.iconst 1, 1) := by decide +kernel
theorem dX3_addBook_69 : decode cX3_addBook 69 = .ok (.iadd, 1) := by decide +kernel
theorem dX3_addBook_70 : decode cX3_addBook 70 = .ok (.putfield 9, 3) := by decide +kernel
theorem dX3_addBook_73 : decode cX3_addBook 73 = .ok (.return_, 1) := by decide +kernel
theorem dX3_addFish_0 : decode cX3_addFish 0 = .ok (.aload_n 0, 1) := by decide +kernel
theorem dX3_addFish_1 : decode cX3_addFish 1 = .ok (.getfield 15, 3) := by decide +kernel
theorem dX3_addFish_4 : decode cX3_addFish 4 = .ok (.ifCond .lt 11, 3) := by decide +kernel
theorem dX3_addFish_7 : decode cX3_addFish 7 = .ok (.aload_n 0, 1) := by decide +kernel
theorem dX3_addFish_8 : decode cX3_addFish 8 = .ok (.getfield 15, 3) := by decide +kernel
theorem dX3_addFish_11 : decode cX3_addFish 11 = .ok (.iconst 5, 1) := by decide +kernel
theorem dX3_addFish_12 : decode cX3_addFish 12 = .ok (.if_icmp .lt 4, 3) := by decide +kernel
theorem dX3_addFish_15 : decode cX3_addFish 15 = .ok (.return_, 1) := by decide +kernel
theorem dX3_addFish_16 : decode cX3_addFish 16 = .ok (.aload_n 0, 1) := by decide +kernel
theorem dX3_addFish_17 : decode cX3_addFish 17 = .ok (.getfield 49, 3) := by decide +kernel
theorem dX3_addFish_20 : decode cX3_addFish 20 = .ok (.aload_n 0, 1) := by decide +kernel
theorem dX3_addFish_21 : decode cX3_addFish 21 = .ok (.getfield 15, 3) := by decide +kernel
theorem dX3_addFish_24 : decode cX3_addFish 24 = .ok (.iload_n 1, 1) := by decide +kernel
theorem dX3_addFish_25 : decode cX3_addFish 25 = .ok (.iastore, 1) := by decide +kernel
theorem dX3_addFish_26 : decode cX3_addFish 26 = .ok (.aload_n 0, 1) := by decide +kernel
theorem dX3_addFish_27 : decode cX3_addFish 27 = .ok (.getfield 52, 3) := by decide +kernel
theorem dX3_addFish_30 : decode cX3_addFish 30 = .ok (.aload_n 0, 1) := by decide +kernel
theorem dX3_addFish_31 : decode cX3_addFish 31 = .ok (.getfield 15, 3) := by decide +kernel
theorem dX3_addFish_34 : decode cX3_addFish 34 = .ok (.iload_n 2, 1) := by decide +kernel
theorem dX3_addFish_35 : decode cX3_addFish 35 = .ok (.iastore, 1) := by decide +kernel
theorem dX3_addFish_36 : decode cX3_addFish 36 = .ok (.aload_n 0, 1) := by decide +kernel
theorem dX3_addFish_37 : decode cX3_addFish 37 = .ok (.getfield 55, 3) := by decide +kernel
theorem dX3_addFish_40 : decode cX3_addFish 40 = .ok (.aload_n 0, 1) := by decide +kernel
theorem dX3_addFish_41 : decode cX3_addFish 41 = .ok (.getfield 15, 3) := by decide +kernel
theorem dX3_addFish_44 : decode cX3_addFish 44 = .ok (.iconst 0, 1) := by decide +kernel
theorem dX3_addFish_45 : decode cX3_addFish 45 = .ok (.iastore, 1) := by decide +kernel
theorem dX3_addFish_46 : decode cX3_addFish 46 = .ok (.aload_n 0, 1) := by decide +kernel
theorem dX3_addFish_47 : decode cX3_addFish 47 = .ok (.dup, 1) := by decide +kernel
theorem dX3_addFish_48 : decode cX3_addFish 48 = .ok (.getfield 15, 3) := by decide +kernel
theorem dX3_addFish_51 : decode cX3_addFish 51 = .ok (.iconst 1, 1) := by decide +kernel
theorem dX3_addFish_52 : decode cX3_addFish 52 = .ok (.iadd, 1) := by decide +kernel
theorem dX3_addFish_53 : decode cX3_addFish 53 = .ok (.putfield 15, 3) := by decide +kernel
theorem dX3_addFish_56 : decode cX3_addFish 56 = .ok (.return_, 1) := by decide +kernel
theorem dX3_isTold_0 : decode cX3_isTold 0 = .ok (.aload_n 0, 1) := by decide +kernel
theorem dX3_isTold_1 : decode cX3_isTold 1 = .ok (.getfield 9, 3) := by decide +kernel
theorem dX3_isTold_4 : decode cX3_isTold 4 = .ok (.ifCond .le 7, 3) := by decide +kernel
theorem dX3_isTold_7 : decode cX3_isTold 7 = .ok (.iconst 1, 1) := by decide +kernel
theorem dX3_isTold_8 : decode cX3_isTold 8 = .ok (.goto 4, 3) := by decide +kernel
theorem dX3_isTold_11 : decode cX3_isTold 11 = .ok (.iconst 0, 1) := by decide +kernel
theorem dX3_isTold_12 : decode cX3_isTold 12 = .ok (.ireturn, 1) := by decide +kernel
theorem dX3_isBook_0 : decode cX3_isBook 0 = .ok (.iload_n 1, 1) := by decide +kernel
theorem dX3_isBook_1 : decode cX3_isBook 1 = .ok (.ifCond .lt 21, 3) := by decide +kernel
theorem dX3_isBook_4 : decode cX3_isBook 4 = .ok (.iload_n 1, 1) := by decide +kernel
theorem dX3_isBook_5 : decode cX3_isBook 5 = .ok (.aload_n 0, 1) := by decide +kernel
theorem dX3_isBook_6 : decode cX3_isBook 6 = .ok (.getfield 9, 3) := by decide +kernel
theorem dX3_isBook_9 : decode cX3_isBook 9 = .ok (.if_icmp .ge 13, 3) := by decide +kernel
theorem dX3_isBook_12 : decode cX3_isBook 12 = .ok (.iload_n 1, 1) := by decide +kernel
theorem dX3_isBook_13 : decode cX3_isBook 13 = .ok (.bipush 6, 2) := by decide +kernel
theorem dX3_isBook_15 : decode cX3_isBook 15 = .ok (.if_icmp .ge 7, 3) := by decide +kernel
theorem dX3_isBook_18 : decode cX3_isBook 18 = .ok (.iconst 1, 1) := by decide +kernel
theorem dX3_isBook_19 : decode cX3_isBook 19 = .ok (.goto 4, 3) := by decide +kernel
theorem dX3_isBook_22 : decode cX3_isBook 22 = .ok (.iconst 0, 1) := by decide +kernel
theorem dX3_isBook_23 : decode cX3_isBook 23 = .ok (.ireturn, 1) := by decide +kernel
theorem dX3_isPlace_0 : decode cX3_isPlace 0 = .ok (.aload_n 0, 1) := by decide +kernel
theorem dX3_isPlace_1 : decode cX3_isPlace 1 = .ok (.iload_n 1, 1) := by decide +kernel
theorem dX3_isPlace_2 : decode cX3_isPlace 2 = .ok (.invokevirtual 61, 3) := by decide +kernel
theorem dX3_isPlace_5 : decode cX3_isPlace 5 = .ok (.ireturn, 1) := by decide +kernel
theorem dX3_isFish_0 : decode cX3_isFish 0 = .ok (.iload_n 1, 1) := by decide +kernel
theorem dX3_isFish_1 : decode cX3_isFish 1 = .ok (.ifCond .lt 20, 3) := by decide +kernel
theorem dX3_isFish_4 : decode cX3_isFish 4 = .ok (.iload_n 1, 1) := by decide +kernel
theorem dX3_isFish_5 : decode cX3_isFish 5 = .ok (.aload_n 0, 1) := by decide +kernel
theorem dX3_isFish_6 : decode cX3_isFish 6 = .ok (.getfield 15, 3) := by decide +kernel
theorem dX3_isFish_9 : decode cX3_isFish 9 = .ok (.if_icmp .ge 12, 3) := by decide +kernel
theorem dX3_isFish_12 : decode cX3_isFish 12 = .ok (.iload_n 1, 1) := by decide +kernel
theorem dX3_isFish_13 : decode cX3_isFish 13 = .ok (.iconst 5, 1) := by decide +kernel
theorem dX3_isFish_14 : decode cX3_isFish 14 = .ok (.if_icmp .ge 7, 3) := by decide +kernel
theorem dX3_isFish_17 : decode cX3_isFish 17 = .ok (.iconst 1, 1) := by decide +kernel
theorem dX3_isFish_18 : decode cX3_isFish 18 = .ok (.goto 4, 3) := by decide +kernel
theorem dX3_isFish_21 : decode cX3_isFish 21 = .ok (.iconst 0, 1) := by decide +kernel
theorem dX3_isFish_22 : decode cX3_isFish 22 = .ok (.ireturn, 1) := by decide +kernel
theorem dX3_isCaught_0 : decode cX3_isCaught 0 = .ok (.aload_n 0, 1) := by decide +kernel
theorem dX3_isCaught_1 : decode cX3_isCaught 1 = .ok (.getfield 33, 3) := by decide +kernel
theorem dX3_isCaught_4 : decode cX3_isCaught 4 = .ok (.iload_n 1, 1) := by decide +kernel
theorem dX3_isCaught_5 : decode cX3_isCaught 5 = .ok (.ishr, 1) := by decide +kernel
theorem dX3_isCaught_6 : decode cX3_isCaught 6 = .ok (.iconst 1, 1) := by decide +kernel
theorem dX3_isCaught_7 : decode cX3_isCaught 7 = .ok (.iand, 1) := by decide +kernel
theorem dX3_isCaught_8 : decode cX3_isCaught 8 = .ok (.ifCond .eq 7, 3) := by decide +kernel
theorem dX3_isCaught_11 : decode cX3_isCaught 11 = .ok (.iconst 1, 1) := by decide +kernel
theorem dX3_isCaught_12 : decode cX3_isCaught 12 = .ok (.goto 4, 3) := by decide +kernel
theorem dX3_isCaught_15 : decode cX3_isCaught 15 = .ok (.iconst 0, 1) := by decide +kernel
theorem dX3_isCaught_16 : decode cX3_isCaught 16 = .ok (.ireturn, 1) := by decide +kernel
theorem dX3_bookIn_0 : decode cX3_bookIn 0 = .ok (.aload_n 0, 1) := by decide +kernel
theorem dX3_bookIn_1 : decode cX3_bookIn 1 = .ok (.iload_n 1, 1) := by decide +kernel
theorem dX3_bookIn_2 : decode cX3_bookIn 2 = .ok (.invokevirtual 61, 3) := by decide +kernel
theorem dX3_bookIn_5 : decode cX3_bookIn 5 = .ok (.ifCond .eq 12, 3) := by decide +kernel
theorem dX3_bookIn_8 : decode cX3_bookIn 8 = .ok (.aload_n 0, 1) := by decide +kernel
theorem dX3_bookIn_9 : decode cX3_bookIn 9 = .ok (.getfield 46, 3) := by decide +kernel
theorem dX3_bookIn_12 : decode cX3_bookIn 12 = .ok (.iload_n 1, 1) := by decide +kernel
theorem dX3_bookIn_13 : decode cX3_bookIn 13 = .ok (.iaload, 1) := by decide +kernel
theorem dX3_bookIn_14 : decode cX3_bookIn 14 = .ok (.goto 5, 3) := by decide +kernel
theorem dX3_bookIn_17 : decode cX3_bookIn 17 = .ok (.ldc 65, 2) := by decide +kernel
theorem dX3_bookIn_19 : decode cX3_bookIn 19 = .ok (.ireturn, 1) := by decide +kernel
theorem dX3_put_0 : decode cX3_put 0 = .ok (.aload_n 0, 1) := by decide +kernel
theorem dX3_put_1 : decode cX3_put 1 = .ok (.iload_n 1, 1) := by decide +kernel
theorem dX3_put_2 : decode cX3_put 2 = .ok (.invokevirtual 61, 3) := by decide +kernel
theorem dX3_put_5 : decode cX3_put 5 = .ok (.ifCond .eq 25, 3) := by decide +kernel
theorem dX3_put_8 : decode cX3_put 8 = .ok (.aload_n 0, 1) := by decide +kernel
theorem dX3_put_9 : decode cX3_put 9 = .ok (.iload_n 2, 1) := by decide +kernel
theorem dX3_put_10 : decode cX3_put 10 = .ok (.invokevirtual 66, 3) := by decide +kernel
theorem dX3_put_13 : decode cX3_put 13 = .ok (.ifCond .eq 17, 3) := by decide +kernel
theorem dX3_put_16 : decode cX3_put 16 = .ok (.aload_n 0, 1) := by decide +kernel
theorem dX3_put_17 : decode cX3_put 17 = .ok (.getfield 43, 3) := by decide +kernel
theorem dX3_put_20 : decode cX3_put 20 = .ok (.iload_n 1, 1) := by decide +kernel
theorem dX3_put_21 : decode cX3_put 21 = .ok (.iload_n 2, 1) := by decide +kernel
theorem dX3_put_22 : decode cX3_put 22 = .ok (.iastore, 1) := by decide +kernel
theorem dX3_put_23 : decode cX3_put 23 = .ok (.aload_n 0, 1) := by decide +kernel
theorem dX3_put_24 : decode cX3_put 24 = .ok (.getfield 46, 3) := by decide +kernel
theorem dX3_put_27 : decode cX3_put 27 = .ok (.iload_n 2, 1) := by decide +kernel
theorem dX3_put_28 : decode cX3_put 28 = .ok (.iload_n 1, 1) := by decide +kernel
theorem dX3_put_29 : decode cX3_put 29 = .ok (.iastore, 1) := by decide +kernel
theorem dX3_put_30 : decode cX3_put 30 = .ok (.return_, 1) := by decide +kernel
theorem dX3_allBooks_0 : decode cX3_allBooks 0 = .ok (.iconst 1, 1) := by decide +kernel
theorem dX3_allBooks_1 : decode cX3_allBooks 1 = .ok (.aload_n 0, 1) := by decide +kernel
theorem dX3_allBooks_2 : decode cX3_allBooks 2 = .ok (.getfield 9, 3) := by decide +kernel
theorem dX3_allBooks_5 : decode cX3_allBooks 5 = .ok (.ishl, 1) := by decide +kernel
theorem dX3_allBooks_6 : decode cX3_allBooks 6 = .ok (.iconst 1, 1) := by decide +kernel
theorem dX3_allBooks_7 : decode cX3_allBooks 7 = .ok (.isub, 1) := by decide +kernel
theorem dX3_allBooks_8 : decode cX3_allBooks 8 = .ok (.ireturn, 1) := by decide +kernel
theorem dX3_fishIn_0 : decode cX3_fishIn 0 = .ok (.iconst 0, 1) := by decide +kernel
theorem dX3_fishIn_1 : decode cX3_fishIn 1 = .ok (.istore_n 2, 1) := by decide +kernel
theorem dX3_fishIn_2 : decode cX3_fishIn 2 = .ok (.iconst 0, 1) := by decide +kernel
theorem dX3_fishIn_3 : decode cX3_fishIn 3 = .ok (.istore_n 3, 1) := by decide +kernel
theorem dX3_fishIn_4 : decode cX3_fishIn 4 = .ok (.iload_n 3, 1) := by decide +kernel
theorem dX3_fishIn_5 : decode cX3_fishIn 5 = .ok (.aload_n 0, 1) := by decide +kernel
theorem dX3_fishIn_6 : decode cX3_fishIn 6 = .ok (.getfield 15, 3) := by decide +kernel
theorem dX3_fishIn_9 : decode cX3_fishIn 9 = .ok (.if_icmp .ge 38, 3) := by decide +kernel
theorem dX3_fishIn_12 : decode cX3_fishIn 12 = .ok (.iload_n 3, 1) := by decide +kernel
theorem dX3_fishIn_13 : decode cX3_fishIn 13 = .ok (.iconst 5, 1) := by decide +kernel
theorem dX3_fishIn_14 : decode cX3_fishIn 14 = .ok (.if_icmp .ge 33, 3) := by decide +kernel
theorem dX3_fishIn_17 : decode cX3_fishIn 17 = .ok (.aload_n 0, 1) := by decide +kernel
theorem dX3_fishIn_18 : decode cX3_fishIn 18 = .ok (.getfield 52, 3) := by decide +kernel
theorem dX3_fishIn_21 : decode cX3_fishIn 21 = .ok (.iload_n 3, 1) := by decide +kernel
theorem dX3_fishIn_22 : decode cX3_fishIn 22 = .ok (.iaload, 1) := by decide +kernel
theorem dX3_fishIn_23 : decode cX3_fishIn 23 = .ok (.iload_n 1, 1) := by decide +kernel
theorem dX3_fishIn_24 : decode cX3_fishIn 24 = .ok (.if_icmp .ne 17, 3) := by decide +kernel
theorem dX3_fishIn_27 : decode cX3_fishIn 27 = .ok (.aload_n 0, 1) := by decide +kernel
theorem dX3_fishIn_28 : decode cX3_fishIn 28 = .ok (.iload_n 3, 1) := by decide +kernel
theorem dX3_fishIn_29 : decode cX3_fishIn 29 = .ok (.invokevirtual 69, 3) := by decide +kernel
theorem dX3_fishIn_32 : decode cX3_fishIn 32 = .ok (.ifCond .ne 9, 3) := by decide +kernel
theorem dX3_fishIn_35 : decode cX3_fishIn 35 = .ok (.iload_n 2, 1) := by decide +kernel
theorem dX3_fishIn_36 : decode cX3_fishIn 36 = .ok (.iconst 1, 1) := by decide +kernel
theorem dX3_fishIn_37 : decode cX3_fishIn 37 = .ok (.iload_n 3, 1) := by decide +kernel
theorem dX3_fishIn_38 : decode cX3_fishIn 38 = .ok (.ishl, 1) := by decide +kernel
theorem dX3_fishIn_39 : decode cX3_fishIn 39 = .ok (.ior, 1) := by decide +kernel
theorem dX3_fishIn_40 : decode cX3_fishIn 40 = .ok (.istore_n 2, 1) := by decide +kernel
theorem dX3_fishIn_41 : decode cX3_fishIn 41 = .ok (.iinc 3 1, 3) := by decide +kernel
theorem dX3_fishIn_44 : decode cX3_fishIn 44 = .ok (.goto (-40), 3) := by decide +kernel
theorem dX3_fishIn_47 : decode cX3_fishIn 47 = .ok (.iload_n 2, 1) := by decide +kernel
theorem dX3_fishIn_48 : decode cX3_fishIn 48 = .ok (.ireturn, 1) := by decide +kernel
theorem dX3_pagesOfAll_0 : decode cX3_pagesOfAll 0 = .ok (.aload_n 0, 1) := by decide +kernel
theorem dX3_pagesOfAll_1 : decode cX3_pagesOfAll 1 = .ok (.aload_n 0, 1) := by decide +kernel
theorem dX3_pagesOfAll_2 : decode cX3_pagesOfAll 2 = .ok (.invokevirtual 72, 3) := by decide +kernel
theorem dX3_pagesOfAll_5 : decode cX3_pagesOfAll 5 = .ok (.invokevirtual 76, 3) := by decide +kernel
theorem dX3_pagesOfAll_8 : decode cX3_pagesOfAll 8 = .ok (.ireturn, 1) := by decide +kernel
theorem dX3_pagesOf_0 : decode cX3_pagesOf 0 = .ok (.iconst 0, 1) := by decide +kernel
theorem dX3_pagesOf_1 : decode cX3_pagesOf 1 = .ok (.istore_n 2, 1) := by decide +kernel
theorem dX3_pagesOf_2 : decode cX3_pagesOf 2 = .ok (.iconst 0, 1) := by decide +kernel
theorem dX3_pagesOf_3 : decode cX3_pagesOf 3 = .ok (.istore_n 3, 1) := by decide +kernel
theorem dX3_pagesOf_4 : decode cX3_pagesOf 4 = .ok (.iload_n 3, 1) := by decide +kernel
theorem dX3_pagesOf_5 : decode cX3_pagesOf 5 = .ok (.aload_n 0, 1) := by decide +kernel
theorem dX3_pagesOf_6 : decode cX3_pagesOf 6 = .ok (.getfield 9, 3) := by decide +kernel
theorem dX3_pagesOf_9 : decode cX3_pagesOf 9 = .ok (.if_icmp .ge 36, 3) := by decide +kernel
theorem dX3_pagesOf_12 : decode cX3_pagesOf 12 = .ok (.iload_n 3, 1) := by decide +kernel
theorem dX3_pagesOf_13 : decode cX3_pagesOf 13 = .ok (.bipush 6, 2) := by decide +kernel
theorem dX3_pagesOf_15 : decode cX3_pagesOf 15 = .ok (.if_icmp .ge 30, 3) := by decide +kernel
theorem dX3_pagesOf_18 : decode cX3_pagesOf 18 = .ok (.iload_n 2, 1) := by decide +kernel
theorem dX3_pagesOf_19 : decode cX3_pagesOf 19 = .ok (.iload_n 1, 1) := by decide +kernel
theorem dX3_pagesOf_20 : decode cX3_pagesOf 20 = .ok (.iload_n 3, 1) := by decide +kernel
theorem dX3_pagesOf_21 : decode cX3_pagesOf 21 = .ok (.ishr, 1) := by decide +kernel
theorem dX3_pagesOf_22 : decode cX3_pagesOf 22 = .ok (.iconst 1, 1) := by decide +kernel
theorem dX3_pagesOf_23 : decode cX3_pagesOf 23 = .ok (.iand, 1) := by decide +kernel
theorem dX3_pagesOf_24 : decode cX3_pagesOf 24 = .ok (.ifCond .eq 12, 3) := by decide +kernel
theorem dX3_pagesOf_27 : decode cX3_pagesOf 27 = .ok (.aload_n 0, 1) := by decide +kernel
theorem dX3_pagesOf_28 : decode cX3_pagesOf 28 = .ok (.getfield 36, 3) := by decide +kernel
theorem dX3_pagesOf_31 : decode cX3_pagesOf 31 = .ok (.iload_n 3, 1) := by decide +kernel
theorem dX3_pagesOf_32 : decode cX3_pagesOf 32 = .ok (.iaload, 1) := by decide +kernel
theorem dX3_pagesOf_33 : decode cX3_pagesOf 33 = .ok (.goto 4, 3) := by decide +kernel
theorem dX3_pagesOf_36 : decode cX3_pagesOf 36 = .ok (.iconst 0, 1) := by decide +kernel
theorem dX3_pagesOf_37 : decode cX3_pagesOf 37 = .ok (.iadd, 1) := by decide +kernel
theorem dX3_pagesOf_38 : decode cX3_pagesOf 38 = .ok (.istore_n 2, 1) := by decide +kernel
theorem dX3_pagesOf_39 : decode cX3_pagesOf 39 = .ok (.iinc 3 1, 3) := by decide +kernel
theorem dX3_pagesOf_42 : decode cX3_pagesOf 42 = .ok (.goto (-38), 3) := by decide +kernel
theorem dX3_pagesOf_45 : decode cX3_pagesOf 45 = .ok (.iload_n 2, 1) := by decide +kernel
theorem dX3_pagesOf_46 : decode cX3_pagesOf 46 = .ok (.ireturn, 1) := by decide +kernel
theorem dX3_booksWithPages_0 : decode cX3_booksWithPages 0 = .ok (.iconst 0, 1) := by decide +kernel
theorem dX3_booksWithPages_1 : decode cX3_booksWithPages 1 = .ok (.istore_n 1, 1) := by decide +kernel
theorem dX3_booksWithPages_2 : decode cX3_booksWithPages 2 = .ok (.iconst 0, 1) := by decide +kernel
theorem dX3_booksWithPages_3 : decode cX3_booksWithPages 3 = .ok (.istore_n 2, 1) := by decide +kernel
theorem dX3_booksWithPages_4 : decode cX3_booksWithPages 4 = .ok (.iload_n 2, 1) := by decide +kernel
theorem dX3_booksWithPages_5 : decode cX3_booksWithPages 5 = .ok (.aload_n 0, 1) := by decide +kernel
theorem dX3_booksWithPages_6 : decode cX3_booksWithPages 6 = .ok (.getfield 9, 3) := by decide +kernel
theorem dX3_booksWithPages_9 : decode cX3_booksWithPages 9 = .ok (.if_icmp .ge 34, 3) := by decide +kernel
theorem dX3_booksWithPages_12 : decode cX3_booksWithPages 12 = .ok (.iload_n 2, 1) := by decide +kernel
theorem dX3_booksWithPages_13 : decode cX3_booksWithPages 13 = .ok (.bipush 6, 2) := by decide +kernel
theorem dX3_booksWithPages_15 : decode cX3_booksWithPages 15 = .ok (.if_icmp .ge 28, 3) := by decide +kernel
theorem dX3_booksWithPages_18 : decode cX3_booksWithPages 18 = .ok (.iload_n 1, 1) := by decide +kernel
theorem dX3_booksWithPages_19 : decode cX3_booksWithPages 19 = .ok (.aload_n 0, 1) := by decide +kernel
theorem dX3_booksWithPages_20 : decode cX3_booksWithPages 20 = .ok (.getfield 36, 3) := by decide +kernel
theorem dX3_booksWithPages_23 : decode cX3_booksWithPages 23 = .ok (.iload_n 2, 1) := by decide +kernel
theorem dX3_booksWithPages_24 : decode cX3_booksWithPages 24 = .ok (.iaload, 1) := by decide +kernel
theorem dX3_booksWithPages_25 : decode cX3_booksWithPages 25 = .ok (.ifCond .le 9, 3) := by decide +kernel
theorem dX3_booksWithPages_28 : decode cX3_booksWithPages 28 = .ok (.iconst 1, 1) := by decide +kernel
theorem dX3_booksWithPages_29 : decode cX3_booksWithPages 29 = .ok (.iload_n 2, 1) := by decide +kernel
theorem dX3_booksWithPages_30 : decode cX3_booksWithPages 30 = .ok (.ishl, 1) := by decide +kernel
theorem dX3_booksWithPages_31 : decode cX3_booksWithPages 31 = .ok (.goto 4, 3) := by decide +kernel
theorem dX3_booksWithPages_34 : decode cX3_booksWithPages 34 = .ok (.iconst 0, 1) := by decide +kernel
theorem dX3_booksWithPages_35 : decode cX3_booksWithPages 35 = .ok (.ior, 1) := by decide +kernel
theorem dX3_booksWithPages_36 : decode cX3_booksWithPages 36 = .ok (.istore_n 1, 1) := by decide +kernel
theorem dX3_booksWithPages_37 : decode cX3_booksWithPages 37 = .ok (.iinc 2 1, 3) := by decide +kernel
theorem dX3_booksWithPages_40 : decode cX3_booksWithPages 40 = .ok (.goto (-36), 3) := by decide +kernel
theorem dX3_booksWithPages_43 : decode cX3_booksWithPages 43 = .ok (.iload_n 1, 1) := by decide +kernel
theorem dX3_booksWithPages_44 : decode cX3_booksWithPages 44 = .ok (.ireturn, 1) := by decide +kernel
theorem dX3_dustOf_0 : decode cX3_dustOf 0 = .ok (.iconst 0, 1) := by decide +kernel
theorem dX3_dustOf_1 : decode cX3_dustOf 1 = .ok (.istore_n 2, 1) := by decide +kernel
theorem dX3_dustOf_2 : decode cX3_dustOf 2 = .ok (.iconst 0, 1) := by decide +kernel
theorem dX3_dustOf_3 : decode cX3_dustOf 3 = .ok (.istore_n 3, 1) := by decide +kernel
theorem dX3_dustOf_4 : decode cX3_dustOf 4 = .ok (.iload_n 3, 1) := by decide +kernel
theorem dX3_dustOf_5 : decode cX3_dustOf 5 = .ok (.aload_n 0, 1) := by decide +kernel
theorem dX3_dustOf_6 : decode cX3_dustOf 6 = .ok (.getfield 15, 3) := by decide +kernel
theorem dX3_dustOf_9 : decode cX3_dustOf 9 = .ok (.if_icmp .ge 35, 3) := by decide +kernel
theorem dX3_dustOf_12 : decode cX3_dustOf 12 = .ok (.iload_n 3, 1) := by decide +kernel
theorem dX3_dustOf_13 : decode cX3_dustOf 13 = .ok (.iconst 5, 1) := by decide +kernel
theorem dX3_dustOf_14 : decode cX3_dustOf 14 = .ok (.if_icmp .ge 30, 3) := by decide +kernel
theorem dX3_dustOf_17 : decode cX3_dustOf 17 = .ok (.iload_n 2, 1) := by decide +kernel
theorem dX3_dustOf_18 : decode cX3_dustOf 18 = .ok (.iload_n 1, 1) := by decide +kernel
theorem dX3_dustOf_19 : decode cX3_dustOf 19 = .ok (.iload_n 3, 1) := by decide +kernel
theorem dX3_dustOf_20 : decode cX3_dustOf 20 = .ok (.ishr, 1) := by decide +kernel
theorem dX3_dustOf_21 : decode cX3_dustOf 21 = .ok (.iconst 1, 1) := by decide +kernel
theorem dX3_dustOf_22 : decode cX3_dustOf 22 = .ok (.iand, 1) := by decide +kernel
theorem dX3_dustOf_23 : decode cX3_dustOf 23 = .ok (.ifCond .eq 7, 3) := by decide +kernel
theorem dX3_dustOf_26 : decode cX3_dustOf 26 = .ok (.iconst 0, 1) := by decide +kernel
theorem dX3_dustOf_27 : decode cX3_dustOf 27 = .ok (.goto 9, 3) := by decide +kernel
theorem dX3_dustOf_30 : decode cX3_dustOf 30 = .ok (.aload_n 0, 1) := by decide +kernel
theorem dX3_dustOf_31 : decode cX3_dustOf 31 = .ok (.getfield 55, 3) := by decide +kernel
theorem dX3_dustOf_34 : decode cX3_dustOf 34 = .ok (.iload_n 3, 1) := by decide +kernel
theorem dX3_dustOf_35 : decode cX3_dustOf 35 = .ok (.iaload, 1) := by decide +kernel
theorem dX3_dustOf_36 : decode cX3_dustOf 36 = .ok (.iadd, 1) := by decide +kernel
theorem dX3_dustOf_37 : decode cX3_dustOf 37 = .ok (.istore_n 2, 1) := by decide +kernel
theorem dX3_dustOf_38 : decode cX3_dustOf 38 = .ok (.iinc 3 1, 3) := by decide +kernel
theorem dX3_dustOf_41 : decode cX3_dustOf 41 = .ok (.goto (-37), 3) := by decide +kernel
theorem dX3_dustOf_44 : decode cX3_dustOf 44 = .ok (.iload_n 2, 1) := by decide +kernel
theorem dX3_dustOf_45 : decode cX3_dustOf 45 = .ok (.ireturn, 1) := by decide +kernel
theorem dX3_gramsOf_0 : decode cX3_gramsOf 0 = .ok (.aload_n 0, 1) := by decide +kernel
theorem dX3_gramsOf_1 : decode cX3_gramsOf 1 = .ok (.aload_n 0, 1) := by decide +kernel
theorem dX3_gramsOf_2 : decode cX3_gramsOf 2 = .ok (.getfield 33, 3) := by decide +kernel
theorem dX3_gramsOf_5 : decode cX3_gramsOf 5 = .ok (.invokevirtual 80, 3) := by decide +kernel
theorem dX3_gramsOf_8 : decode cX3_gramsOf 8 = .ok (.istore_n 3, 1) := by decide +kernel
theorem dX3_gramsOf_9 : decode cX3_gramsOf 9 = .ok (.iload_n 3, 1) := by decide +kernel
theorem dX3_gramsOf_10 : decode cX3_gramsOf 10 = .ok (.ifCond .le 11, 3) := by decide +kernel
theorem dX3_gramsOf_13 : decode cX3_gramsOf 13 = .ok (.aload_n 0, 1) := by decide +kernel
theorem dX3_gramsOf_14 : decode cX3_gramsOf 14 = .ok (.iload_n 1, 1) := by decide +kernel
theorem dX3_gramsOf_15 : decode cX3_gramsOf 15 = .ok (.invokevirtual 83, 3) := by decide +kernel
theorem dX3_gramsOf_18 : decode cX3_gramsOf 18 = .ok (.ifCond .ne 5, 3) := by decide +kernel
theorem dX3_gramsOf_21 : decode cX3_gramsOf 21 = .ok (.iconst 0, 1) := by decide +kernel
theorem dX3_gramsOf_22 : decode cX3_gramsOf 22 = .ok (.ireturn, 1) := by decide +kernel
theorem dX3_gramsOf_23 : decode cX3_gramsOf 23 = .ok (.iload_n 2, 1) := by decide +kernel
theorem dX3_gramsOf_24 : decode cX3_gramsOf 24 = .ok (.istore 4, 2) := by decide +kernel
theorem dX3_gramsOf_26 : decode cX3_gramsOf 26 = .ok (.iconst 0, 1) := by decide +kernel
theorem dX3_gramsOf_27 : decode cX3_gramsOf 27 = .ok (.istore 5, 2) := by decide +kernel
theorem dX3_gramsOf_29 : decode cX3_gramsOf 29 = .ok (.iconst 0, 1) := by decide +kernel
theorem dX3_gramsOf_30 : decode cX3_gramsOf 30 = .ok (.istore 6, 2) := by decide +kernel
theorem dX3_gramsOf_32 : decode cX3_gramsOf 32 = .ok (.iload 6, 2) := by decide +kernel
theorem dX3_gramsOf_34 : decode cX3_gramsOf 34 = .ok (.aload_n 0, 1) := by decide +kernel
theorem dX3_gramsOf_35 : decode cX3_gramsOf 35 = .ok (.getfield 15, 3) := by decide +kernel
theorem dX3_gramsOf_38 : decode cX3_gramsOf 38 = .ok (.if_icmp .ge 66, 3) := by decide +kernel
theorem dX3_gramsOf_41 : decode cX3_gramsOf 41 = .ok (.iload 6, 2) := by decide +kernel
theorem dX3_gramsOf_43 : decode cX3_gramsOf 43 = .ok (.iconst 5, 1) := by decide +kernel
theorem dX3_gramsOf_44 : decode cX3_gramsOf 44 = .ok (.if_icmp .ge 60, 3) := by decide +kernel
theorem dX3_gramsOf_47 : decode cX3_gramsOf 47 = .ok (.aload_n 0, 1) := by decide +kernel
theorem dX3_gramsOf_48 : decode cX3_gramsOf 48 = .ok (.iload 6, 2) := by decide +kernel
theorem dX3_gramsOf_50 : decode cX3_gramsOf 50 = .ok (.invokevirtual 69, 3) := by decide +kernel
theorem dX3_gramsOf_53 : decode cX3_gramsOf 53 = .ok (.ifCond .ne 45, 3) := by decide +kernel
theorem dX3_gramsOf_56 : decode cX3_gramsOf 56 = .ok (.iload 4, 2) := by decide +kernel
theorem dX3_gramsOf_58 : decode cX3_gramsOf 58 = .ok (.iload_n 2, 1) := by decide +kernel
theorem dX3_gramsOf_59 : decode cX3_gramsOf 59 = .ok (.aload_n 0, 1) := by decide +kernel
theorem dX3_gramsOf_60 : decode cX3_gramsOf 60 = .ok (.getfield 55, 3) := by decide +kernel
theorem dX3_gramsOf_63 : decode cX3_gramsOf 63 = .ok (.iload 6, 2) := by decide +kernel
theorem dX3_gramsOf_65 : decode cX3_gramsOf 65 = .ok (.iaload, 1) := by decide +kernel
theorem dX3_gramsOf_66 : decode cX3_gramsOf 66 = .ok (.imul, 1) := by decide +kernel
theorem dX3_gramsOf_67 : decode cX3_gramsOf 67 = .ok (.iload_n 3, 1) := by decide +kernel
theorem dX3_gramsOf_68 : decode cX3_gramsOf 68 = .ok (.idiv, 1) := by decide +kernel
theorem dX3_gramsOf_69 : decode cX3_gramsOf 69 = .ok (.isub, 1) := by decide +kernel
theorem dX3_gramsOf_70 : decode cX3_gramsOf 70 = .ok (.istore 4, 2) := by decide +kernel
theorem dX3_gramsOf_72 : decode cX3_gramsOf 72 = .ok (.iload 5, 2) := by decide +kernel
theorem dX3_gramsOf_74 : decode cX3_gramsOf 74 = .ok (.iload 6, 2) := by decide +kernel
theorem dX3_gramsOf_76 : decode cX3_gramsOf 76 = .ok (.iload_n 1, 1) := by decide +kernel
theorem dX3_gramsOf_77 : decode cX3_gramsOf 77 = .ok (.if_icmp .ge 17, 3) := by decide +kernel
theorem dX3_gramsOf_80 : decode cX3_gramsOf 80 = .ok (.aload_n 0, 1) := by decide +kernel
theorem dX3_gramsOf_81 : decode cX3_gramsOf 81 = .ok (.getfield 55, 3) := by decide +kernel
theorem dX3_gramsOf_84 : decode cX3_gramsOf 84 = .ok (.iload 6, 2) := by decide +kernel
theorem dX3_gramsOf_86 : decode cX3_gramsOf 86 = .ok (.iaload, 1) := by decide +kernel
theorem dX3_gramsOf_87 : decode cX3_gramsOf 87 = .ok (.ifCond .le 7, 3) := by decide +kernel
theorem dX3_gramsOf_90 : decode cX3_gramsOf 90 = .ok (.iconst 1, 1) := by decide +kernel
theorem dX3_gramsOf_91 : decode cX3_gramsOf 91 = .ok (.goto 4, 3) := by decide +kernel
theorem dX3_gramsOf_94 : decode cX3_gramsOf 94 = .ok (.iconst 0, 1) := by decide +kernel
theorem dX3_gramsOf_95 : decode cX3_gramsOf 95 = .ok (.iadd, 1) := by decide +kernel
theorem dX3_gramsOf_96 : decode cX3_gramsOf 96 = .ok (.istore 5, 2) := by decide +kernel
theorem dX3_gramsOf_98 : decode cX3_gramsOf 98 = .ok (.iinc 6 1, 3) := by decide +kernel
theorem dX3_gramsOf_101 : decode cX3_gramsOf 101 = .ok (.goto (-69), 3) := by decide +kernel
theorem dX3_gramsOf_104 : decode cX3_gramsOf 104 = .ok (.aload_n 0, 1) := by decide +kernel
theorem dX3_gramsOf_105 : decode cX3_gramsOf 105 = .ok (.getfield 55, 3) := by decide +kernel
theorem dX3_gramsOf_108 : decode cX3_gramsOf 108 = .ok (.iload_n 1, 1) := by decide +kernel
theorem dX3_gramsOf_109 : decode cX3_gramsOf 109 = .ok (.iaload, 1) := by decide +kernel
theorem dX3_gramsOf_110 : decode cX3_gramsOf 110 = .ok (.ifCond .le 14, 3) := by decide +kernel
theorem dX3_gramsOf_113 : decode cX3_gramsOf 113 = .ok (.iload 5, 2) := by decide +kernel
theorem dX3_gramsOf_115 : decode cX3_gramsOf 115 = .ok (.iload 4, 2) := by decide +kernel
theorem dX3_gramsOf_117 : decode cX3_gramsOf 117 = .ok (.if_icmp .ge 7, 3) := by decide +kernel
theorem dX3_gramsOf_120 : decode cX3_gramsOf 120 = .ok (.iconst 1, 1) := by decide +kernel
theorem dX3_gramsOf_121 : decode cX3_gramsOf 121 = .ok (.goto 4, 3) := by decide +kernel
theorem dX3_gramsOf_124 : decode cX3_gramsOf 124 = .ok (.iconst 0, 1) := by decide +kernel
theorem dX3_gramsOf_125 : decode cX3_gramsOf 125 = .ok (.istore 6, 2) := by decide +kernel
theorem dX3_gramsOf_127 : decode cX3_gramsOf 127 = .ok (.iload_n 2, 1) := by decide +kernel
theorem dX3_gramsOf_128 : decode cX3_gramsOf 128 = .ok (.aload_n 0, 1) := by decide +kernel
theorem dX3_gramsOf_129 : decode cX3_gramsOf 129 = .ok (.getfield 55, 3) := by decide +kernel
theorem dX3_gramsOf_132 : decode cX3_gramsOf 132 = .ok (.iload_n 1, 1) := by decide +kernel
theorem dX3_gramsOf_133 : decode cX3_gramsOf 133 = .ok (.iaload, 1) := by decide +kernel
theorem dX3_gramsOf_134 : decode cX3_gramsOf 134 = .ok (.imul, 1) := by decide +kernel
theorem dX3_gramsOf_135 : decode cX3_gramsOf 135 = .ok (.iload_n 3, 1) := by decide +kernel
theorem dX3_gramsOf_136 : decode cX3_gramsOf 136 = .ok (.idiv, 1) := by decide +kernel
theorem dX3_gramsOf_137 : decode cX3_gramsOf 137 = .ok (.iload 6, 2) := by decide +kernel
theorem dX3_gramsOf_139 : decode cX3_gramsOf 139 = .ok (.ifCond .eq 7, 3) := by decide +kernel
theorem dX3_gramsOf_142 : decode cX3_gramsOf 142 = .ok (.iconst 1, 1) := by decide +kernel
theorem dX3_gramsOf_143 : decode cX3_gramsOf 143 = .ok (.goto 4, 3) := by decide +kernel
theorem dX3_gramsOf_146 : decode cX3_gramsOf 146 = .ok (.iconst 0, 1) := by decide +kernel
theorem dX3_gramsOf_147 : decode cX3_gramsOf 147 = .ok (.iadd, 1) := by decide +kernel
theorem dX3_gramsOf_148 : decode cX3_gramsOf 148 = .ok (.ireturn, 1) := by decide +kernel
theorem dX3_passNights_0 : decode cX3_passNights 0 = .ok (.iconst 0, 1) := by decide +kernel
theorem dX3_passNights_1 : decode cX3_passNights 1 = .ok (.istore_n 2, 1) := by decide +kernel
theorem dX3_passNights_2 : decode cX3_passNights 2 = .ok (.iload_n 2, 1) := by decide +kernel
theorem dX3_passNights_3 : decode cX3_passNights 3 = .ok (.iload_n 1, 1) := by decide +kernel
theorem dX3_passNights_4 : decode cX3_passNights 4 = .ok (.if_icmp .ge 13, 3) := by decide +kernel
theorem dX3_passNights_7 : decode cX3_passNights 7 = .ok (.aload_n 0, 1) := by decide +kernel
theorem dX3_passNights_8 : decode cX3_passNights 8 = .ok (.invokevirtual 86, 3) := by decide +kernel
theorem dX3_passNights_11 : decode cX3_passNights 11 = .ok (.iinc 2 1, 3) := by decide +kernel
theorem dX3_passNights_14 : decode cX3_passNights 14 = .ok (.goto (-12), 3) := by decide +kernel
theorem dX3_passNights_17 : decode cX3_passNights 17 = .ok (.return_, 1) := by decide +kernel
theorem dX3_passNight_0 : decode cX3_passNight 0 = .ok (.iconst 0, 1) := by decide +kernel
theorem dX3_passNight_1 : decode cX3_passNight 1 = .ok (.istore_n 1, 1) := by decide +kernel
theorem dX3_passNight_2 : decode cX3_passNight 2 = .ok (.iload_n 1, 1) := by decide +kernel
theorem dX3_passNight_3 : decode cX3_passNight 3 = .ok (.aload_n 0, 1) := by decide +kernel
theorem dX3_passNight_4 : decode cX3_passNight 4 = .ok (.getfield 15, 3) := by decide +kernel
theorem dX3_passNight_7 : decode cX3_passNight 7 = .ok (.if_icmp .ge 38, 3) := by decide +kernel
theorem dX3_passNight_10 : decode cX3_passNight 10 = .ok (.iload_n 1, 1) := by decide +kernel
theorem dX3_passNight_11 : decode cX3_passNight 11 = .ok (.iconst 5, 1) := by decide +kernel
theorem dX3_passNight_12 : decode cX3_passNight 12 = .ok (.if_icmp .ge 33, 3) := by decide +kernel
theorem dX3_passNight_15 : decode cX3_passNight 15 = .ok (.aload_n 0, 1) := by decide +kernel
theorem dX3_passNight_16 : decode cX3_passNight 16 = .ok (.iload_n 1, 1) := by decide +kernel
theorem dX3_passNight_17 : decode cX3_passNight 17 = .ok (.invokevirtual 69, 3) := by decide +kernel
theorem dX3_passNight_20 : decode cX3_passNight 20 = .ok (.ifCond .ne 19, 3) := by decide +kernel
theorem dX3_passNight_23 : decode cX3_passNight 23 = .ok (.aload_n 0, 1) := by decide +kernel
theorem dX3_passNight_24 : decode cX3_passNight 24 = .ok (.getfield 52, 3) := by decide +kernel
theorem dX3_passNight_27 : decode cX3_passNight 27 = .ok (.iload_n 1, 1) := by decide +kernel
theorem dX3_passNight_28 : decode cX3_passNight 28 = .ok (.aload_n 0, 1) := by decide +kernel
theorem dX3_passNight_29 : decode cX3_passNight 29 = .ok (.iload_n 1, 1) := by decide +kernel
theorem dX3_passNight_30 : decode cX3_passNight 30 = .ok (.invokevirtual 89, 3) := by decide +kernel
theorem dX3_passNight_33 : decode cX3_passNight 33 = .ok (.iastore, 1) := by decide +kernel
theorem dX3_passNight_34 : decode cX3_passNight 34 = .ok (.aload_n 0, 1) := by decide +kernel
theorem dX3_passNight_35 : decode cX3_passNight 35 = .ok (.iload_n 1, 1) := by decide +kernel
theorem dX3_passNight_36 : decode cX3_passNight 36 = .ok (.invokevirtual 92, 3) := by decide +kernel
theorem dX3_passNight_39 : decode cX3_passNight 39 = .ok (.iinc 1 1, 3) := by decide +kernel
theorem dX3_passNight_42 : decode cX3_passNight 42 = .ok (.goto (-40), 3) := by decide +kernel
theorem dX3_passNight_45 : decode cX3_passNight 45 = .ok (.aload_n 0, 1) := by decide +kernel
theorem dX3_passNight_46 : decode cX3_passNight 46 = .ok (.getfield 24, 3) := by decide +kernel
theorem dX3_passNight_49 : decode cX3_passNight 49 = .ok (.iconst 4, 1) := by decide +kernel
theorem dX3_passNight_50 : decode cX3_passNight 50 = .ok (.irem, 1) := by decide +kernel
theorem dX3_passNight_51 : decode cX3_passNight 51 = .ok (.iconst 3, 1) := by decide +kernel
theorem dX3_passNight_52 : decode cX3_passNight 52 = .ok (.if_icmp .ne 7, 3) := by decide +kernel
theorem dX3_passNight_55 : decode cX3_passNight 55 = .ok (.aload_n 0, 1) := by decide +kernel
theorem dX3_passNight_56 : decode cX3_passNight 56 = .ok (.invokevirtual 96, 3) := by decide +kernel
theorem dX3_passNight_59 : decode cX3_passNight 59 = .ok (.aload_n 0, 1) := by decide +kernel
theorem dX3_passNight_60 : decode cX3_passNight 60 = .ok (.dup, 1) := by decide +kernel
theorem dX3_passNight_61 : decode cX3_passNight 61 = .ok (.getfield 24, 3) := by decide +kernel
theorem dX3_passNight_64 : decode cX3_passNight 64 = .ok (.iconst 1, 1) := by decide +kernel
theorem dX3_passNight_65 : decode cX3_passNight 65 = .ok (.iadd, 1) := by decide +kernel
theorem dX3_passNight_66 : decode cX3_passNight 66 = .ok (.putfield 24, 3) := by decide +kernel
theorem dX3_passNight_69 : decode cX3_passNight 69 = .ok (.return_, 1) := by decide +kernel
theorem dX3_eat_0 : decode cX3_eat 0 = .ok (.aload_n 0, 1) := by decide +kernel
theorem dX3_eat_1 : decode cX3_eat 1 = .ok (.aload_n 0, 1) := by decide +kernel
theorem dX3_eat_2 : decode cX3_eat 2 = .ok (.getfield 52, 3) := by decide +kernel
theorem dX3_eat_5 : decode cX3_eat 5 = .ok (.iload_n 1, 1) := by decide +kernel
theorem dX3_eat_6 : decode cX3_eat 6 = .ok (.iaload, 1) := by decide +kernel
theorem dX3_eat_7 : decode cX3_eat 7 = .ok (.invokevirtual 99, 3) := by decide +kernel
theorem dX3_eat_10 : decode cX3_eat 10 = .ok (.istore_n 2, 1) := by decide +kernel
theorem dX3_eat_11 : decode cX3_eat 11 = .ok (.aload_n 0, 1) := by decide +kernel
theorem dX3_eat_12 : decode cX3_eat 12 = .ok (.iload_n 2, 1) := by decide +kernel
theorem dX3_eat_13 : decode cX3_eat 13 = .ok (.invokevirtual 61, 3) := by decide +kernel
theorem dX3_eat_16 : decode cX3_eat 16 = .ok (.ifCond .eq 11, 3) := by decide +kernel
theorem dX3_eat_19 : decode cX3_eat 19 = .ok (.aload_n 0, 1) := by decide +kernel
theorem dX3_eat_20 : decode cX3_eat 20 = .ok (.iload_n 2, 1) := by decide +kernel
theorem dX3_eat_21 : decode cX3_eat 21 = .ok (.invokevirtual 102, 3) := by decide +kernel
theorem dX3_eat_24 : decode cX3_eat 24 = .ok (.ifCond .eq 4, 3) := by decide +kernel
theorem dX3_eat_27 : decode cX3_eat 27 = .ok (.return_, 1) := by decide +kernel
theorem dX3_eat_28 : decode cX3_eat 28 = .ok (.aload_n 0, 1) := by decide +kernel
theorem dX3_eat_29 : decode cX3_eat 29 = .ok (.getfield 18, 3) := by decide +kernel
theorem dX3_eat_32 : decode cX3_eat 32 = .ok (.aload_n 0, 1) := by decide +kernel
theorem dX3_eat_33 : decode cX3_eat 33 = .ok (.getfield 36, 3) := by decide +kernel
theorem dX3_eat_36 : decode cX3_eat 36 = .ok (.iload_n 2, 1) := by decide +kernel
theorem dX3_eat_37 : decode cX3_eat 37 = .ok (.iaload, 1) := by decide +kernel
theorem dX3_eat_38 : decode cX3_eat 38 = .ok (.invokestatic 105, 3) := by decide +kernel
theorem dX3_eat_41 : decode cX3_eat 41 = .ok (.istore_n 3, 1) := by decide +kernel
theorem dX3_eat_42 : decode cX3_eat 42 = .ok (.iload_n 3, 1) := by decide +kernel
theorem dX3_eat_43 : decode cX3_eat 43 = .ok (.ifCond .le 45, 3) := by decide +kernel
theorem dX3_eat_46 : decode cX3_eat 46 = .ok (.aload_n 0, 1) := by decide +kernel
theorem dX3_eat_47 : decode cX3_eat 47 = .ok (.getfield 36, 3) := by decide +kernel
theorem dX3_eat_50 : decode cX3_eat 50 = .ok (.iload_n 2, 1) := by decide +kernel
theorem dX3_eat_51 : decode cX3_eat 51 = .ok (.dup2, 1) := by decide +kernel
theorem dX3_eat_52 : decode cX3_eat 52 = .ok (.iaload, 1) := by decide +kernel
theorem dX3_eat_53 : decode cX3_eat 53 = .ok (.iload_n 3, 1) := by decide +kernel
theorem dX3_eat_54 : decode cX3_eat 54 = .ok (.isub, 1) := by decide +kernel
theorem dX3_eat_55 : decode cX3_eat 55 = .ok (.iastore, 1) := by decide +kernel
theorem dX3_eat_56 : decode cX3_eat 56 = .ok (.aload_n 0, 1) := by decide +kernel
theorem dX3_eat_57 : decode cX3_eat 57 = .ok (.getfield 55, 3) := by decide +kernel
theorem dX3_eat_60 : decode cX3_eat 60 = .ok (.iload_n 1, 1) := by decide +kernel
theorem dX3_eat_61 : decode cX3_eat 61 = .ok (.aload_n 0, 1) := by decide +kernel
theorem dX3_eat_62 : decode cX3_eat 62 = .ok (.getfield 55, 3) := by decide +kernel
theorem dX3_eat_65 : decode cX3_eat 65 = .ok (.iload_n 1, 1) := by decide +kernel
theorem dX3_eat_66 : decode cX3_eat 66 = .ok (.iaload, 1) := by decide +kernel
theorem dX3_eat_67 : decode cX3_eat 67 = .ok (.iload_n 3, 1) := by decide +kernel
theorem dX3_eat_68 : decode cX3_eat 68 = .ok (.iadd, 1) := by decide +kernel
theorem dX3_eat_69 : decode cX3_eat 69 = .ok (.sipush 999, 3) := by decide +kernel
theorem dX3_eat_72 : decode cX3_eat 72 = .ok (.invokestatic 105, 3) := by decide +kernel
theorem dX3_eat_75 : decode cX3_eat 75 = .ok (.iastore, 1) := by decide +kernel
theorem dX3_eat_76 : decode cX3_eat 76 = .ok (.aload_n 0, 1) := by decide +kernel
theorem dX3_eat_77 : decode cX3_eat 77 = .ok (.getfield 58, 3) := by decide +kernel
theorem dX3_eat_80 : decode cX3_eat 80 = .ok (.iload_n 1, 1) := by decide +kernel
theorem dX3_eat_81 : decode cX3_eat 81 = .ok (.dup2, 1) := by decide +kernel
theorem dX3_eat_82 : decode cX3_eat 82 = .ok (.iaload, 1) := by decide +kernel
theorem dX3_eat_83 : decode cX3_eat 83 = .ok (.iconst 1, 1) := by decide +kernel
theorem dX3_eat_84 : decode cX3_eat 84 = .ok (.iload_n 2, 1) := by decide +kernel
theorem dX3_eat_85 : decode cX3_eat 85 = .ok (.ishl, 1) := by decide +kernel
theorem dX3_eat_86 : decode cX3_eat 86 = .ok (.ior, 1) := by decide +kernel
theorem dX3_eat_87 : decode cX3_eat 87 = .ok (.iastore, 1) := by decide +kernel
theorem dX3_eat_88 : decode cX3_eat 88 = .ok (.return_, 1) := by decide +kernel
theorem dX3_dampen_0 : decode cX3_dampen 0 = .ok (.iconst 0, 1) := by decide +kernel
theorem dX3_dampen_1 : decode cX3_dampen 1 = .ok (.istore_n 1, 1) := by decide +kernel
theorem dX3_dampen_2 : decode cX3_dampen 2 = .ok (.iload_n 1, 1) := by decide +kernel
theorem dX3_dampen_3 : decode cX3_dampen 3 = .ok (.aload_n 0, 1) := by decide +kernel
theorem dX3_dampen_4 : decode cX3_dampen 4 = .ok (.getfield 9, 3) := by decide +kernel
theorem dX3_dampen_7 : decode cX3_dampen 7 = .ok (.if_icmp .ge 45, 3) := by decide +kernel
theorem dX3_dampen_10 : decode cX3_dampen 10 = .ok (.iload_n 1, 1) := by decide +kernel
theorem dX3_dampen_11 : decode cX3_dampen 11 = .ok (.bipush 6, 2) := by decide +kernel
theorem dX3_dampen_13 : decode cX3_dampen 13 = .ok (.if_icmp .ge 39, 3) := by decide +kernel
theorem dX3_dampen_16 : decode cX3_dampen 16 = .ok (.aload_n 0, 1) := by decide +kernel
theorem dX3_dampen_17 : decode cX3_dampen 17 = .ok (.getfield 30, 3) := by decide +kernel
theorem dX3_dampen_20 : decode cX3_dampen 20 = .ok (.iload_n 1, 1) := by decide +kernel
theorem dX3_dampen_21 : decode cX3_dampen 21 = .ok (.ishr, 1) := by decide +kernel
theorem dX3_dampen_22 : decode cX3_dampen 22 = .ok (.iconst 1, 1) := by decide +kernel
theorem dX3_dampen_23 : decode cX3_dampen 23 = .ok (.iand, 1) := by decide +kernel
theorem dX3_dampen_24 : decode cX3_dampen 24 = .ok (.ifCond .ne 22, 3) := by decide +kernel
theorem dX3_dampen_27 : decode cX3_dampen 27 = .ok (.aload_n 0, 1) := by decide +kernel
theorem dX3_dampen_28 : decode cX3_dampen 28 = .ok (.getfield 40, 3) := by decide +kernel
theorem dX3_dampen_31 : decode cX3_dampen 31 = .ok (.iload_n 1, 1) := by decide +kernel
theorem dX3_dampen_32 : decode cX3_dampen 32 = .ok (.aload_n 0, 1) := by decide +kernel
theorem dX3_dampen_33 : decode cX3_dampen 33 = .ok (.getfield 40, 3) := by decide +kernel
theorem dX3_dampen_36 : decode cX3_dampen 36 = .ok (.iload_n 1, 1) := by decide +kernel
theorem dX3_dampen_37 : decode cX3_dampen 37 = .ok (.iaload, 1) := by decide +kernel
theorem dX3_dampen_38 : decode cX3_dampen 38 = .ok (.iconst 1, 1) := by decide +kernel
theorem dX3_dampen_39 : decode cX3_dampen 39 = .ok (.iadd, 1) := by decide +kernel
theorem dX3_dampen_40 : decode cX3_dampen 40 = .ok (.bipush 9, 2) := by decide +kernel
theorem dX3_dampen_42 : decode cX3_dampen 42 = .ok (.invokestatic 105, 3) := by decide +kernel
theorem dX3_dampen_45 : decode cX3_dampen 45 = .ok (.iastore, 1) := by decide +kernel
theorem dX3_dampen_46 : decode cX3_dampen 46 = .ok (.iinc 1 1, 3) := by decide +kernel
theorem dX3_dampen_49 : decode cX3_dampen 49 = .ok (.goto (-47), 3) := by decide +kernel
theorem dX3_dampen_52 : decode cX3_dampen 52 = .ok (.return_, 1) := by decide +kernel
theorem dX3_isClosed_0 : decode cX3_isClosed 0 = .ok (.aload_n 0, 1) := by decide +kernel
theorem dX3_isClosed_1 : decode cX3_isClosed 1 = .ok (.getfield 27, 3) := by decide +kernel
theorem dX3_isClosed_4 : decode cX3_isClosed 4 = .ok (.aload_n 0, 1) := by decide +kernel
theorem dX3_isClosed_5 : decode cX3_isClosed 5 = .ok (.getfield 30, 3) := by decide +kernel
theorem dX3_isClosed_8 : decode cX3_isClosed 8 = .ok (.ior, 1) := by decide +kernel
theorem dX3_isClosed_9 : decode cX3_isClosed 9 = .ok (.iload_n 1, 1) := by decide +kernel
theorem dX3_isClosed_10 : decode cX3_isClosed 10 = .ok (.ishr, 1) := by decide +kernel
theorem dX3_isClosed_11 : decode cX3_isClosed 11 = .ok (.iconst 1, 1) := by decide +kernel
theorem dX3_isClosed_12 : decode cX3_isClosed 12 = .ok (.iand, 1) := by decide +kernel
theorem dX3_isClosed_13 : decode cX3_isClosed 13 = .ok (.ifCond .eq 7, 3) := by decide +kernel
theorem dX3_isClosed_16 : decode cX3_isClosed 16 = .ok (.iconst 1, 1) := by decide +kernel
theorem dX3_isClosed_17 : decode cX3_isClosed 17 = .ok (.goto 4, 3) := by decide +kernel
theorem dX3_isClosed_20 : decode cX3_isClosed 20 = .ok (.iconst 0, 1) := by decide +kernel
theorem dX3_isClosed_21 : decode cX3_isClosed 21 = .ok (.ireturn, 1) := by decide +kernel
theorem dX3_nextPlace_0 : decode cX3_nextPlace 0 = .ok (.aload_n 0, 1) := by decide +kernel
theorem dX3_nextPlace_1 : decode cX3_nextPlace 1 = .ok (.getfield 52, 3) := by decide +kernel
theorem dX3_nextPlace_4 : decode cX3_nextPlace 4 = .ok (.iload_n 1, 1) := by decide +kernel
theorem dX3_nextPlace_5 : decode cX3_nextPlace 5 = .ok (.iaload, 1) := by decide +kernel
theorem dX3_nextPlace_6 : decode cX3_nextPlace 6 = .ok (.istore_n 2, 1) := by decide +kernel
theorem dX3_nextPlace_7 : decode cX3_nextPlace 7 = .ok (.aload_n 0, 1) := by decide +kernel
theorem dX3_nextPlace_8 : decode cX3_nextPlace 8 = .ok (.iload_n 2, 1) := by decide +kernel
theorem dX3_nextPlace_9 : decode cX3_nextPlace 9 = .ok (.invokevirtual 99, 3) := by decide +kernel
theorem dX3_nextPlace_12 : decode cX3_nextPlace 12 = .ok (.istore_n 3, 1) := by decide +kernel
theorem dX3_nextPlace_13 : decode cX3_nextPlace 13 = .ok (.aload_n 0, 1) := by decide +kernel
theorem dX3_nextPlace_14 : decode cX3_nextPlace 14 = .ok (.iload_n 3, 1) := by decide +kernel
theorem dX3_nextPlace_15 : decode cX3_nextPlace 15 = .ok (.invokevirtual 61, 3) := by decide +kernel
theorem dX3_nextPlace_18 : decode cX3_nextPlace 18 = .ok (.ifCond .ne 5, 3) := by decide +kernel
theorem dX3_nextPlace_21 : decode cX3_nextPlace 21 = .ok (.iload_n 2, 1) := by decide +kernel
theorem dX3_nextPlace_22 : decode cX3_nextPlace 22 = .ok (.ireturn, 1) := by decide +kernel
theorem dX3_nextPlace_23 : decode cX3_nextPlace 23 = .ok (.aload_n 0, 1) := by decide +kernel
theorem dX3_nextPlace_24 : decode cX3_nextPlace 24 = .ok (.getfield 49, 3) := by decide +kernel
theorem dX3_nextPlace_27 : decode cX3_nextPlace 27 = .ok (.iload_n 1, 1) := by decide +kernel
theorem dX3_nextPlace_28 : decode cX3_nextPlace 28 = .ok (.iaload, 1) := by decide +kernel
theorem dX3_nextPlace_29 : decode cX3_nextPlace 29 = .ok (.istore 4, 2) := by decide +kernel
theorem dX3_nextPlace_31 : decode cX3_nextPlace 31 = .ok (.iload 4, 2) := by decide +kernel
theorem dX3_nextPlace_33 : decode cX3_nextPlace 33 = .ok (.iconst 4, 1) := by decide +kernel
theorem dX3_nextPlace_34 : decode cX3_nextPlace 34 = .ok (.if_icmp .ne 10, 3) := by decide +kernel
theorem dX3_nextPlace_37 : decode cX3_nextPlace 37 = .ok (.aload_n 0, 1) := by decide +kernel
theorem dX3_nextPlace_38 : decode cX3_nextPlace 38 = .ok (.iload_n 2, 1) := by decide +kernel
theorem dX3_nextPlace_39 : decode cX3_nextPlace 39 = .ok (.iconst 1, 1) := by decide +kernel
theorem dX3_nextPlace_40 : decode cX3_nextPlace 40 = .ok (.invokevirtual 111, 3) := by decide +kernel
theorem dX3_nextPlace_43 : decode cX3_nextPlace 43 = .ok (.ireturn, 1) := by decide +kernel
theorem dX3_nextPlace_44 : decode cX3_nextPlace 44 = .ok (.iload 4, 2) := by decide +kernel
theorem dX3_nextPlace_46 : decode cX3_nextPlace 46 = .ok (.iconst 5, 1) := by decide +kernel
theorem dX3_nextPlace_47 : decode cX3_nextPlace 47 = .ok (.if_icmp .ne 31, 3) := by decide +kernel
theorem dX3_nextPlace_50 : decode cX3_nextPlace 50 = .ok (.aload_n 0, 1) := by decide +kernel
theorem dX3_nextPlace_51 : decode cX3_nextPlace 51 = .ok (.getfield 36, 3) := by decide +kernel
theorem dX3_nextPlace_54 : decode cX3_nextPlace 54 = .ok (.iload_n 3, 1) := by decide +kernel
theorem dX3_nextPlace_55 : decode cX3_nextPlace 55 = .ok (.iaload, 1) := by decide +kernel
theorem dX3_nextPlace_56 : decode cX3_nextPlace 56 = .ok (.ifCond .eq 11, 3) := by decide +kernel
theorem dX3_nextPlace_59 : decode cX3_nextPlace 59 = .ok (.aload_n 0, 1) := by decide +kernel
theorem dX3_nextPlace_60 : decode cX3_nextPlace 60 = .ok (.iload_n 3, 1) := by decide +kernel
theorem dX3_nextPlace_61 : decode cX3_nextPlace 61 = .ok (.invokevirtual 102, 3) := by decide +kernel
theorem dX3_nextPlace_64 : decode cX3_nextPlace 64 = .ok (.ifCond .eq 12, 3) := by decide +kernel
theorem dX3_nextPlace_67 : decode cX3_nextPlace 67 = .ok (.aload_n 0, 1) := by decide +kernel
theorem dX3_nextPlace_68 : decode cX3_nextPlace 68 = .ok (.iload_n 2, 1) := by decide +kernel
theorem dX3_nextPlace_69 : decode cX3_nextPlace 69 = .ok (.iconst 1, 1) := by decide +kernel
theorem dX3_nextPlace_70 : decode cX3_nextPlace 70 = .ok (.invokevirtual 111, 3) := by decide +kernel
theorem dX3_nextPlace_73 : decode cX3_nextPlace 73 = .ok (.goto 4, 3) := by decide +kernel
theorem dX3_nextPlace_76 : decode cX3_nextPlace 76 = .ok (.iload_n 2, 1) := by decide +kernel
theorem dX3_nextPlace_77 : decode cX3_nextPlace 77 = .ok (.ireturn, 1) := by decide +kernel
theorem dX3_nextPlace_78 : decode cX3_nextPlace 78 = .ok (.iload 4, 2) := by decide +kernel
theorem dX3_nextPlace_80 : decode cX3_nextPlace 80 = .ok (.iconst 3, 1) := by decide +kernel
theorem dX3_nextPlace_81 : decode cX3_nextPlace 81 = .ok (.if_icmp .ne 21, 3) := by decide +kernel
theorem dX3_nextPlace_84 : decode cX3_nextPlace 84 = .ok (.aload_n 0, 1) := by decide +kernel
theorem dX3_nextPlace_85 : decode cX3_nextPlace 85 = .ok (.getfield 27, 3) := by decide +kernel
theorem dX3_nextPlace_88 : decode cX3_nextPlace 88 = .ok (.iload_n 3, 1) := by decide +kernel
theorem dX3_nextPlace_89 : decode cX3_nextPlace 89 = .ok (.ishr, 1) := by decide +kernel
theorem dX3_nextPlace_90 : decode cX3_nextPlace 90 = .ok (.iconst 1, 1) := by decide +kernel
theorem dX3_nextPlace_91 : decode cX3_nextPlace 91 = .ok (.iand, 1) := by decide +kernel
theorem dX3_nextPlace_92 : decode cX3_nextPlace 92 = .ok (.ifCond .eq 10, 3) := by decide +kernel
theorem dX3_nextPlace_95 : decode cX3_nextPlace 95 = .ok (.aload_n 0, 1) := by decide +kernel
theorem dX3_nextPlace_96 : decode cX3_nextPlace 96 = .ok (.iload_n 2, 1) := by decide +kernel
theorem dX3_nextPlace_97 : decode cX3_nextPlace 97 = .ok (.iconst 2, 1) := by decide +kernel
theorem dX3_nextPlace_98 : decode cX3_nextPlace 98 = .ok (.invokevirtual 111, 3) := by decide +kernel
theorem dX3_nextPlace_101 : decode cX3_nextPlace 101 = .ok (.ireturn, 1) := by decide +kernel
theorem dX3_nextPlace_102 : decode cX3_nextPlace 102 = .ok (.iload_n 2, 1) := by decide +kernel
theorem dX3_nextPlace_103 : decode cX3_nextPlace 103 = .ok (.aload_n 0, 1) := by decide +kernel
theorem dX3_nextPlace_104 : decode cX3_nextPlace 104 = .ok (.iload_n 1, 1) := by decide +kernel
theorem dX3_nextPlace_105 : decode cX3_nextPlace 105 = .ok (.invokevirtual 114, 3) := by decide +kernel
theorem dX3_nextPlace_108 : decode cX3_nextPlace 108 = .ok (.invokestatic 117, 3) := by decide +kernel
theorem dX3_nextPlace_111 : decode cX3_nextPlace 111 = .ok (.ireturn, 1) := by decide +kernel
theorem dX3_upFrom_0 : decode cX3_upFrom 0 = .ok (.aload_n 0, 1) := by decide +kernel
theorem dX3_upFrom_1 : decode cX3_upFrom 1 = .ok (.getfield 9, 3) := by decide +kernel
theorem dX3_upFrom_4 : decode cX3_upFrom 4 = .ok (.ifCond .le 14, 3) := by decide +kernel
theorem dX3_upFrom_7 : decode cX3_upFrom 7 = .ok (.iload_n 1, 1) := by decide +kernel
theorem dX3_upFrom_8 : decode cX3_upFrom 8 = .ok (.iload_n 2, 1) := by decide +kernel
theorem dX3_upFrom_9 : decode cX3_upFrom 9 = .ok (.iadd, 1) := by decide +kernel
theorem dX3_upFrom_10 : decode cX3_upFrom 10 = .ok (.aload_n 0, 1) := by decide +kernel
theorem dX3_upFrom_11 : decode cX3_upFrom 11 = .ok (.getfield 9, 3) := by decide +kernel
theorem dX3_upFrom_14 : decode cX3_upFrom 14 = .ok (.irem, 1) := by decide +kernel
theorem dX3_upFrom_15 : decode cX3_upFrom 15 = .ok (.goto 4, 3) := by decide +kernel
theorem dX3_upFrom_18 : decode cX3_upFrom 18 = .ok (.iload_n 1, 1) := by decide +kernel
theorem dX3_upFrom_19 : decode cX3_upFrom 19 = .ok (.ireturn, 1) := by decide +kernel
theorem dX3_towards_0 : decode cX3_towards 0 = .ok (.iload_n 1, 1) := by decide +kernel
theorem dX3_towards_1 : decode cX3_towards 1 = .ok (.ldc 65, 2) := by decide +kernel
theorem dX3_towards_3 : decode cX3_towards 3 = .ok (.if_icmp .eq 8, 3) := by decide +kernel
theorem dX3_towards_6 : decode cX3_towards 6 = .ok (.iload_n 1, 1) := by decide +kernel
theorem dX3_towards_7 : decode cX3_towards 7 = .ok (.iload_n 0, 1) := by decide +kernel
theorem dX3_towards_8 : decode cX3_towards 8 = .ok (.if_icmp .ne 5, 3) := by decide +kernel
theorem dX3_towards_11 : decode cX3_towards 11 = .ok (.iload_n 0, 1) := by decide +kernel
theorem dX3_towards_12 : decode cX3_towards 12 = .ok (.ireturn, 1) := by decide +kernel
theorem dX3_towards_13 : decode cX3_towards 13 = .ok (.iload_n 1, 1) := by decide +kernel
theorem dX3_towards_14 : decode cX3_towards 14 = .ok (.iload_n 0, 1) := by decide +kernel
theorem dX3_towards_15 : decode cX3_towards 15 = .ok (.if_icmp .le 9, 3) := by decide +kernel
theorem dX3_towards_18 : decode cX3_towards 18 = .ok (.iload_n 0, 1) := by decide +kernel
theorem dX3_towards_19 : decode cX3_towards 19 = .ok (.iconst 1, 1) := by decide +kernel
theorem dX3_towards_20 : decode cX3_towards 20 = .ok (.iadd, 1) := by decide +kernel
theorem dX3_towards_21 : decode cX3_towards 21 = .ok (.goto 6, 3) := by decide +kernel
theorem dX3_towards_24 : decode cX3_towards 24 = .ok (.iload_n 0, 1) := by decide +kernel
theorem dX3_towards_25 : decode cX3_towards 25 = .ok (.iconst 1, 1) := by decide +kernel
theorem dX3_towards_26 : decode cX3_towards 26 = .ok (.isub, 1) := by decide +kernel
theorem dX3_towards_27 : decode cX3_towards 27 = .ok (.ireturn, 1) := by decide +kernel
theorem dX3_likedPlace_0 : decode cX3_likedPlace 0 = .ok (.aload_n 0, 1) := by decide +kernel
theorem dX3_likedPlace_1 : decode cX3_likedPlace 1 = .ok (.getfield 49, 3) := by decide +kernel
theorem dX3_likedPlace_4 : decode cX3_likedPlace 4 = .ok (.iload_n 1, 1) := by decide +kernel
theorem dX3_likedPlace_5 : decode cX3_likedPlace 5 = .ok (.iaload, 1) := by decide +kernel
theorem dX3_likedPlace_6 : decode cX3_likedPlace 6 = .ok (.istore_n 2, 1) := by decide +kernel
theorem dX3_likedPlace_7 : decode cX3_likedPlace 7 = .ok (.ldc 65, 2) := by decide +kernel
theorem dX3_likedPlace_9 : decode cX3_likedPlace 9 = .ok (.istore_n 3, 1) := by decide +kernel
theorem dX3_likedPlace_10 : decode cX3_likedPlace 10 = .ok (.iload_n 2, 1) := by decide +kernel
theorem dX3_likedPlace_11 : decode cX3_likedPlace 11 = .ok (.iconst 4, 1) := by decide +kernel
theorem dX3_likedPlace_12 : decode cX3_likedPlace 12 = .ok (.if_icmp .eq 8, 3) := by decide +kernel
theorem dX3_likedPlace_15 : decode cX3_likedPlace 15 = .ok (.iload_n 2, 1) := by decide +kernel
theorem dX3_likedPlace_16 : decode cX3_likedPlace 16 = .ok (.iconst 5, 1) := by decide +kernel
theorem dX3_likedPlace_17 : decode cX3_likedPlace 17 = .ok (.if_icmp .ne 5, 3) := by decide +kernel
theorem dX3_likedPlace_20 : decode cX3_likedPlace 20 = .ok (.iload_n 3, 1) := by decide +kernel
theorem dX3_likedPlace_21 : decode cX3_likedPlace 21 = .ok (.ireturn, 1) := by decide +kernel
theorem dX3_likedPlace_22 : decode cX3_likedPlace 22 = .ok (.sipush (-1000), 3) := by decide +kernel
theorem dX3_likedPlace_25 : decode cX3_likedPlace 25 = .ok (.istore 4, 2) := by decide +kernel
theorem dX3_likedPlace_27 : decode cX3_likedPlace 27 = .ok (.iconst 0, 1) := by decide +kernel
theorem dX3_likedPlace_28 : decode cX3_likedPlace 28 = .ok (.istore 5, 2) := by decide +kernel
theorem dX3_likedPlace_30 : decode cX3_likedPlace 30 = .ok (.iload 5, 2) := by decide +kernel
theorem dX3_likedPlace_32 : decode cX3_likedPlace 32 = .ok (.aload_n 0, 1) := by decide +kernel
theorem dX3_likedPlace_33 : decode cX3_likedPlace 33 = .ok (.getfield 9, 3) := by decide +kernel
theorem dX3_likedPlace_36 : decode cX3_likedPlace 36 = .ok (.if_icmp .ge 118, 3) := by decide +kernel
theorem dX3_likedPlace_39 : decode cX3_likedPlace 39 = .ok (.iload 5, 2) := by decide +kernel
theorem dX3_likedPlace_41 : decode cX3_likedPlace 41 = .ok (.bipush 6, 2) := by decide +kernel
theorem dX3_likedPlace_43 : decode cX3_likedPlace 43 = .ok (.if_icmp .ge 111, 3) := by decide +kernel
theorem dX3_likedPlace_46 : decode cX3_likedPlace 46 = .ok (.aload_n 0, 1) := by decide +kernel
theorem dX3_likedPlace_47 : decode cX3_likedPlace 47 = .ok (.getfield 46, 3) := by decide +kernel
theorem dX3_likedPlace_50 : decode cX3_likedPlace 50 = .ok (.iload 5, 2) := by decide +kernel
theorem dX3_likedPlace_52 : decode cX3_likedPlace 52 = .ok (.iaload, 1) := by decide +kernel
theorem dX3_likedPlace_53 : decode cX3_likedPlace 53 = .ok (.istore 6, 2) := by decide +kernel
theorem dX3_likedPlace_55 : decode cX3_likedPlace 55 = .ok (.aload_n 0, 1) := by decide +kernel
theorem dX3_likedPlace_56 : decode cX3_likedPlace 56 = .ok (.iload 6, 2) := by decide +kernel
theorem dX3_likedPlace_58 : decode cX3_likedPlace 58 = .ok (.invokevirtual 61, 3) := by decide +kernel
theorem dX3_likedPlace_61 : decode cX3_likedPlace 61 = .ok (.ifCond .eq 87, 3) := by decide +kernel
theorem dX3_likedPlace_64 : decode cX3_likedPlace 64 = .ok (.aload_n 0, 1) := by decide +kernel
theorem dX3_likedPlace_65 : decode cX3_likedPlace 65 = .ok (.getfield 36, 3) := by decide +kernel
theorem dX3_likedPlace_68 : decode cX3_likedPlace 68 = .ok (.iload 6, 2) := by decide +kernel
theorem dX3_likedPlace_70 : decode cX3_likedPlace 70 = .ok (.iaload, 1) := by decide +kernel
theorem dX3_likedPlace_71 : decode cX3_likedPlace 71 = .ok (.ifCond .eq 77, 3) := by decide +kernel
theorem dX3_likedPlace_74 : decode cX3_likedPlace 74 = .ok (.aload_n 0, 1) := by decide +kernel
theorem dX3_likedPlace_75 : decode cX3_likedPlace 75 = .ok (.iload 6, 2) := by decide +kernel
theorem dX3_likedPlace_77 : decode cX3_likedPlace 77 = .ok (.invokevirtual 102, 3) := by decide +kernel
theorem dX3_likedPlace_80 : decode cX3_likedPlace 80 = .ok (.ifCond .eq 6, 3) := by decide +kernel
theorem dX3_likedPlace_83 : decode cX3_likedPlace 83 = .ok (.goto 65, 3) := by decide +kernel
theorem dX3_likedPlace_86 : decode cX3_likedPlace 86 = .ok (.iload 5, 2) := by decide +kernel
theorem dX3_likedPlace_88 : decode cX3_likedPlace 88 = .ok (.aload_n 0, 1) := by decide +kernel
theorem dX3_likedPlace_89 : decode cX3_likedPlace 89 = .ok (.getfield 52, 3) := by decide +kernel
theorem dX3_likedPlace_92 : decode cX3_likedPlace 92 = .ok (.iload_n 1, 1) := by decide +kernel
theorem dX3_likedPlace_93 : decode cX3_likedPlace 93 = .ok (.iaload, 1) := by decide +kernel
theorem dX3_likedPlace_94 : decode cX3_likedPlace 94 = .ok (.isub, 1) := by decide +kernel
theorem dX3_likedPlace_95 : decode cX3_likedPlace 95 = .ok (.invokestatic 120, 3) := by decide +kernel
theorem dX3_likedPlace_98 : decode cX3_likedPlace 98 = .ok (.istore 7, 2) := by decide +kernel
theorem dX3_likedPlace_100 : decode cX3_likedPlace 100 = .ok (.aload_n 0, 1) := by decide +kernel
theorem dX3_likedPlace_101 : decode cX3_likedPlace 101 = .ok (.getfield 40, 3) := by decide +kernel
theorem dX3_likedPlace_104 : decode cX3_likedPlace 104 = .ok (.iload 6, 2) := by decide +kernel
theorem dX3_likedPlace_106 : decode cX3_likedPlace 106 = .ok (.iaload, 1) := by decide +kernel
theorem dX3_likedPlace_107 : decode cX3_likedPlace 107 = .ok (.iload_n 2, 1) := by decide +kernel
theorem dX3_likedPlace_108 : decode cX3_likedPlace 108 = .ok (.iconst 2, 1) := by decide +kernel
theorem dX3_likedPlace_109 : decode cX3_likedPlace 109 = .ok (.if_icmp .ne 7, 3) := by decide +kernel
theorem dX3_likedPlace_112 : decode cX3_likedPlace 112 = .ok (.iconst 2, 1) := by decide +kernel
theorem dX3_likedPlace_113 : decode cX3_likedPlace 113 = .ok (.goto 4, 3) := by decide +kernel
theorem dX3_likedPlace_116 : decode cX3_likedPlace 116 = .ok (.iconst 1, 1) := by decide +kernel
theorem dX3_likedPlace_117 : decode cX3_likedPlace 117 = .ok (.imul, 1) := by decide +kernel
theorem dX3_likedPlace_118 : decode cX3_likedPlace 118 = .ok (.aload_n 0, 1) := by decide +kernel
theorem dX3_likedPlace_119 : decode cX3_likedPlace 119 = .ok (.getfield 36, 3) := by decide +kernel
theorem dX3_likedPlace_122 : decode cX3_likedPlace 122 = .ok (.iload 6, 2) := by decide +kernel
theorem dX3_likedPlace_124 : decode cX3_likedPlace 124 = .ok (.iaload, 1) := by decide +kernel
theorem dX3_likedPlace_125 : decode cX3_likedPlace 125 = .ok (.bipush 10, 2) := by decide +kernel
theorem dX3_likedPlace_127 : decode cX3_likedPlace 127 = .ok (.idiv, 1) := by decide +kernel
theorem dX3_likedPlace_128 : decode cX3_likedPlace 128 = .ok (.iadd, 1) := by decide +kernel
theorem dX3_likedPlace_129 : decode cX3_likedPlace 129 = .ok (.iload 7, 2) := by decide +kernel
theorem dX3_likedPlace_131 : decode cX3_likedPlace 131 = .ok (.isub, 1) := by decide +kernel
theorem dX3_likedPlace_132 : decode cX3_likedPlace 132 = .ok (.istore 8, 2) := by decide +kernel
theorem dX3_likedPlace_134 : decode cX3_likedPlace 134 = .ok (.iload 8, 2) := by decide +kernel
theorem dX3_likedPlace_136 : decode cX3_likedPlace 136 = .ok (.iload 4, 2) := by decide +kernel
theorem dX3_likedPlace_138 : decode cX3_likedPlace 138 = .ok (.if_icmp .le 10, 3) := by decide +kernel
theorem dX3_likedPlace_141 : decode cX3_likedPlace 141 = .ok (.iload 8, 2) := by decide +kernel
theorem dX3_likedPlace_143 : decode cX3_likedPlace 143 = .ok (.istore 4, 2) := by decide +kernel
theorem dX3_likedPlace_145 : decode cX3_likedPlace 145 = .ok (.iload 5, 2) := by decide +kernel
theorem dX3_likedPlace_147 : decode cX3_likedPlace 147 = .ok (.istore_n 3, 1) := by decide +kernel
theorem dX3_likedPlace_148 : decode cX3_likedPlace 148 = .ok (.iinc 5 1, 3) := by decide +kernel
theorem dX3_likedPlace_151 : decode cX3_likedPlace 151 = .ok (.goto (-121), 3) := by decide +kernel
theorem dX3_likedPlace_154 : decode cX3_likedPlace 154 = .ok (.iload_n 3, 1) := by decide +kernel
theorem dX3_likedPlace_155 : decode cX3_likedPlace 155 = .ok (.ireturn, 1) := by decide +kernel
theorem dX4_isRow_0 : decode cX4_isRow 0 = .ok (.iload_n 0, 1) := by decide +kernel
theorem dX4_isRow_1 : decode cX4_isRow 1 = .ok (.ifCond .lt 13, 3) := by decide +kernel
theorem dX4_isRow_4 : decode cX4_isRow 4 = .ok (.iload_n 0, 1) := by decide +kernel
theorem dX4_isRow_5 : decode cX4_isRow 5 = .ok (.bipush 8, 2) := by decide +kernel
theorem dX4_isRow_7 : decode cX4_isRow 7 = .ok (.if_icmp .ge 7, 3) := by decide +kernel
theorem dX4_isRow_10 : decode cX4_isRow 10 = .ok (.iconst 1, 1) := by decide +kernel
theorem dX4_isRow_11 : decode cX4_isRow 11 = .ok (.goto 4, 3) := by decide +kernel
theorem dX4_isRow_14 : decode cX4_isRow 14 = .ok (.iconst 0, 1) := by decide +kernel
theorem dX4_isRow_15 : decode cX4_isRow 15 = .ok (.ireturn, 1) := by decide +kernel
theorem dX4_isLane_0 : decode cX4_isLane 0 = .ok (.iload_n 0, 1) := by decide +kernel
theorem dX4_isLane_1 : decode cX4_isLane 1 = .ok (.ifCond .lt 12, 3) := by decide +kernel
theorem dX4_isLane_4 : decode cX4_isLane 4 = .ok (.iload_n 0, 1) := by decide +kernel
theorem dX4_isLane_5 : decode cX4_isLane 5 = .ok (.iconst 2, 1) := by decide +kernel
theorem dX4_isLane_6 : decode cX4_isLane 6 = .ok (.if_icmp .gt 7, 3) := by decide +kernel
theorem dX4_isLane_9 : decode cX4_isLane 9 = .ok (.iconst 1, 1) := by decide +kernel
theorem dX4_isLane_10 : decode cX4_isLane 10 = .ok (.goto 4, 3) := by decide +kernel
theorem dX4_isLane_13 : decode cX4_isLane 13 = .ok (.iconst 0, 1) := by decide +kernel
theorem dX4_isLane_14 : decode cX4_isLane 14 = .ok (.ireturn, 1) := by decide +kernel
theorem dX4_isMissing_0 : decode cX4_isMissing 0 = .ok (.iload_n 1, 1) := by decide +kernel
theorem dX4_isMissing_1 : decode cX4_isMissing 1 = .ok (.invokestatic 28, 3) := by decide +kernel
theorem dX4_isMissing_4 : decode cX4_isMissing 4 = .ok (.ifCond .eq 13, 3) := by decide +kernel
theorem dX4_isMissing_7 : decode cX4_isMissing 7 = .ok (.aload_n 0, 1) := by decide +kernel
theorem dX4_isMissing_8 : decode cX4_isMissing 8 = .ok (.getfield 11, 3) := by decide +kernel
theorem dX4_isMissing_11 : decode cX4_isMissing 11 = .ok (.iload_n 1, 1) := by decide +kernel
theorem dX4_isMissing_12 : decode cX4_isMissing 12 = .ok (.iaload, 1) := by decide +kernel
theorem dX4_isMissing_13 : decode cX4_isMissing 13 = .ok (.iconst (-1), 1) := by decide +kernel
theorem dX4_isMissing_14 : decode cX4_isMissing 14 = .ok (.if_icmp .ne 7, 3) := by decide +kernel
theorem dX4_isMissing_17 : decode cX4_isMissing 17 = .ok (.iconst 1, 1) := by decide +kernel
theorem dX4_isMissing_18 : decode cX4_isMissing 18 = .ok (.goto 4, 3) := by decide +kernel
theorem dX4_isMissing_21 : decode cX4_isMissing 21 = .ok (.iconst 0, 1) := by decide +kernel
theorem dX4_isMissing_22 : decode cX4_isMissing 22 = .ok (.ireturn, 1) := by decide +kernel
theorem dX4_findingAt_0 : decode cX4_findingAt 0 = .ok (.aload_n 0, 1) := by decide +kernel
theorem dX4_findingAt_1 : decode cX4_findingAt 1 = .ok (.iload_n 1, 1) := by decide +kernel
theorem dX4_findingAt_2 : decode cX4_findingAt 2 = .ok (.invokevirtual 32, 3) := by decide +kernel
theorem dX4_findingAt_5 : decode cX4_findingAt 5 = .ok (.ifCond .eq 5, 3) := by decide +kernel
theorem dX4_findingAt_8 : decode cX4_findingAt 8 = .ok (.iconst 1, 1) := by decide +kernel
theorem dX4_findingAt_9 : decode cX4_findingAt 9 = .ok (.ireturn, 1) := by decide +kernel
theorem dX4_findingAt_10 : decode cX4_findingAt 10 = .ok (.iload_n 2, 1) := by decide +kernel
theorem dX4_findingAt_11 : decode cX4_findingAt 11 = .ok (.ifCond .lt 33, 3) := by decide +kernel
theorem dX4_findingAt_14 : decode cX4_findingAt 14 = .ok (.iload_n 3, 1) := by decide +kernel
theorem dX4_findingAt_15 : decode cX4_findingAt 15 = .ok (.ifCond .lt 29, 3) := by decide +kernel
theorem dX4_findingAt_18 : decode cX4_findingAt 18 = .ok (.iload_n 3, 1) := by decide +kernel
theorem dX4_findingAt_19 : decode cX4_findingAt 19 = .ok (.aload_n 0, 1) := by decide +kernel
theorem dX4_findingAt_20 : decode cX4_findingAt 20 = .ok (.getfield 15, 3) := by decide +kernel
theorem dX4_findingAt_23 : decode cX4_findingAt 23 = .ok (.iload_n 1, 1) := by decide +kernel
theorem dX4_findingAt_24 : decode cX4_findingAt 24 = .ok (.iaload, 1) := by decide +kernel
theorem dX4_findingAt_25 : decode cX4_findingAt 25 = .ok (.if_icmp .gt 19, 3) := by decide +kernel
theorem dX4_findingAt_28 : decode cX4_findingAt 28 = .ok (.iload_n 2, 1) := by decide +kernel
theorem dX4_findingAt_29 : decode cX4_findingAt 29 = .ok (.aload_n 0, 1) := by decide +kernel
theorem dX4_findingAt_30 : decode cX4_findingAt 30 = .ok (.getfield 15, 3) := by decide +kernel
theorem dX4_findingAt_33 : decode cX4_findingAt 33 = .ok (.iload_n 1, 1) := by decide +kernel
theorem dX4_findingAt_34 : decode cX4_findingAt 34 = .ok (.iaload, 1) := by decide +kernel
theorem dX4_findingAt_35 : decode cX4_findingAt 35 = .ok (.iload_n 3, 1) := by decide +kernel
theorem dX4_findingAt_36 : decode cX4_findingAt 36 = .ok (.isub, 1) := by decide +kernel
theorem dX4_findingAt_37 : decode cX4_findingAt 37 = .ok (.if_icmp .gt 7, 3) := by decide +kernel
theorem dX4_findingAt_40 : decode cX4_findingAt 40 = .ok (.iconst 1, 1) := by decide +kernel
theorem dX4_findingAt_41 : decode cX4_findingAt 41 = .ok (.goto 4, 3) := by decide +kernel
theorem dX4_findingAt_44 : decode cX4_findingAt 44 = .ok (.iconst 0, 1) := by decide +kernel
theorem dX4_findingAt_45 : decode cX4_findingAt 45 = .ok (.istore 4, 2) := by decide +kernel
theorem dX4_findingAt_47 : decode cX4_findingAt 47 = .ok (.iload 4, 2) := by decide +kernel
theorem dX4_findingAt_49 : decode cX4_findingAt 49 = .ok (.ifCond .eq 7, 3) := by decide +kernel
theorem dX4_findingAt_52 : decode cX4_findingAt 52 = .ok (.iconst 0, 1) := by decide +kernel
theorem dX4_findingAt_53 : decode cX4_findingAt 53 = .ok (.goto 4, 3) := by decide +kernel
theorem dX4_findingAt_56 : decode cX4_findingAt 56 = .ok (.iconst 2, 1) := by decide +kernel
theorem dX4_findingAt_57 : decode cX4_findingAt 57 = .ok (.ireturn, 1) := by decide +kernel
theorem dX4_findingOfCopy_0 : decode cX4_findingOfCopy 0 = .ok (.aload_n 0, 1) := by decide +kernel
theorem dX4_findingOfCopy_1 : decode cX4_findingOfCopy 1 = .ok (.iload_n 1, 1) := by decide +kernel
theorem dX4_findingOfCopy_2 : decode cX4_findingOfCopy 2 = .ok (.invokevirtual 32, 3) := by decide +kernel
theorem dX4_findingOfCopy_5 : decode cX4_findingOfCopy 5 = .ok (.ifCond .ne 11, 3) := by decide +kernel
theorem dX4_findingOfCopy_8 : decode cX4_findingOfCopy 8 = .ok (.aload_n 0, 1) := by decide +kernel
theorem dX4_findingOfCopy_9 : decode cX4_findingOfCopy 9 = .ok (.iload_n 3, 1) := by decide +kernel
theorem dX4_findingOfCopy_10 : decode cX4_findingOfCopy 10 = .ok (.invokevirtual 32, 3) := by decide +kernel
theorem dX4_findingOfCopy_13 : decode cX4_findingOfCopy 13 = .ok (.ifCond .eq 5, 3) := by decide +kernel
theorem dX4_findingOfCopy_16 : decode cX4_findingOfCopy 16 = .ok (.iconst 1, 1) := by decide +kernel
theorem dX4_findingOfCopy_17 : decode cX4_findingOfCopy 17 = .ok (.ireturn, 1) := by decide +kernel
theorem dX4_findingOfCopy_18 : decode cX4_findingOfCopy 18 = .ok (.aload_n 0, 1) := by decide +kernel
theorem dX4_findingOfCopy_19 : decode cX4_findingOfCopy 19 = .ok (.getfield 11, 3) := by decide +kernel
theorem dX4_findingOfCopy_22 : decode cX4_findingOfCopy 22 = .ok (.iload_n 1, 1) := by decide +kernel
theorem dX4_findingOfCopy_23 : decode cX4_findingOfCopy 23 = .ok (.iaload, 1) := by decide +kernel
theorem dX4_findingOfCopy_24 : decode cX4_findingOfCopy 24 = .ok (.aload_n 0, 1) := by decide +kernel
theorem dX4_findingOfCopy_25 : decode cX4_findingOfCopy 25 = .ok (.getfield 11, 3) := by decide +kernel
theorem dX4_findingOfCopy_28 : decode cX4_findingOfCopy 28 = .ok (.iload_n 3, 1) := by decide +kernel
theorem dX4_findingOfCopy_29 : decode cX4_findingOfCopy 29 = .ok (.iaload, 1) := by decide +kernel
theorem dX4_findingOfCopy_30 : decode cX4_findingOfCopy 30 = .ok (.if_icmp .eq 5, 3) := by decide +kernel
theorem dX4_findingOfCopy_33 : decode cX4_findingOfCopy 33 = .ok (.iconst 5, 1) := by decide +kernel
theorem dX4_findingOfCopy_34 : decode cX4_findingOfCopy 34 = .ok (.ireturn, 1) := by decide +kernel
theorem dX4_findingOfCopy_35 : decode cX4_findingOfCopy 35 = .ok (.aload_n 0, 1) := by decide +kernel
theorem dX4_findingOfCopy_36 : decode cX4_findingOfCopy 36 = .ok (.iload_n 1, 1) := by decide +kernel
theorem dX4_findingOfCopy_37 : decode cX4_findingOfCopy 37 = .ok (.iload_n 2, 1) := by decide +kernel
theorem dX4_findingOfCopy_38 : decode cX4_findingOfCopy 38 = .ok (.iload 5, 2) := by decide +kernel
theorem dX4_findingOfCopy_40 : decode cX4_findingOfCopy 40 = .ok (.invokevirtual 35, 3) := by decide +kernel
theorem dX4_findingOfCopy_43 : decode cX4_findingOfCopy 43 = .ok (.istore 6, 2) := by decide +kernel
theorem dX4_findingOfCopy_45 : decode cX4_findingOfCopy 45 = .ok (.iload 6, 2) := by decide +kernel
theorem dX4_findingOfCopy_47 : decode cX4_findingOfCopy 47 = .ok (.ifCond .eq 8, 3) := by decide +kernel
theorem dX4_findingOfCopy_50 : decode cX4_findingOfCopy 50 = .ok (.iload 6, 2) := by decide +kernel
theorem dX4_findingOfCopy_52 : decode cX4_findingOfCopy 52 = .ok (.goto 12, 3) := by decide +kernel
theorem dX4_findingOfCopy_55 : decode cX4_findingOfCopy 55 = .ok (.aload_n 0, 1) := by decide +kernel
theorem dX4_findingOfCopy_56 : decode cX4_findingOfCopy 56 = .ok (.iload_n 3, 1) := by decide +kernel
theorem dX4_findingOfCopy_57 : decode cX4_findingOfCopy 57 = .ok (.iload 4, 2) := by decide +kernel
theorem dX4_findingOfCopy_59 : decode cX4_findingOfCopy 59 = .ok (.iload 5, 2) := by decide +kernel
theorem dX4_findingOfCopy_61 : decode cX4_findingOfCopy 61 = .ok (.invokevirtual 35, 3) := by decide +kernel
theorem dX4_findingOfCopy_64 : decode cX4_findingOfCopy 64 = .ok (.ireturn, 1) := by decide +kernel
theorem dX4_make_0 : decode cX4_make 0 = .ok (.iload_n 1, 1) := by decide +kernel
theorem dX4_make_1 : decode cX4_make 1 = .ok (.invokestatic 28, 3) := by decide +kernel
theorem dX4_make_4 : decode cX4_make 4 = .ok (.ifCond .ne 4, 3) := by decide +kernel
theorem dX4_make_7 : decode cX4_make 7 = .ok (.return_, 1) := by decide +kernel
theorem dX4_make_8 : decode cX4_make 8 = .ok (.aload_n 0, 1) := by decide +kernel
theorem dX4_make_9 : decode cX4_make 9 = .ok (.getfield 11, 3) := by decide +kernel
theorem dX4_make_12 : decode cX4_make 12 = .ok (.iload_n 1, 1) := by decide +kernel
theorem dX4_make_13 : decode cX4_make 13 = .ok (.iload_n 2, 1) := by decide +kernel
theorem dX4_make_14 : decode cX4_make 14 = .ok (.iastore, 1) := by decide +kernel
theorem dX4_make_15 : decode cX4_make 15 = .ok (.aload_n 0, 1) := by decide +kernel
theorem dX4_make_16 : decode cX4_make 16 = .ok (.getfield 15, 3) := by decide +kernel
theorem dX4_make_19 : decode cX4_make 19 = .ok (.iload_n 1, 1) := by decide +kernel
theorem dX4_make_20 : decode cX4_make 20 = .ok (.iload_n 3, 1) := by decide +kernel
theorem dX4_make_21 : decode cX4_make 21 = .ok (.iastore, 1) := by decide +kernel
theorem dX4_make_22 : decode cX4_make 22 = .ok (.iconst 0, 1) := by decide +kernel
theorem dX4_make_23 : decode cX4_make 23 = .ok (.istore 4, 2) := by decide +kernel
theorem dX4_make_25 : decode cX4_make 25 = .ok (.iload 4, 2) := by decide +kernel
theorem dX4_make_27 : decode cX4_make 27 = .ok (.bipush 40, 2) := by decide +kernel
theorem dX4_make_29 : decode cX4_make 29 = .ok (.if_icmp .ge 22, 3) := by decide +kernel
theorem dX4_make_32 : decode cX4_make 32 = .ok (.aload_n 0, 1) := by decide +kernel
theorem dX4_make_33 : decode cX4_make 33 = .ok (.getfield 18, 3) := by decide +kernel
theorem dX4_make_36 : decode cX4_make 36 = .ok (.iload_n 1, 1) := by decide +kernel
theorem dX4_make_37 : decode cX4_make 37 = .ok (.bipush 40, 2) := by decide +kernel
theorem dX4_make_39 : decode cX4_make 39 = .ok (.imul, 1) := by decide +kernel
theorem dX4_make_40 : decode cX4_make 40 = .ok (.iload 4, 2) := by decide +kernel
theorem dX4_make_42 : decode cX4_make 42 = .ok (.iadd, 1) := by decide +kernel
theorem dX4_make_43 : decode cX4_make 43 = .ok (.iconst 0, 1) := by decide +kernel
theorem dX4_make_44 : decode cX4_make 44 = .ok (.iastore, 1) := by decide +kernel
theorem dX4_make_45 : decode cX4_make 45 = .ok (.iinc 4 1, 3) := by decide +kernel
theorem dX4_make_48 : decode cX4_make 48 = .ok (.goto (-23), 3) := by decide +kernel
theorem dX4_make_51 : decode cX4_make 51 = .ok (.return_, 1) := by decide +kernel
theorem dX4_put_0 : decode cX4_put 0 = .ok (.aload_n 0, 1) := by decide +kernel
theorem dX4_put_1 : decode cX4_put 1 = .ok (.iload_n 1, 1) := by decide +kernel
theorem dX4_put_2 : decode cX4_put 2 = .ok (.iload_n 2, 1) := by decide +kernel
theorem dX4_put_3 : decode cX4_put 3 = .ok (.iconst 1, 1) := by decide +kernel
theorem dX4_put_4 : decode cX4_put 4 = .ok (.invokevirtual 35, 3) := by decide +kernel
theorem dX4_put_7 : decode cX4_put 7 = .ok (.ifCond .eq 5, 3) := by decide +kernel
theorem dX4_put_10 : decode cX4_put 10 = .ok (.iconst 0, 1) := by decide +kernel
theorem dX4_put_11 : decode cX4_put 11 = .ok (.ireturn, 1) := by decide +kernel
theorem dX4_put_12 : decode cX4_put 12 = .ok (.aload_n 0, 1) := by decide +kernel
theorem dX4_put_13 : decode cX4_put 13 = .ok (.getfield 11, 3) := by decide +kernel
theorem dX4_put_16 : decode cX4_put 16 = .ok (.iload_n 1, 1) := by decide +kernel
theorem dX4_put_17 : decode cX4_put 17 = .ok (.iaload, 1) := by decide +kernel
theorem dX4_put_18 : decode cX4_put 18 = .ok (.ifCond .ne 8, 3) := by decide +kernel
theorem dX4_put_21 : decode cX4_put 21 = .ok (.iload_n 3, 1) := by decide +kernel
theorem dX4_put_22 : decode cX4_put 22 = .ok (.i2b, 1) := by decide +kernel
theorem dX4_put_23 : decode cX4_put 23 = .ok (.goto 19, 3) := by decide +kernel
theorem dX4_put_26 : decode cX4_put 26 = .ok (.aload_n 0, 1) := by decide +kernel
theorem dX4_put_27 : decode cX4_put 27 = .ok (.getfield 11, 3) := by decide +kernel
theorem dX4_put_30 : decode cX4_put 30 = .ok (.iload_n 1, 1) := by decide +kernel
theorem dX4_put_31 : decode cX4_put 31 = .ok (.iaload, 1) := by decide +kernel
theorem dX4_put_32 : decode cX4_put 32 = .ok (.iconst 1, 1) := by decide +kernel
theorem dX4_put_33 : decode cX4_put 33 = .ok (.if_icmp .ne 8, 3) := by decide +kernel
theorem dX4_put_36 : decode cX4_put 36 = .ok (.iload_n 3, 1) := by decide +kernel
theorem dX4_put_37 : decode cX4_put 37 = .ok (.i2s, 1) := by decide +kernel
theorem dX4_put_38 : decode cX4_put 38 = .ok (.goto 4, 3) := by decide +kernel
theorem dX4_put_41 : decode cX4_put 41 = .ok (.iload_n 3, 1) := by decide +kernel
theorem dX4_put_42 : decode cX4_put 42 = .ok (.istore 4, 2) := by decide +kernel
theorem dX4_put_44 : decode cX4_put 44 = .ok (.aload_n 0, 1) := by decide +kernel
theorem dX4_put_45 : decode cX4_put 45 = .ok (.getfield 18, 3) := by decide +kernel
theorem dX4_put_48 : decode cX4_put 48 = .ok (.iload_n 1, 1) := by decide +kernel
theorem dX4_put_49 : decode cX4_put 49 = .ok (.bipush 40, 2) := by decide +kernel
theorem dX4_put_51 : decode cX4_put 51 = .ok (.imul, 1) := by decide +kernel
theorem dX4_put_52 : decode cX4_put 52 = .ok (.iload_n 2, 1) := by decide +kernel
theorem dX4_put_53 : decode cX4_put 53 = .ok (.iadd, 1) := by decide +kernel
theorem dX4_put_54 : decode cX4_put 54 = .ok (.iload 4, 2) := by decide +kernel
theorem dX4_put_56 : decode cX4_put 56 = .ok (.iastore, 1) := by decide +kernel
theorem dX4_put_57 : decode cX4_put 57 = .ok (.iload 4, 2) := by decide +kernel
theorem dX4_put_59 : decode cX4_put 59 = .ok (.ireturn, 1) := by decide +kernel
theorem dX4_shift_0 : decode cX4_shift 0 = .ok (.aload_n 0, 1) := by decide +kernel
theorem dX4_shift_1 : decode cX4_shift 1 = .ok (.iload_n 1, 1) := by decide +kernel
theorem dX4_shift_2 : decode cX4_shift 2 = .ok (.iload_n 2, 1) := by decide +kernel
theorem dX4_shift_3 : decode cX4_shift 3 = .ok (.iload_n 3, 1) := by decide +kernel
theorem dX4_shift_4 : decode cX4_shift 4 = .ok (.iload 4, 2) := by decide +kernel
theorem dX4_shift_6 : decode cX4_shift 6 = .ok (.iload 5, 2) := by decide +kernel
theorem dX4_shift_8 : decode cX4_shift 8 = .ok (.invokevirtual 39, 3) := by decide +kernel
theorem dX4_shift_11 : decode cX4_shift 11 = .ok (.ifCond .ne 29, 3) := by decide +kernel
theorem dX4_shift_14 : decode cX4_shift 14 = .ok (.aload_n 0, 1) := by decide +kernel
theorem dX4_shift_15 : decode cX4_shift 15 = .ok (.getfield 18, 3) := by decide +kernel
theorem dX4_shift_18 : decode cX4_shift 18 = .ok (.iload_n 1, 1) := by decide +kernel
theorem dX4_shift_19 : decode cX4_shift 19 = .ok (.bipush 40, 2) := by decide +kernel
theorem dX4_shift_21 : decode cX4_shift 21 = .ok (.imul, 1) := by decide +kernel
theorem dX4_shift_22 : decode cX4_shift 22 = .ok (.iload_n 2, 1) := by decide +kernel
theorem dX4_shift_23 : decode cX4_shift 23 = .ok (.iadd, 1) := by decide +kernel
theorem dX4_shift_24 : decode cX4_shift 24 = .ok (.aload_n 0, 1) := by decide +kernel
theorem dX4_shift_25 : decode cX4_shift 25 = .ok (.getfield 18, 3) := by decide +kernel
theorem dX4_shift_28 : decode cX4_shift 28 = .ok (.iload_n 3, 1) := by decide +kernel
theorem dX4_shift_29 : decode cX4_shift 29 = .ok (.bipush 40, 2) := by decide +kernel
theorem dX4_shift_31 : decode cX4_shift 31 = .ok (.imul, 1) := by decide +kernel
theorem dX4_shift_32 : decode cX4_shift 32 = .ok (.iload 4, 2) := by decide +kernel
theorem dX4_shift_34 : decode cX4_shift 34 = .ok (.iadd, 1) := by decide +kernel
theorem dX4_shift_35 : decode cX4_shift 35 = .ok (.iload 5, 2) := by decide +kernel
theorem dX4_shift_37 : decode cX4_shift 37 = .ok (.invokestatic 43, 3) := by decide +kernel
theorem dX4_shift_40 : decode cX4_shift 40 = .ok (.return_, 1) := by decide +kernel
theorem dX4_remove_0 : decode cX4_remove 0 = .ok (.aload_n 0, 1) := by decide +kernel
theorem dX4_remove_1 : decode cX4_remove 1 = .ok (.iload_n 1, 1) := by decide +kernel
theorem dX4_remove_2 : decode cX4_remove 2 = .ok (.invokevirtual 32, 3) := by decide +kernel
theorem dX4_remove_5 : decode cX4_remove 5 = .ok (.ifCond .eq 5, 3) := by decide +kernel
theorem dX4_remove_8 : decode cX4_remove 8 = .ok (.iconst 0, 1) := by decide +kernel
theorem dX4_remove_9 : decode cX4_remove 9 = .ok (.ireturn, 1) := by decide +kernel
theorem dX4_remove_10 : decode cX4_remove 10 = .ok (.aload_n 0, 1) := by decide +kernel
theorem dX4_remove_11 : decode cX4_remove 11 = .ok (.getfield 11, 3) := by decide +kernel
theorem dX4_remove_14 : decode cX4_remove 14 = .ok (.iload_n 1, 1) := by decide +kernel
theorem dX4_remove_15 : decode cX4_remove 15 = .ok (.iconst (-1), 1) := by decide +kernel
theorem dX4_remove_16 : decode cX4_remove 16 = .ok (.iastore, 1) := by decide +kernel
theorem dX4_remove_17 : decode cX4_remove 17 = .ok (.aload_n 0, 1) := by decide +kernel
theorem dX4_remove_18 : decode cX4_remove 18 = .ok (.getfield 15, 3) := by decide +kernel
theorem dX4_remove_21 : decode cX4_remove 21 = .ok (.iload_n 1, 1) := by decide +kernel
theorem dX4_remove_22 : decode cX4_remove 22 = .ok (.iaload, 1) := by decide +kernel
theorem dX4_remove_23 : decode cX4_remove 23 = .ok (.ireturn, 1) := by decide +kernel
theorem dX4_standing_0 : decode cX4_standing 0 = .ok (.iconst 0, 1) := by decide +kernel
theorem dX4_standing_1 : decode cX4_standing 1 = .ok (.istore_n 1, 1) := by decide +kernel
theorem dX4_standing_2 : decode cX4_standing 2 = .ok (.iconst 0, 1) := by decide +kernel
theorem dX4_standing_3 : decode cX4_standing 3 = .ok (.istore_n 2, 1) := by decide +kernel
theorem dX4_standing_4 : decode cX4_standing 4 = .ok (.iload_n 2, 1) := by decide +kernel
theorem dX4_standing_5 : decode cX4_standing 5 = .ok (.bipush 8, 2) := by decide +kernel
theorem dX4_standing_7 : decode cX4_standing 7 = .ok (.if_icmp .ge 27, 3) := by decide +kernel
theorem dX4_standing_10 : decode cX4_standing 10 = .ok (.iload_n 1, 1) := by decide +kernel
theorem dX4_standing_11 : decode cX4_standing 11 = .ok (.aload_n 0, 1) := by decide +kernel
theorem dX4_standing_12 : decode cX4_standing 12 = .ok (.getfield 11, 3) := by decide +kernel
theorem dX4_standing_15 : decode cX4_standing 15 = .ok (.iload_n 2, 1) := by decide +kernel
theorem dX4_standing_16 : decode cX4_standing 16 = .ok (.iaload, 1) := by decide +kernel
theorem dX4_standing_17 : decode cX4_standing 17 = .ok (.iconst (-1), 1) := by decide +kernel
theorem dX4_standing_18 : decode cX4_standing 18 = .ok (.if_icmp .ne 7, 3) := by decide +kernel
theorem dX4_standing_21 : decode cX4_standing 21 = .ok (.iconst 0, 1) := by decide +kernel
theorem dX4_standing_22 : decode cX4_standing 22 = .ok (.goto 4, 3) := by decide +kernel
theorem dX4_standing_25 : decode cX4_standing 25 = .ok (.iconst 1, 1) := by decide +kernel
theorem dX4_standing_26 : decode cX4_standing 26 = .ok (.iadd, 1) := by decide +kernel
theorem dX4_standing_27 : decode cX4_standing 27 = .ok (.istore_n 1, 1) := by decide +kernel
theorem dX4_standing_28 : decode cX4_standing 28 = .ok (.iinc 2 1, 3) := by decide +kernel
theorem dX4_standing_31 : decode cX4_standing 31 = .ok (.goto (-27), 3) := by decide +kernel
theorem dX4_standing_34 : decode cX4_standing 34 = .ok (.iload_n 1, 1) := by decide +kernel
theorem dX4_standing_35 : decode cX4_standing 35 = .ok (.ireturn, 1) := by decide +kernel
theorem dX4_pick_0 : decode cX4_pick 0 = .ok (.aload_n 0, 1) := by decide +kernel
theorem dX4_pick_1 : decode cX4_pick 1 = .ok (.iload_n 1, 1) := by decide +kernel
theorem dX4_pick_2 : decode cX4_pick 2 = .ok (.iload_n 2, 1) := by decide +kernel
theorem dX4_pick_3 : decode cX4_pick 3 = .ok (.iload_n 3, 1) := by decide +kernel
theorem dX4_pick_4 : decode cX4_pick 4 = .ok (.invokevirtual 35, 3) := by decide +kernel
theorem dX4_pick_7 : decode cX4_pick 7 = .ok (.ifCond .ne 7, 3) := by decide +kernel
theorem dX4_pick_10 : decode cX4_pick 10 = .ok (.iconst 1, 1) := by decide +kernel
theorem dX4_pick_11 : decode cX4_pick 11 = .ok (.goto 4, 3) := by decide +kernel
theorem dX4_pick_14 : decode cX4_pick 14 = .ok (.iconst 0, 1) := by decide +kernel
theorem dX4_pick_15 : decode cX4_pick 15 = .ok (.istore 4, 2) := by decide +kernel
theorem dX4_pick_17 : decode cX4_pick 17 = .ok (.aload_n 0, 1) := by decide +kernel
theorem dX4_pick_18 : decode cX4_pick 18 = .ok (.iload 4, 2) := by decide +kernel
theorem dX4_pick_20 : decode cX4_pick 20 = .ok (.ifCond .eq 12, 3) := by decide +kernel
theorem dX4_pick_23 : decode cX4_pick 23 = .ok (.iload_n 1, 1) := by decide +kernel
theorem dX4_pick_24 : decode cX4_pick 24 = .ok (.bipush 40, 2) := by decide +kernel
theorem dX4_pick_26 : decode cX4_pick 26 = .ok (.imul, 1) := by decide +kernel
theorem dX4_pick_27 : decode cX4_pick 27 = .ok (.iload_n 2, 1) := by decide +kernel
theorem dX4_pick_28 : decode cX4_pick 28 = .ok (.iadd, 1) := by decide +kernel
theorem dX4_pick_29 : decode cX4_pick 29 = .ok (.goto 4, 3) := by decide +kernel
theorem dX4_pick_32 : decode cX4_pick 32 = .ok (.iconst 0, 1) := by decide +kernel
theorem dX4_pick_33 : decode cX4_pick 33 = .ok (.putfield 21, 3) := by decide +kernel
theorem dX4_pick_36 : decode cX4_pick 36 = .ok (.aload_n 0, 1) := by decide +kernel
theorem dX4_pick_37 : decode cX4_pick 37 = .ok (.iload 4, 2) := by decide +kernel
theorem dX4_pick_39 : decode cX4_pick 39 = .ok (.ifCond .eq 7, 3) := by decide +kernel
theorem dX4_pick_42 : decode cX4_pick 42 = .ok (.iload_n 3, 1) := by decide +kernel
theorem dX4_pick_43 : decode cX4_pick 43 = .ok (.goto 4, 3) := by decide +kernel
theorem dX4_pick_46 : decode cX4_pick 46 = .ok (.iconst 0, 1) := by decide +kernel
theorem dX4_pick_47 : decode cX4_pick 47 = .ok (.putfield 25, 3) := by decide +kernel
theorem dX4_pick_50 : decode cX4_pick 50 = .ok (.return_, 1) := by decide +kernel
theorem dX4_howManyTold_0 : decode cX4_howManyTold 0 = .ok (.aload_n 0, 1) := by decide +kernel
theorem dX4_howManyTold_1 : decode cX4_howManyTold 1 = .ok (.getfield 25, 3) := by decide +kernel
theorem dX4_howManyTold_4 : decode cX4_howManyTold 4 = .ok (.ireturn, 1) := by decide +kernel
theorem dX4_told_0 : decode cX4_told 0 = .ok (.iload_n 1, 1) := by decide +kernel
theorem dX4_told_1 : decode cX4_told 1 = .ok (.ifCond .lt 25, 3) := by decide +kernel
theorem dX4_told_4 : decode cX4_told 4 = .ok (.iload_n 1, 1) := by decide +kernel
theorem dX4_told_5 : decode cX4_told 5 = .ok (.aload_n 0, 1) := by decide +kernel
theorem dX4_told_6 : decode cX4_told 6 = .ok (.getfield 25, 3) := by decide +kernel
theorem dX4_told_9 : decode cX4_told 9 = .ok (.if_icmp .ge 17, 3) := by decide +kernel
theorem dX4_told_12 : decode cX4_told 12 = .ok (.aload_n 0, 1) := by decide +kernel
theorem dX4_told_13 : decode cX4_told 13 = .ok (.getfield 18, 3) := by decide +kernel
theorem dX4_told_16 : decode cX4_told 16 = .ok (.aload_n 0, 1) := by decide +kernel
theorem dX4_told_17 : decode cX4_told 17 = .ok (.getfield 21, 3) := by decide +kernel
theorem dX4_told_20 : decode cX4_told 20 = .ok (.iload_n 1, 1) := by decide +kernel
theorem dX4_told_21 : decode cX4_told 21 = .ok (.iadd, 1) := by decide +kernel
theorem dX4_told_22 : decode cX4_told 22 = .ok (.iaload, 1) := by decide +kernel
theorem dX4_told_23 : decode cX4_told 23 = .ok (.goto 5, 3) := by decide +kernel
theorem dX4_told_26 : decode cX4_told 26 = .ok (.ldc 49, 2) := by decide +kernel
theorem dX4_told_28 : decode cX4_told 28 = .ok (.ireturn, 1) := by decide +kernel
theorem dX5_add_0 : decode cX5_add 0 = .ok (.aload_n 0, 1) := by decide +kernel
theorem dX5_add_1 : decode cX5_add 1 = .ok (.getfield 15, 3) := by decide +kernel
theorem dX5_add_4 : decode cX5_add 4 = .ok (.bipush 120, 2) := by decide +kernel
theorem dX5_add_6 : decode cX5_add 6 = .ok (.if_icmp .lt 5, 3) := by decide +kernel
theorem dX5_add_9 : decode cX5_add 9 = .ok (.iconst 0, 1) := by decide +kernel
theorem dX5_add_10 : decode cX5_add 10 = .ok (.ireturn, 1) := by decide +kernel
theorem dX5_add_11 : decode cX5_add 11 = .ok (.aload_n 0, 1) := by decide +kernel
theorem dX5_add_12 : decode cX5_add 12 = .ok (.getfield 11, 3) := by decide +kernel
theorem dX5_add_15 : decode cX5_add 15 = .ok (.aload_n 0, 1) := by decide +kernel
theorem dX5_add_16 : decode cX5_add 16 = .ok (.getfield 15, 3) := by decide +kernel
theorem dX5_add_19 : decode cX5_add 19 = .ok (.iload_n 1, 1) := by decide +kernel
theorem dX5_add_20 : decode cX5_add 20 = .ok (.iastore, 1) := by decide +kernel
theorem dX5_add_21 : decode cX5_add 21 = .ok (.aload_n 0, 1) := by decide +kernel
theorem dX5_add_22 : decode cX5_add 22 = .ok (.dup, 1) := by decide +kernel
theorem dX5_add_23 : decode cX5_add 23 = .ok (.getfield 15, 3) := by decide +kernel
theorem dX5_add_26 : decode cX5_add 26 = .ok (.iconst 1, 1) := by decide +kernel
theorem dX5_add_27 : decode cX5_add 27 = .ok (.iadd, 1) := by decide +kernel
theorem dX5_add_28 : decode cX5_add 28 = .ok (.putfield 15, 3) := by decide +kernel
theorem dX5_add_31 : decode cX5_add 31 = .ok (.iconst 1, 1) := by decide +kernel
theorem dX5_add_32 : decode cX5_add 32 = .ok (.ireturn, 1) := by decide +kernel
theorem dX5_readInto_0 : decode cX5_readInto 0 = .ok (.aload_n 0, 1) := by decide +kernel
theorem dX5_readInto_1 : decode cX5_readInto 1 = .ok (.iconst 0, 1) := by decide +kernel
theorem dX5_readInto_2 : decode cX5_readInto 2 = .ok (.putfield 22, 3) := by decide +kernel
theorem dX5_readInto_5 : decode cX5_readInto 5 = .ok (.aload_n 0, 1) := by decide +kernel
theorem dX5_readInto_6 : decode cX5_readInto 6 = .ok (.ldc 25, 2) := by decide +kernel
theorem dX5_readInto_8 : decode cX5_readInto 8 = .ok (.putfield 26, 3) := by decide +kernel
theorem dX5_readInto_11 : decode cX5_readInto 11 = .ok (.aload_n 1, 1) := by decide +kernel
theorem dX5_readInto_12 : decode cX5_readInto 12 = .ok (.invokevirtual 29, 3) := by decide +kernel
theorem dX5_readInto_15 : decode cX5_readInto 15 = .ok (.aload_n 0, 1) := by decide +kernel
theorem dX5_readInto_16 : decode cX5_readInto 16 = .ok (.aload_n 1, 1) := by decide +kernel
theorem dX5_readInto_17 : decode cX5_readInto 17 = .ok (.invokevirtual 34, 3) := by decide +kernel
theorem dX5_readInto_20 : decode cX5_readInto 20 = .ok (.aload_n 0, 1) := by decide +kernel
theorem dX5_readInto_21 : decode cX5_readInto 21 = .ok (.aload_n 1, 1) := by decide +kernel
theorem dX5_readInto_22 : decode cX5_readInto 22 = .ok (.invokevirtual 38, 3) := by decide +kernel
theorem dX5_readInto_25 : decode cX5_readInto 25 = .ok (.aload_n 0, 1) := by decide +kernel
theorem dX5_readInto_26 : decode cX5_readInto 26 = .ok (.aload_n 1, 1) := by decide +kernel
theorem dX5_readInto_27 : decode cX5_readInto 27 = .ok (.invokevirtual 41, 3) := by decide +kernel
theorem dX5_readInto_30 : decode cX5_readInto 30 = .ok (.aload_n 0, 1) := by decide +kernel
theorem dX5_readInto_31 : decode cX5_readInto 31 = .ok (.iconst 0, 1) := by decide +kernel
theorem dX5_readInto_32 : decode cX5_readInto 32 = .ok (.putfield 15, 3) := by decide +kernel
theorem dX5_readInto_35 : decode cX5_readInto 35 = .ok (.aload_n 0, 1) := by decide +kernel
theorem dX5_readInto_36 : decode cX5_readInto 36 = .ok (.getfield 26, 3) := by decide +kernel
theorem dX5_readInto_39 : decode cX5_readInto 39 = .ok (.ireturn, 1) := by decide +kernel
theorem dX5_readLaw_0 : decode cX5_readLaw 0 = .ok (.aload_n 0, 1) := by decide +kernel
theorem dX5_readLaw_1 : decode cX5_readLaw 1 = .ok (.bipush 108, 2) := by decide +kernel
theorem dX5_readLaw_3 : decode cX5_readLaw 3 = .ok (.invokevirtual 44, 3) := by decide +kernel
theorem dX5_readLaw_6 : decode cX5_readLaw 6 = .ok (.aload_n 1, 1) := by decide +kernel
theorem dX5_readLaw_7 : decode cX5_readLaw 7 = .ok (.aload_n 0, 1) := by decide +kernel
theorem dX5_readLaw_8 : decode cX5_readLaw 8 = .ok (.iconst 1, 1) := by decide +kernel
theorem dX5_readLaw_9 : decode cX5_readLaw 9 = .ok (.bipush 9, 2) := by decide +kernel
theorem dX5_readLaw_11 : decode cX5_readLaw 11 = .ok (.invokevirtual 48, 3) := by decide +kernel
theorem dX5_readLaw_14 : decode cX5_readLaw 14 = .ok (.putfield 52, 3) := by decide +kernel
theorem dX5_readLaw_17 : decode cX5_readLaw 17 = .ok (.aload_n 0, 1) := by decide +kernel
theorem dX5_readLaw_18 : decode cX5_readLaw 18 = .ok (.bipush 44, 2) := by decide +kernel
theorem dX5_readLaw_20 : decode cX5_readLaw 20 = .ok (.invokevirtual 44, 3) := by decide +kernel
theorem dX5_readLaw_23 : decode cX5_readLaw 23 = .ok (.aload_n 1, 1) := by decide +kernel
theorem dX5_readLaw_24 : decode cX5_readLaw 24 = .ok (.aload_n 0, 1) := by decide +kernel
theorem dX5_readLaw_25 : decode cX5_readLaw 25 = .ok (.iconst 0, 1) := by decide +kernel
theorem dX5_readLaw_26 : decode cX5_readLaw 26 = .ok (.bipush 8, 2) := by decide +kernel
theorem dX5_readLaw_28 : decode cX5_readLaw 28 = .ok (.invokevirtual 48, 3) := by decide +kernel
theorem dX5_readLaw_31 : decode cX5_readLaw 31 = .ok (.putfield 55, 3) := by decide +kernel
theorem dX5_readLaw_34 : decode cX5_readLaw 34 = .ok (.aload_n 0, 1) := by decide +kernel
theorem dX5_readLaw_35 : decode cX5_readLaw 35 = .ok (.bipush 59, 2) := by decide +kernel
theorem dX5_readLaw_37 : decode cX5_readLaw 37 = .ok (.invokevirtual 44, 3) := by decide +kernel
theorem dX5_readLaw_40 : decode cX5_readLaw 40 = .ok (.return_, 1) := by decide +kernel
theorem dX5_readBooks_0 : decode cX5_readBooks 0 = .ok (.aload_n 0, 1) := by decide +kernel
theorem dX5_readBooks_1 : decode cX5_readBooks 1 = .ok (.invokevirtual 58, 3) := by decide +kernel
theorem dX5_readBooks_4 : decode cX5_readBooks 4 = .ok (.bipush 98, 2) := by decide +kernel
theorem dX5_readBooks_6 : decode cX5_readBooks 6 = .ok (.if_icmp .eq 8, 3) := by decide +kernel
theorem dX5_readBooks_9 : decode cX5_readBooks 9 = .ok (.aload_n 0, 1) := by decide +kernel
theorem dX5_readBooks_10 : decode cX5_readBooks 10 = .ok (.iconst 1, 1) := by decide +kernel
theorem dX5_readBooks_11 : decode cX5_readBooks 11 = .ok (.invokevirtual 62, 3) := by decide +kernel
theorem dX5_readBooks_14 : decode cX5_readBooks 14 = .ok (.iconst 0, 1) := by decide +kernel
theorem dX5_readBooks_15 : decode cX5_readBooks 15 = .ok (.istore_n 2, 1) := by decide +kernel
theorem dX5_readBooks_16 : decode cX5_readBooks 16 = .ok (.iload_n 2, 1) := by decide +kernel
theorem dX5_readBooks_17 : decode cX5_readBooks 17 = .ok (.bipush 120, 2) := by decide +kernel
theorem dX5_readBooks_19 : decode cX5_readBooks 19 = .ok (.if_icmp .ge 81, 3) := by decide +kernel
theorem dX5_readBooks_22 : decode cX5_readBooks 22 = .ok (.aload_n 0, 1) := by decide +kernel
theorem dX5_readBooks_23 : decode cX5_readBooks 23 = .ok (.invokevirtual 58, 3) := by decide +kernel
theorem dX5_readBooks_26 : decode cX5_readBooks 26 = .ok (.bipush 98, 2) := by decide +kernel
theorem dX5_readBooks_28 : decode cX5_readBooks 28 = .ok (.if_icmp .ne 72, 3) := by decide +kernel
theorem dX5_readBooks_31 : decode cX5_readBooks 31 = .ok (.aload_n 1, 1) := by decide +kernel
theorem dX5_readBooks_32 : decode cX5_readBooks 32 = .ok (.getfield 65, 3) := by decide +kernel
theorem dX5_readBooks_35 : decode cX5_readBooks 35 = .ok (.bipush 6, 2) := by decide +kernel
theorem dX5_readBooks_37 : decode cX5_readBooks 37 = .ok (.if_icmp .lt 8, 3) := by decide +kernel
theorem dX5_readBooks_40 : decode cX5_readBooks 40 = .ok (.aload_n 0, 1) := by decide +kernel
theorem dX5_readBooks_41 : decode cX5_readBooks 41 = .ok (.iconst 3, 1) := by decide +kernel
theorem dX5_readBooks_42 : decode cX5_readBooks 42 = .ok (.invokevirtual 62, 3) := by decide +kernel
theorem dX5_readBooks_45 : decode cX5_readBooks 45 = .ok (.aload_n 0, 1) := by decide +kernel
theorem dX5_readBooks_46 : decode cX5_readBooks 46 = .ok (.bipush 98, 2) := by decide +kernel
theorem dX5_readBooks_48 : decode cX5_readBooks 48 = .ok (.invokevirtual 44, 3) := by decide +kernel
theorem dX5_readBooks_51 : decode cX5_readBooks 51 = .ok (.aload_n 0, 1) := by decide +kernel
theorem dX5_readBooks_52 : decode cX5_readBooks 52 = .ok (.iconst 0, 1) := by decide +kernel
theorem dX5_readBooks_53 : decode cX5_readBooks 53 = .ok (.bipush 99, 2) := by decide +kernel
theorem dX5_readBooks_55 : decode cX5_readBooks 55 = .ok (.invokevirtual 48, 3) := by decide +kernel
theorem dX5_readBooks_58 : decode cX5_readBooks 58 = .ok (.istore_n 3, 1) := by decide +kernel
theorem dX5_readBooks_59 : decode cX5_readBooks 59 = .ok (.aload_n 0, 1) := by decide +kernel
theorem dX5_readBooks_60 : decode cX5_readBooks 60 = .ok (.bipush 44, 2) := by decide +kernel
theorem dX5_readBooks_62 : decode cX5_readBooks 62 = .ok (.invokevirtual 44, 3) := by decide +kernel
theorem dX5_readBooks_65 : decode cX5_readBooks 65 = .ok (.aload_n 0, 1) := by decide +kernel
theorem dX5_readBooks_66 : decode cX5_readBooks 66 = .ok (.iconst 0, 1) := by decide +kernel
theorem dX5_readBooks_67 : decode cX5_readBooks 67 = .ok (.bipush 9, 2) := by decide +kernel
theorem dX5_readBooks_69 : decode cX5_readBooks 69 = .ok (.invokevirtual 48, 3) := by decide +kernel
theorem dX5_readBooks_72 : decode cX5_readBooks 72 = .ok (.istore 4, 2) := by decide +kernel
theorem dX5_readBooks_74 : decode cX5_readBooks 74 = .ok (.aload_n 0, 1) := by decide +kernel
theorem dX5_readBooks_75 : decode cX5_readBooks 75 = .ok (.bipush 59, 2) := by decide +kernel
theorem dX5_readBooks_77 : decode cX5_readBooks 77 = .ok (.invokevirtual 44, 3) := by decide +kernel
theorem dX5_readBooks_80 : decode cX5_readBooks 80 = .ok (.aload_n 0, 1) := by decide +kernel
theorem dX5_readBooks_81 : decode cX5_readBooks 81 = .ok (.invokevirtual 68, 3) := by decide +kernel
theorem dX5_readBooks_84 : decode cX5_readBooks 84 = .ok (.ifCond .eq 10, 3) := by decide +kernel
theorem dX5_readBooks_87 : decode cX5_readBooks 87 = .ok (.aload_n 1, 1) := by decide +kernel
theorem dX5_readBooks_88 : decode cX5_readBooks 88 = .ok (.iload_n 3, 1) := by decide +kernel
theorem dX5_readBooks_89 : decode cX5_readBooks 89 = .ok (.iload 4, 2) := by decide +kernel
theorem dX5_readBooks_91 : decode cX5_readBooks 91 = .ok (.invokevirtual 72, 3) := by decide +kernel
theorem dX5_readBooks_94 : decode cX5_readBooks 94 = .ok (.iinc 2 1, 3) := by decide +kernel
theorem dX5_readBooks_97 : decode cX5_readBooks 97 = .ok (.goto (-81), 3) := by decide +kernel
theorem dX5_readBooks_100 : decode cX5_readBooks 100 = .ok (.return_, 1) := by decide +kernel
theorem dX5_readFish_0 : decode cX5_readFish 0 = .ok (.aload_n 0, 1) := by decide +kernel
theorem dX5_readFish_1 : decode cX5_readFish 1 = .ok (.invokevirtual 58, 3) := by decide +kernel
theorem dX5_readFish_4 : decode cX5_readFish 4 = .ok (.invokestatic 76, 3) := by decide +kernel
theorem dX5_readFish_7 : decode cX5_readFish 7 = .ok (.ldc 25, 2) := by decide +kernel
theorem dX5_readFish_9 : decode cX5_readFish 9 = .ok (.if_icmp .ne 8, 3) := by decide +kernel
theorem dX5_readFish_12 : decode cX5_readFish 12 = .ok (.aload_n 0, 1) := by decide +kernel
theorem dX5_readFish_13 : decode cX5_readFish 13 = .ok (.iconst 1, 1) := by decide +kernel
theorem dX5_readFish_14 : decode cX5_readFish 14 = .ok (.invokevirtual 62, 3) := by decide +kernel
theorem dX5_readFish_17 : decode cX5_readFish 17 = .ok (.iconst 0, 1) := by decide +kernel
theorem dX5_readFish_18 : decode cX5_readFish 18 = .ok (.istore_n 2, 1) := by decide +kernel
theorem dX5_readFish_19 : decode cX5_readFish 19 = .ok (.iload_n 2, 1) := by decide +kernel
theorem dX5_readFish_20 : decode cX5_readFish 20 = .ok (.bipush 120, 2) := by decide +kernel
theorem dX5_readFish_22 : decode cX5_readFish 22 = .ok (.if_icmp .ge 90, 3) := by decide +kernel
theorem dX5_readFish_25 : decode cX5_readFish 25 = .ok (.aload_n 0, 1) := by decide +kernel
theorem dX5_readFish_26 : decode cX5_readFish 26 = .ok (.invokevirtual 58, 3) := by decide +kernel
theorem dX5_readFish_29 : decode cX5_readFish 29 = .ok (.iconst (-1), 1) := by decide +kernel
theorem dX5_readFish_30 : decode cX5_readFish 30 = .ok (.if_icmp .eq 82, 3) := by decide +kernel
theorem dX5_readFish_33 : decode cX5_readFish 33 = .ok (.aload_n 0, 1) := by decide +kernel
theorem dX5_readFish_34 : decode cX5_readFish 34 = .ok (.invokevirtual 58, 3) := by decide +kernel
theorem dX5_readFish_37 : decode cX5_readFish 37 = .ok (.invokestatic 76, 3) := by decide +kernel
theorem dX5_readFish_40 : decode cX5_readFish 40 = .ok (.istore_n 3, 1) := by decide +kernel
theorem dX5_readFish_41 : decode cX5_readFish 41 = .ok (.iload_n 3, 1) := by decide +kernel
theorem dX5_readFish_42 : decode cX5_readFish 42 = .ok (.ldc 25, 2) := by decide +kernel
theorem dX5_readFish_44 : decode cX5_readFish 44 = .ok (.if_icmp .ne 8, 3) := by decide +kernel
theorem dX5_readFish_47 : decode cX5_readFish 47 = .ok (.aload_n 0, 1) := by decide +kernel
theorem dX5_readFish_48 : decode cX5_readFish 48 = .ok (.iconst 1, 1) := by decide +kernel
theorem dX5_readFish_49 : decode cX5_readFish 49 = .ok (.invokevirtual 62, 3) := by decide +kernel
theorem dX5_readFish_52 : decode cX5_readFish 52 = .ok (.aload_n 1, 1) := by decide +kernel
theorem dX5_readFish_53 : decode cX5_readFish 53 = .ok (.getfield 80, 3) := by decide +kernel
theorem dX5_readFish_56 : decode cX5_readFish 56 = .ok (.iconst 5, 1) := by decide +kernel
theorem dX5_readFish_57 : decode cX5_readFish 57 = .ok (.if_icmp .lt 8, 3) := by decide +kernel
theorem dX5_readFish_60 : decode cX5_readFish 60 = .ok (.aload_n 0, 1) := by decide +kernel
theorem dX5_readFish_61 : decode cX5_readFish 61 = .ok (.iconst 3, 1) := by decide +kernel
theorem dX5_readFish_62 : decode cX5_readFish 62 = .ok (.invokevirtual 62, 3) := by decide +kernel
theorem dX5_readFish_65 : decode cX5_readFish 65 = .ok (.aload_n 0, 1) := by decide +kernel
theorem dX5_readFish_66 : decode cX5_readFish 66 = .ok (.aload_n 0, 1) := by decide +kernel
theorem dX5_readFish_67 : decode cX5_readFish 67 = .ok (.invokevirtual 58, 3) := by decide +kernel
theorem dX5_readFish_70 : decode cX5_readFish 70 = .ok (.invokevirtual 44, 3) := by decide +kernel
theorem dX5_readFish_73 : decode cX5_readFish 73 = .ok (.aload_n 0, 1) := by decide +kernel
theorem dX5_readFish_74 : decode cX5_readFish 74 = .ok (.iconst 0, 1) := by decide +kernel
theorem dX5_readFish_75 : decode cX5_readFish 75 = .ok (.aload_n 1, 1) := by decide +kernel
theorem dX5_readFish_76 : decode cX5_readFish 76 = .ok (.getfield 65, 3) := by decide +kernel
theorem dX5_readFish_79 : decode cX5_readFish 79 = .ok (.iconst 1, 1) := by decide +kernel
theorem dX5_readFish_80 : decode cX5_readFish 80 = .ok (.isub, 1) := by decide +kernel
theorem dX5_readFish_81 : decode cX5_readFish 81 = .ok (.invokevirtual 48, 3) := by decide +kernel
theorem dX5_readFish_84 : decode cX5_readFish 84 = .ok (.istore 4, 2) := by decide +kernel
theorem dX5_readFish_86 : decode cX5_readFish 86 = .ok (.aload_n 0, 1) := by decide +kernel
theorem dX5_readFish_87 : decode cX5_readFish 87 = .ok (.bipush 59, 2) := by decide +kernel
theorem dX5_readFish_89 : decode cX5_readFish 89 = .ok (.invokevirtual 44, 3) := by decide +kernel
theorem dX5_readFish_92 : decode cX5_readFish 92 = .ok (.aload_n 0, 1) := by decide +kernel
theorem dX5_readFish_93 : decode cX5_readFish 93 = .ok (.invokevirtual 68, 3) := by decide +kernel
theorem dX5_readFish_96 : decode cX5_readFish 96 = .ok (.ifCond .eq 10, 3) := by decide +kernel
theorem dX5_readFish_99 : decode cX5_readFish 99 = .ok (.aload_n 1, 1) := by decide +kernel
theorem dX5_readFish_100 : decode cX5_readFish 100 = .ok (.iload_n 3, 1) := by decide +kernel
theorem dX5_readFish_101 : decode cX5_readFish 101 = .ok (.iload 4, 2) := by decide +kernel
theorem dX5_readFish_103 : decode cX5_readFish 103 = .ok (.invokevirtual 83, 3) := by decide +kernel
theorem dX5_readFish_106 : decode cX5_readFish 106 = .ok (.iinc 2 1, 3) := by decide +kernel
theorem dX5_readFish_109 : decode cX5_readFish 109 = .ok (.goto (-90), 3) := by decide +kernel
theorem dX5_readFish_112 : decode cX5_readFish 112 = .ok (.return_, 1) := by decide +kernel
theorem dX5_kindOfSort_0 : decode cX5_kindOfSort 0 = .ok (.iload_n 0, 1) := by decide +kernel
theorem dX5_kindOfSort_1 : decode cX5_kindOfSort 1 = .ok (.lookupswitch 61 #[(99, 55), (112, 53), (114, 51), (115, 59), (119, 57)], 51) := by decide +kernel
theorem dX5_kindOfSort_52 : decode cX5_kindOfSort 52 = .ok (.iconst 1, 1) := by decide +kernel
theorem dX5_kindOfSort_53 : decode cX5_kindOfSort 53 = .ok (.ireturn, 1) := by decide +kernel
theorem dX5_kindOfSort_54 : decode cX5_kindOfSort 54 = .ok (.iconst 2, 1) := by decide +kernel
theorem dX5_kindOfSort_55 : decode cX5_kindOfSort 55 = .ok (.ireturn, 1) := by decide +kernel
theorem dX5_kindOfSort_56 : decode cX5_kindOfSort 56 = .ok (.iconst 3, 1) := by decide +kernel
theorem dX5_kindOfSort_57 : decode cX5_kindOfSort 57 = .ok (.ireturn, 1) := by decide +kernel
theorem dX5_kindOfSort_58 : decode cX5_kindOfSort 58 = .ok (.iconst 4, 1) := by decide +kernel
theorem dX5_kindOfSort_59 : decode cX5_kindOfSort 59 = .ok (.ireturn, 1) := by decide +kernel
theorem dX5_kindOfSort_60 : decode cX5_kindOfSort 60 = .ok (.iconst 5, 1) := by decide +kernel
theorem dX5_kindOfSort_61 : decode cX5_kindOfSort 61 = .ok (.ireturn, 1) := by decide +kernel
theorem dX5_kindOfSort_62 : decode cX5_kindOfSort 62 = .ok (.ldc 25, 2) := by decide +kernel
theorem dX5_kindOfSort_64 : decode cX5_kindOfSort 64 = .ok (.ireturn, 1) := by decide +kernel
theorem dX5_isFine_0 : decode cX5_isFine 0 = .ok (.aload_n 0, 1) := by decide +kernel
theorem dX5_isFine_1 : decode cX5_isFine 1 = .ok (.getfield 26, 3) := by decide +kernel
theorem dX5_isFine_4 : decode cX5_isFine 4 = .ok (.ldc 25, 2) := by decide +kernel
theorem dX5_isFine_6 : decode cX5_isFine 6 = .ok (.if_icmp .ne 7, 3) := by decide +kernel
theorem dX5_isFine_9 : decode cX5_isFine 9 = .ok (.iconst 1, 1) := by decide +kernel
theorem dX5_isFine_10 : decode cX5_isFine 10 = .ok (.goto 4, 3) := by decide +kernel
theorem dX5_isFine_13 : decode cX5_isFine 13 = .ok (.iconst 0, 1) := by decide +kernel
theorem dX5_isFine_14 : decode cX5_isFine 14 = .ok (.ireturn, 1) := by decide +kernel
theorem dX5_fail_0 : decode cX5_fail 0 = .ok (.aload_n 0, 1) := by decide +kernel
theorem dX5_fail_1 : decode cX5_fail 1 = .ok (.invokevirtual 68, 3) := by decide +kernel
theorem dX5_fail_4 : decode cX5_fail 4 = .ok (.ifCond .eq 16, 3) := by decide +kernel
theorem dX5_fail_7 : decode cX5_fail 7 = .ok (.aload_n 0, 1) := by decide +kernel
theorem dX5_fail_8 : decode cX5_fail 8 = .ok (.aload_n 0, 1) := by decide +kernel
theorem dX5_fail_9 : decode cX5_fail 9 = .ok (.getfield 22, 3) := by decide +kernel
theorem dX5_fail_12 : decode cX5_fail 12 = .ok (.putfield 26, 3) := by decide +kernel
theorem dX5_fail_15 : decode cX5_fail 15 = .ok (.aload_n 0, 1) := by decide +kernel
theorem dX5_fail_16 : decode cX5_fail 16 = .ok (.iload_n 1, 1) := by decide +kernel
theorem dX5_fail_17 : decode cX5_fail 17 = .ok (.putfield 19, 3) := by decide +kernel
theorem dX5_fail_20 : decode cX5_fail 20 = .ok (.return_, 1) := by decide +kernel
theorem dX5_next_0 : decode cX5_next 0 = .ok (.aload_n 0, 1) := by decide +kernel
theorem dX5_next_1 : decode cX5_next 1 = .ok (.invokevirtual 68, 3) := by decide +kernel
theorem dX5_next_4 : decode cX5_next 4 = .ok (.ifCond .eq 33, 3) := by decide +kernel
theorem dX5_next_7 : decode cX5_next 7 = .ok (.aload_n 0, 1) := by decide +kernel
theorem dX5_next_8 : decode cX5_next 8 = .ok (.getfield 22, 3) := by decide +kernel
theorem dX5_next_11 : decode cX5_next 11 = .ok (.ifCond .lt 26, 3) := by decide +kernel
theorem dX5_next_14 : decode cX5_next 14 = .ok (.aload_n 0, 1) := by decide +kernel
theorem dX5_next_15 : decode cX5_next 15 = .ok (.getfield 22, 3) := by decide +kernel
theorem dX5_next_18 : decode cX5_next 18 = .ok (.aload_n 0, 1) := by decide +kernel
theorem dX5_next_19 : decode cX5_next 19 = .ok (.getfield 15, 3) := by decide +kernel
theorem dX5_next_22 : decode cX5_next 22 = .ok (.if_icmp .ge 15, 3) := by decide +kernel
theorem dX5_next_25 : decode cX5_next 25 = .ok (.aload_n 0, 1) := by decide +kernel
theorem dX5_next_26 : decode cX5_next 26 = .ok (.getfield 11, 3) := by decide +kernel
theorem dX5_next_29 : decode cX5_next 29 = .ok (.aload_n 0, 1) := by decide +kernel
theorem dX5_next_30 : decode cX5_next 30 = .ok (.getfield 22, 3) := by decide +kernel
theorem dX5_next_33 : decode cX5_next 33 = .ok (.iaload, 1) := by decide +kernel
theorem dX5_next_34 : decode cX5_next 34 = .ok (.goto 4, 3) := by decide +kernel
theorem dX5_next_37 : decode cX5_next 37 = .ok (.iconst (-1), 1) := by decide +kernel
theorem dX5_next_38 : decode cX5_next 38 = .ok (.ireturn, 1) := by decide +kernel
theorem dX5_pass_0 : decode cX5_pass 0 = .ok (.aload_n 0, 1) := by decide +kernel
theorem dX5_pass_1 : decode cX5_pass 1 = .ok (.invokevirtual 58, 3) := by decide +kernel
theorem dX5_pass_4 : decode cX5_pass 4 = .ok (.iconst (-1), 1) := by decide +kernel
theorem dX5_pass_5 : decode cX5_pass 5 = .ok (.if_icmp .eq 11, 3) := by decide +kernel
theorem dX5_pass_8 : decode cX5_pass 8 = .ok (.aload_n 0, 1) := by decide +kernel
theorem dX5_pass_9 : decode cX5_pass 9 = .ok (.invokevirtual 58, 3) := by decide +kernel
theorem dX5_pass_12 : decode cX5_pass 12 = .ok (.iload_n 1, 1) := by decide +kernel
theorem dX5_pass_13 : decode cX5_pass 13 = .ok (.if_icmp .eq 11, 3) := by decide +kernel
theorem dX5_pass_16 : decode cX5_pass 16 = .ok (.aload_n 0, 1) := by decide +kernel
theorem dX5_pass_17 : decode cX5_pass 17 = .ok (.iconst 1, 1) := by decide +kernel
theorem dX5_pass_18 : decode cX5_pass 18 = .ok (.invokevirtual 62, 3) := by decide +kernel
theorem dX5_pass_21 : decode cX5_pass 21 = .ok (.goto 13, 3) := by decide +kernel
theorem dX5_pass_24 : decode cX5_pass 24 = .ok (.aload_n 0, 1) := by decide +kernel
theorem dX5_pass_25 : decode cX5_pass 25 = .ok (.dup, 1) := by decide +kernel
theorem dX5_pass_26 : decode cX5_pass 26 = .ok (.getfield 22, 3) := by decide +kernel
theorem dX5_pass_29 : decode cX5_pass 29 = .ok (.iconst 1, 1) := by decide +kernel
theorem dX5_pass_30 : decode cX5_pass 30 = .ok (.iadd, 1) := by decide +kernel
theorem dX5_pass_31 : decode cX5_pass 31 = .ok (.putfield 22, 3) := by decide +kernel
theorem dX5_pass_34 : decode cX5_pass 34 = .ok (.return_, 1) := by decide +kernel
theorem dX5_number_0 : decode cX5_number 0 = .ok (.iconst 0, 1) := by decide +kernel
theorem dX5_number_1 : decode cX5_number 1 = .ok (.istore_n 3, 1) := by decide +kernel
theorem dX5_number_2 : decode cX5_number 2 = .ok (.iconst 0, 1) := by decide +kernel
theorem dX5_number_3 : decode cX5_number 3 = .ok (.istore 4, 2) := by decide +kernel
theorem dX5_number_5 : decode cX5_number 5 = .ok (.aload_n 0, 1) := by decide +kernel
theorem dX5_number_6 : decode cX5_number 6 = .ok (.getfield 22, 3) := by decide +kernel
theorem dX5_number_9 : decode cX5_number 9 = .ok (.istore 5, 2) := by decide +kernel
theorem dX5_number_11 : decode cX5_number 11 = .ok (.iconst 0, 1) := by decide +kernel
theorem dX5_number_12 : decode cX5_number 12 = .ok (.istore 6, 2) := by decide +kernel
theorem dX5_number_14 : decode cX5_number 14 = .ok (.iload 6, 2) := by decide +kernel
theorem dX5_number_16 : decode cX5_number 16 = .ok (.bipush 120, 2) := by decide +kernel
theorem dX5_number_18 : decode cX5_number 18 = .ok (.if_icmp .ge 57, 3) := by decide +kernel
theorem dX5_number_21 : decode cX5_number 21 = .ok (.aload_n 0, 1) := by decide +kernel
theorem dX5_number_22 : decode cX5_number 22 = .ok (.invokevirtual 58, 3) := by decide +kernel
theorem dX5_number_25 : decode cX5_number 25 = .ok (.invokestatic 86, 3) := by decide +kernel
theorem dX5_number_28 : decode cX5_number 28 = .ok (.ifCond .eq 47, 3) := by decide +kernel
theorem dX5_number_31 : decode cX5_number 31 = .ok (.iload_n 3, 1) := by decide +kernel
theorem dX5_number_32 : decode cX5_number 32 = .ok (.iconst 2, 1) := by decide +kernel
theorem dX5_number_33 : decode cX5_number 33 = .ok (.if_icmp .ge 19, 3) := by decide +kernel
theorem dX5_number_36 : decode cX5_number 36 = .ok (.iload 4, 2) := by decide +kernel
theorem dX5_number_38 : decode cX5_number 38 = .ok (.bipush 10, 2) := by decide +kernel
theorem dX5_number_40 : decode cX5_number 40 = .ok (.imul, 1) := by decide +kernel
theorem dX5_number_41 : decode cX5_number 41 = .ok (.aload_n 0, 1) := by decide +kernel
theorem dX5_number_42 : decode cX5_number 42 = .ok (.invokevirtual 58, 3) := by decide +kernel
theorem dX5_number_45 : decode cX5_number 45 = .ok (.iadd, 1) := by decide +kernel
theorem dX5_number_46 : decode cX5_number 46 = .ok (.bipush 48, 2) := by decide +kernel
theorem dX5_number_48 : decode cX5_number 48 = .ok (.isub, 1) := by decide +kernel
theorem dX5_number_49 : decode cX5_number 49 = .ok (.goto 5, 3) := by decide +kernel
theorem dX5_number_52 : decode cX5_number 52 = .ok (.iload 4, 2) := by decide +kernel
theorem dX5_number_54 : decode cX5_number 54 = .ok (.istore 4, 2) := by decide +kernel
theorem dX5_number_56 : decode cX5_number 56 = .ok (.iinc 3 1, 3) := by decide +kernel
theorem dX5_number_59 : decode cX5_number 59 = .ok (.aload_n 0, 1) := by decide +kernel
theorem dX5_number_60 : decode cX5_number 60 = .ok (.dup, 1) := by decide +kernel
theorem dX5_number_61 : decode cX5_number 61 = .ok (.getfield 22, 3) := by decide +kernel
theorem dX5_number_64 : decode cX5_number 64 = .ok (.iconst 1, 1) := by decide +kernel
theorem dX5_number_65 : decode cX5_number 65 = .ok (.iadd, 1) := by decide +kernel
theorem dX5_number_66 : decode cX5_number 66 = .ok (.putfield 22, 3) := by decide +kernel
theorem dX5_number_69 : decode cX5_number 69 = .ok (.iinc 6 1, 3) := by decide +kernel
theorem dX5_number_72 : decode cX5_number 72 = .ok (.goto (-58), 3) := by decide +kernel
theorem dX5_number_75 : decode cX5_number 75 = .ok (.aload_n 0, 1) := by decide +kernel
theorem dX5_number_76 : decode cX5_number 76 = .ok (.getfield 22, 3) := by decide +kernel
theorem dX5_number_79 : decode cX5_number 79 = .ok (.istore 6, 2) := by decide +kernel
theorem dX5_number_81 : decode cX5_number 81 = .ok (.aload_n 0, 1) := by decide +kernel
theorem dX5_number_82 : decode cX5_number 82 = .ok (.iload 5, 2) := by decide +kernel
theorem dX5_number_84 : decode cX5_number 84 = .ok (.putfield 22, 3) := by decide +kernel
theorem dX5_number_87 : decode cX5_number 87 = .ok (.iload_n 3, 1) := by decide +kernel
theorem dX5_number_88 : decode cX5_number 88 = .ok (.iconst 1, 1) := by decide +kernel
theorem dX5_number_89 : decode cX5_number 89 = .ok (.if_icmp .lt 8, 3) := by decide +kernel
theorem dX5_number_92 : decode cX5_number 92 = .ok (.iload_n 3, 1) := by decide +kernel
theorem dX5_number_93 : decode cX5_number 93 = .ok (.iconst 2, 1) := by decide +kernel
theorem dX5_number_94 : decode cX5_number 94 = .ok (.if_icmp .le 11, 3) := by decide +kernel
theorem dX5_number_97 : decode cX5_number 97 = .ok (.aload_n 0, 1) := by decide +kernel
theorem dX5_number_98 : decode cX5_number 98 = .ok (.iconst 1, 1) := by decide +kernel
theorem dX5_number_99 : decode cX5_number 99 = .ok (.invokevirtual 62, 3) := by decide +kernel
theorem dX5_number_102 : decode cX5_number 102 = .ok (.goto 29, 3) := by decide +kernel
theorem dX5_number_105 : decode cX5_number 105 = .ok (.iload 4, 2) := by decide +kernel
theorem dX5_number_107 : decode cX5_number 107 = .ok (.iload_n 1, 1) := by decide +kernel
theorem dX5_number_108 : decode cX5_number 108 = .ok (.if_icmp .lt 9, 3) := by decide +kernel
theorem dX5_number_111 : decode cX5_number 111 = .ok (.iload 4, 2) := by decide +kernel
theorem dX5_number_113 : decode cX5_number 113 = .ok (.iload_n 2, 1) := by decide +kernel
theorem dX5_number_114 : decode cX5_number 114 = .ok (.if_icmp .le 11, 3) := by decide +kernel
theorem dX5_number_117 : decode cX5_number 117 = .ok (.aload_n 0, 1) := by decide +kernel
theorem dX5_number_118 : decode cX5_number 118 = .ok (.iconst 2, 1) := by decide +kernel
theorem dX5_number_119 : decode cX5_number 119 = .ok (.invokevirtual 62, 3) := by decide +kernel
theorem dX5_number_122 : decode cX5_number 122 = .ok (.goto 9, 3) := by decide +kernel
theorem dX5_number_125 : decode cX5_number 125 = .ok (.aload_n 0, 1) := by decide +kernel
theorem dX5_number_126 : decode cX5_number 126 = .ok (.iload 6, 2) := by decide +kernel
theorem dX5_number_128 : decode cX5_number 128 = .ok (.putfield 22, 3) := by decide +kernel
theorem dX5_number_131 : decode cX5_number 131 = .ok (.iload 4, 2) := by decide +kernel
theorem dX5_number_133 : decode cX5_number 133 = .ok (.ireturn, 1) := by decide +kernel
theorem dX5_isFigure_0 : decode cX5_isFigure 0 = .ok (.iload_n 0, 1) := by decide +kernel
theorem dX5_isFigure_1 : decode cX5_isFigure 1 = .ok (.bipush 48, 2) := by decide +kernel
theorem dX5_isFigure_3 : decode cX5_isFigure 3 = .ok (.if_icmp .lt 13, 3) := by decide +kernel
theorem dX5_isFigure_6 : decode cX5_isFigure 6 = .ok (.iload_n 0, 1) := by decide +kernel
theorem dX5_isFigure_7 : decode cX5_isFigure 7 = .ok (.bipush 57, 2) := by decide +kernel
theorem dX5_isFigure_9 : decode cX5_isFigure 9 = .ok (.if_icmp .gt 7, 3) := by decide +kernel
theorem dX5_isFigure_12 : decode cX5_isFigure 12 = .ok (.iconst 1, 1) := by decide +kernel
theorem dX5_isFigure_13 : decode cX5_isFigure 13 = .ok (.goto 4, 3) := by decide +kernel
theorem dX5_isFigure_16 : decode cX5_isFigure 16 = .ok (.iconst 0, 1) := by decide +kernel
theorem dX5_isFigure_17 : decode cX5_isFigure 17 = .ok (.ireturn, 1) := by decide +kernel
theorem dJ6_bitCount_0f7a4_0 : decode cJ6_bitCount_0f7a4 0 = .ok (.iload_n 0, 1) := by decide +kernel
theorem dJ6_bitCount_0f7a4_1 : decode cJ6_bitCount_0f7a4 1 = .ok (.iload_n 0, 1) := by decide +kernel
theorem dJ6_bitCount_0f7a4_2 : decode cJ6_bitCount_0f7a4 2 = .ok (.iconst 1, 1) := by decide +kernel
theorem dJ6_bitCount_0f7a4_3 : decode cJ6_bitCount_0f7a4 3 = .ok (.iushr, 1) := by decide +kernel
theorem dJ6_bitCount_0f7a4_4 : decode cJ6_bitCount_0f7a4 4 = .ok (.ldc_w 265, 3) := by decide +kernel
theorem dJ6_bitCount_0f7a4_7 : decode cJ6_bitCount_0f7a4 7 = .ok (.iand, 1) := by decide +kernel
theorem dJ6_bitCount_0f7a4_8 : decode cJ6_bitCount_0f7a4 8 = .ok (.isub, 1) := by decide +kernel
theorem dJ6_bitCount_0f7a4_9 : decode cJ6_bitCount_0f7a4 9 = .ok (.istore_n 0, 1) := by decide +kernel
theorem dJ6_bitCount_0f7a4_10 : decode cJ6_bitCount_0f7a4 10 = .ok (.iload_n 0, 1) := by decide +kernel
theorem dJ6_bitCount_0f7a4_11 : decode cJ6_bitCount_0f7a4 11 = .ok (.ldc_w 266, 3) := by decide +kernel
theorem dJ6_bitCount_0f7a4_14 : decode cJ6_bitCount_0f7a4 14 = .ok (.iand, 1) := by decide +kernel
theorem dJ6_bitCount_0f7a4_15 : decode cJ6_bitCount_0f7a4 15 = .ok (.iload_n 0, 1) := by decide +kernel
theorem dJ6_bitCount_0f7a4_16 : decode cJ6_bitCount_0f7a4 16 = .ok (.iconst 2, 1) := by decide +kernel
theorem dJ6_bitCount_0f7a4_17 : decode cJ6_bitCount_0f7a4 17 = .ok (.iushr, 1) := by decide +kernel
theorem dJ6_bitCount_0f7a4_18 : decode cJ6_bitCount_0f7a4 18 = .ok (.ldc_w 266, 3) := by decide +kernel
theorem dJ6_bitCount_0f7a4_21 : decode cJ6_bitCount_0f7a4 21 = .ok (.iand, 1) := by decide +kernel
theorem dJ6_bitCount_0f7a4_22 : decode cJ6_bitCount_0f7a4 22 = .ok (.iadd, 1) := by decide +kernel
theorem dJ6_bitCount_0f7a4_23 : decode cJ6_bitCount_0f7a4 23 = .ok (.istore_n 0, 1) := by decide +kernel
theorem dJ6_bitCount_0f7a4_24 : decode cJ6_bitCount_0f7a4 24 = .ok (.iload_n 0, 1) := by decide +kernel
theorem dJ6_bitCount_0f7a4_25 : decode cJ6_bitCount_0f7a4 25 = .ok (.iload_n 0, 1) := by decide +kernel
theorem dJ6_bitCount_0f7a4_26 : decode cJ6_bitCount_0f7a4 26 = .ok (.iconst 4, 1) := by decide +kernel
theorem dJ6_bitCount_0f7a4_27 : decode cJ6_bitCount_0f7a4 27 = .ok (.iushr, 1) := by decide +kernel
theorem dJ6_bitCount_0f7a4_28 : decode cJ6_bitCount_0f7a4 28 = .ok (.iadd, 1) := by decide +kernel
theorem dJ6_bitCount_0f7a4_29 : decode cJ6_bitCount_0f7a4 29 = .ok (.ldc_w 267, 3) := by decide +kernel
theorem dJ6_bitCount_0f7a4_32 : decode cJ6_bitCount_0f7a4 32 = .ok (.iand, 1) := by decide +kernel
theorem dJ6_bitCount_0f7a4_33 : decode cJ6_bitCount_0f7a4 33 = .ok (.istore_n 0, 1) := by decide +kernel
theorem dJ6_bitCount_0f7a4_34 : decode cJ6_bitCount_0f7a4 34 = .ok (.iload_n 0, 1) := by decide +kernel
theorem dJ6_bitCount_0f7a4_35 : decode cJ6_bitCount_0f7a4 35 = .ok (.iload_n 0, 1) := by decide +kernel
theorem dJ6_bitCount_0f7a4_36 : decode cJ6_bitCount_0f7a4 36 = .ok (.bipush 8, 2) := by decide +kernel
theorem dJ6_bitCount_0f7a4_38 : decode cJ6_bitCount_0f7a4 38 = .ok (.iushr, 1) := by decide +kernel
theorem dJ6_bitCount_0f7a4_39 : decode cJ6_bitCount_0f7a4 39 = .ok (.iadd, 1) := by decide +kernel
theorem dJ6_bitCount_0f7a4_40 : decode cJ6_bitCount_0f7a4 40 = .ok (.istore_n 0, 1) := by decide +kernel
theorem dJ6_bitCount_0f7a4_41 : decode cJ6_bitCount_0f7a4 41 = .ok (.iload_n 0, 1) := by decide +kernel
theorem dJ6_bitCount_0f7a4_42 : decode cJ6_bitCount_0f7a4 42 = .ok (.iload_n 0, 1) := by decide +kernel
theorem dJ6_bitCount_0f7a4_43 : decode cJ6_bitCount_0f7a4 43 = .ok (.bipush 16, 2) := by decide +kernel
theorem dJ6_bitCount_0f7a4_45 : decode cJ6_bitCount_0f7a4 45 = .ok (.iushr, 1) := by decide +kernel
theorem dJ6_bitCount_0f7a4_46 : decode cJ6_bitCount_0f7a4 46 = .ok (.iadd, 1) := by decide +kernel
theorem dJ6_bitCount_0f7a4_47 : decode cJ6_bitCount_0f7a4 47 = .ok (.istore_n 0, 1) := by decide +kernel
theorem dJ6_bitCount_0f7a4_48 : decode cJ6_bitCount_0f7a4 48 = .ok (.iload_n 0, 1) := by decide +kernel
theorem dJ6_bitCount_0f7a4_49 : decode cJ6_bitCount_0f7a4 49 = .ok (.bipush 63, 2) := by decide +kernel
theorem dJ6_bitCount_0f7a4_51 : decode cJ6_bitCount_0f7a4 51 = .ok (.iand, 1) := by decide +kernel
theorem dJ6_bitCount_0f7a4_52 : decode cJ6_bitCount_0f7a4 52 = .ok (.ireturn, 1) := by decide +kernel
