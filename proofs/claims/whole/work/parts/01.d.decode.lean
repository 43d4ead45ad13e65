theorem dX7_records_36 : decode cX7_records 36 = .ok (.goto (-26), 3) := by decide +kernel
theorem dX7_records_39 : decode cX7_records 39 = .ok (.aload_n 0, 1) := by decide +kernel
theorem dX7_records_40 : decode cX7_records 40 = .ok (.dup, 1) := by decide +kernel
theorem dX7_records_41 : decode cX7_records 41 = .ok (.getfield 36, 3) := by decide +kernel
theorem dX7_records_44 : decode cX7_records 44 = .ok (.iconst 1, 1) := by decide +kernel
theorem dX7_records_45 : decode cX7_records 45 = .ok (.isub, 1) := by decide +kernel
theorem dX7_records_46 : decode cX7_records 46 = .ok (.putfield 36, 3) := by decide +kernel
theorem dX7_records_49 : decode cX7_records 49 = .ok (.aload_n 0, 1) := by decide +kernel
theorem dX7_records_50 : decode cX7_records 50 = .ok (.aload_n 0, 1) := by decide +kernel
theorem dX7_records_51 : decode cX7_records 51 = .ok (.getfield 36, 3) := by decide +kernel
theorem dX7_records_54 : decode cX7_records 54 = .ok (.invokevirtual 40, 3) := by decide +kernel
theorem dX7_records_57 : decode cX7_records 57 = .ok (.aload_n 0, 1) := by decide +kernel
theorem dX7_records_58 : decode cX7_records 58 = .ok (.dup, 1) := by decide +kernel
theorem dX7_records_59 : decode cX7_records 59 = .ok (.getfield 36, 3) := by decide +kernel
theorem dX7_records_62 : decode cX7_records 62 = .ok (.iconst 1, 1) := by decide +kernel
theorem dX7_records_63 : decode cX7_records 63 = .ok (.iadd, 1) := by decide +kernel
theorem dX7_records_64 : decode cX7_records 64 = .ok (.putfield 36, 3) := by decide +kernel
theorem dX7_records_67 : decode cX7_records 67 = .ok (.return_, 1) := by decide +kernel
theorem dX7_undo_0 : decode cX7_undo 0 = .ok (.aload_n 0, 1) := by decide +kernel
theorem dX7_undo_1 : decode cX7_undo 1 = .ok (.getfield 36, 3) := by decide +kernel
theorem dX7_undo_4 : decode cX7_undo 4 = .ok (.ifCond .ne 6, 3) := by decide +kernel
theorem dX7_undo_7 : decode cX7_undo 7 = .ok (.bipush (-5), 2) := by decide +kernel
theorem dX7_undo_9 : decode cX7_undo 9 = .ok (.ireturn, 1) := by decide +kernel
theorem dX7_undo_10 : decode cX7_undo 10 = .ok (.aload_n 0, 1) := by decide +kernel
theorem dX7_undo_11 : decode cX7_undo 11 = .ok (.dup, 1) := by decide +kernel
theorem dX7_undo_12 : decode cX7_undo 12 = .ok (.getfield 36, 3) := by decide +kernel
theorem dX7_undo_15 : decode cX7_undo 15 = .ok (.iconst 1, 1) := by decide +kernel
theorem dX7_undo_16 : decode cX7_undo 16 = .ok (.isub, 1) := by decide +kernel
theorem dX7_undo_17 : decode cX7_undo 17 = .ok (.putfield 36, 3) := by decide +kernel
theorem dX7_undo_20 : decode cX7_undo 20 = .ok (.aload_n 0, 1) := by decide +kernel
theorem dX7_undo_21 : decode cX7_undo 21 = .ok (.aload_n 0, 1) := by decide +kernel
theorem dX7_undo_22 : decode cX7_undo 22 = .ok (.getfield 36, 3) := by decide +kernel
theorem dX7_undo_25 : decode cX7_undo 25 = .ok (.invokevirtual 44, 3) := by decide +kernel
theorem dX7_undo_28 : decode cX7_undo 28 = .ok (.aload_n 0, 1) := by decide +kernel
theorem dX7_undo_29 : decode cX7_undo 29 = .ok (.getfield 36, 3) := by decide +kernel
theorem dX7_undo_32 : decode cX7_undo 32 = .ok (.ireturn, 1) := by decide +kernel
theorem dX7_keep_0 : decode cX7_keep 0 = .ok (.aload_n 0, 1) := by decide +kernel
theorem dX7_keep_1 : decode cX7_keep 1 = .ok (.iconst 4, 1) := by decide +kernel
theorem dX7_keep_2 : decode cX7_keep 2 = .ok (.invokevirtual 40, 3) := by decide +kernel
theorem dX7_keep_5 : decode cX7_keep 5 = .ok (.aload_n 0, 1) := by decide +kernel
theorem dX7_keep_6 : decode cX7_keep 6 = .ok (.iconst 1, 1) := by decide +kernel
theorem dX7_keep_7 : decode cX7_keep 7 = .ok (.putfield 47, 3) := by decide +kernel
theorem dX7_keep_10 : decode cX7_keep 10 = .ok (.aload_n 0, 1) := by decide +kernel
theorem dX7_keep_11 : decode cX7_keep 11 = .ok (.getfield 7, 3) := by decide +kernel
theorem dX7_keep_14 : decode cX7_keep 14 = .ok (.iconst 0, 1) := by decide +kernel
theorem dX7_keep_15 : decode cX7_keep 15 = .ok (.iaload, 1) := by decide +kernel
theorem dX7_keep_16 : decode cX7_keep 16 = .ok (.ireturn, 1) := by decide +kernel
theorem dX7_restore_0 : decode cX7_restore 0 = .ok (.aload_n 0, 1) := by decide +kernel
theorem dX7_restore_1 : decode cX7_restore 1 = .ok (.getfield 47, 3) := by decide +kernel
theorem dX7_restore_4 : decode cX7_restore 4 = .ok (.ifCond .ne 6, 3) := by decide +kernel
theorem dX7_restore_7 : decode cX7_restore 7 = .ok (.bipush (-5), 2) := by decide +kernel
theorem dX7_restore_9 : decode cX7_restore 9 = .ok (.ireturn, 1) := by decide +kernel
theorem dX7_restore_10 : decode cX7_restore 10 = .ok (.aload_n 0, 1) := by decide +kernel
theorem dX7_restore_11 : decode cX7_restore 11 = .ok (.invokevirtual 51, 3) := by decide +kernel
theorem dX7_restore_14 : decode cX7_restore 14 = .ok (.aload_n 0, 1) := by decide +kernel
theorem dX7_restore_15 : decode cX7_restore 15 = .ok (.iconst 4, 1) := by decide +kernel
theorem dX7_restore_16 : decode cX7_restore 16 = .ok (.invokevirtual 44, 3) := by decide +kernel
theorem dX7_restore_19 : decode cX7_restore 19 = .ok (.aload_n 0, 1) := by decide +kernel
theorem dX7_restore_20 : decode cX7_restore 20 = .ok (.getfield 7, 3) := by decide +kernel
theorem dX7_restore_23 : decode cX7_restore 23 = .ok (.iconst 0, 1) := by decide +kernel
theorem dX7_restore_24 : decode cX7_restore 24 = .ok (.iaload, 1) := by decide +kernel
theorem dX7_restore_25 : decode cX7_restore 25 = .ok (.ireturn, 1) := by decide +kernel
theorem dX7_versionAt_0 : decode cX7_versionAt 0 = .ok (.iconst 0, 1) := by decide +kernel
theorem dX7_versionAt_1 : decode cX7_versionAt 1 = .ok (.istore_n 3, 1) := by decide +kernel
theorem dX7_versionAt_2 : decode cX7_versionAt 2 = .ok (.iconst (-1), 1) := by decide +kernel
theorem dX7_versionAt_3 : decode cX7_versionAt 3 = .ok (.istore 4, 2) := by decide +kernel
theorem dX7_versionAt_5 : decode cX7_versionAt 5 = .ok (.iconst 0, 1) := by decide +kernel
theorem dX7_versionAt_6 : decode cX7_versionAt 6 = .ok (.istore 5, 2) := by decide +kernel
theorem dX7_versionAt_8 : decode cX7_versionAt 8 = .ok (.iload 5, 2) := by decide +kernel
theorem dX7_versionAt_10 : decode cX7_versionAt 10 = .ok (.aload_n 0, 1) := by decide +kernel
theorem dX7_versionAt_11 : decode cX7_versionAt 11 = .ok (.getfield 7, 3) := by decide +kernel
theorem dX7_versionAt_14 : decode cX7_versionAt 14 = .ok (.bipush 8, 2) := by decide +kernel
theorem dX7_versionAt_16 : decode cX7_versionAt 16 = .ok (.iaload, 1) := by decide +kernel
theorem dX7_versionAt_17 : decode cX7_versionAt 17 = .ok (.if_icmp .ge 81, 3) := by decide +kernel
theorem dX7_versionAt_20 : decode cX7_versionAt 20 = .ok (.aload_n 0, 1) := by decide +kernel
theorem dX7_versionAt_21 : decode cX7_versionAt 21 = .ok (.iload 5, 2) := by decide +kernel
theorem dX7_versionAt_23 : decode cX7_versionAt 23 = .ok (.iconst 0, 1) := by decide +kernel
theorem dX7_versionAt_24 : decode cX7_versionAt 24 = .ok (.invokevirtual 54, 3) := by decide +kernel
theorem dX7_versionAt_27 : decode cX7_versionAt 27 = .ok (.iload_n 1, 1) := by decide +kernel
theorem dX7_versionAt_28 : decode cX7_versionAt 28 = .ok (.if_icmp .ne 30, 3) := by decide +kernel
theorem dX7_versionAt_31 : decode cX7_versionAt 31 = .ok (.aload_n 0, 1) := by decide +kernel
theorem dX7_versionAt_32 : decode cX7_versionAt 32 = .ok (.iload 5, 2) := by decide +kernel
theorem dX7_versionAt_34 : decode cX7_versionAt 34 = .ok (.iconst 1, 1) := by decide +kernel
theorem dX7_versionAt_35 : decode cX7_versionAt 35 = .ok (.invokevirtual 54, 3) := by decide +kernel
theorem dX7_versionAt_38 : decode cX7_versionAt 38 = .ok (.iload_n 2, 1) := by decide +kernel
theorem dX7_versionAt_39 : decode cX7_versionAt 39 = .ok (.if_icmp .gt 19, 3) := by decide +kernel
theorem dX7_versionAt_42 : decode cX7_versionAt 42 = .ok (.aload_n 0, 1) := by decide +kernel
theorem dX7_versionAt_43 : decode cX7_versionAt 43 = .ok (.iload 5, 2) := by decide +kernel
theorem dX7_versionAt_45 : decode cX7_versionAt 45 = .ok (.iconst 1, 1) := by decide +kernel
theorem dX7_versionAt_46 : decode cX7_versionAt 46 = .ok (.invokevirtual 54, 3) := by decide +kernel
theorem dX7_versionAt_49 : decode cX7_versionAt 49 = .ok (.iload 4, 2) := by decide +kernel
theorem dX7_versionAt_51 : decode cX7_versionAt 51 = .ok (.if_icmp .le 7, 3) := by decide +kernel
theorem dX7_versionAt_54 : decode cX7_versionAt 54 = .ok (.iconst 1, 1) := by decide +kernel
theorem dX7_versionAt_55 : decode cX7_versionAt 55 = .ok (.goto 4, 3) := by decide +kernel
theorem dX7_versionAt_58 : decode cX7_versionAt 58 = .ok (.iconst 0, 1) := by decide +kernel
theorem dX7_versionAt_59 : decode cX7_versionAt 59 = .ok (.istore 6, 2) := by decide +kernel
theorem dX7_versionAt_61 : decode cX7_versionAt 61 = .ok (.iload 6, 2) := by decide +kernel
theorem dX7_versionAt_63 : decode cX7_versionAt 63 = .ok (.ifCond .eq 8, 3) := by decide +kernel
theorem dX7_versionAt_66 : decode cX7_versionAt 66 = .ok (.iload 5, 2) := by decide +kernel
theorem dX7_versionAt_68 : decode cX7_versionAt 68 = .ok (.goto 4, 3) := by decide +kernel
theorem dX7_versionAt_71 : decode cX7_versionAt 71 = .ok (.iload_n 3, 1) := by decide +kernel
theorem dX7_versionAt_72 : decode cX7_versionAt 72 = .ok (.istore_n 3, 1) := by decide +kernel
theorem dX7_versionAt_73 : decode cX7_versionAt 73 = .ok (.iload 6, 2) := by decide +kernel
theorem dX7_versionAt_75 : decode cX7_versionAt 75 = .ok (.ifCond .eq 13, 3) := by decide +kernel
theorem dX7_versionAt_78 : decode cX7_versionAt 78 = .ok (.aload_n 0, 1) := by decide +kernel
theorem dX7_versionAt_79 : decode cX7_versionAt 79 = .ok (.iload 5, 2) := by decide +kernel
theorem dX7_versionAt_81 : decode cX7_versionAt 81 = .ok (.iconst 1, 1) := by decide +kernel
theorem dX7_versionAt_82 : decode cX7_versionAt 82 = .ok (.invokevirtual 54, 3) := by decide +kernel
theorem dX7_versionAt_85 : decode cX7_versionAt 85 = .ok (.goto 5, 3) := by decide +kernel
theorem dX7_versionAt_88 : decode cX7_versionAt 88 = .ok (.iload 4, 2) := by decide +kernel
theorem dX7_versionAt_90 : decode cX7_versionAt 90 = .ok (.istore 4, 2) := by decide +kernel
theorem dX7_versionAt_92 : decode cX7_versionAt 92 = .ok (.iinc 5 1, 3) := by decide +kernel
theorem dX7_versionAt_95 : decode cX7_versionAt 95 = .ok (.goto (-87), 3) := by decide +kernel
theorem dX7_versionAt_98 : decode cX7_versionAt 98 = .ok (.iload_n 3, 1) := by decide +kernel
theorem dX7_versionAt_99 : decode cX7_versionAt 99 = .ok (.ireturn, 1) := by decide +kernel
theorem dX7_newest_0 : decode cX7_newest 0 = .ok (.aload_n 0, 1) := by decide +kernel
theorem dX7_newest_1 : decode cX7_newest 1 = .ok (.iload_n 1, 1) := by decide +kernel
theorem dX7_newest_2 : decode cX7_newest 2 = .ok (.aload_n 0, 1) := by decide +kernel
theorem dX7_newest_3 : decode cX7_newest 3 = .ok (.getfield 7, 3) := by decide +kernel
theorem dX7_newest_6 : decode cX7_newest 6 = .ok (.iconst 0, 1) := by decide +kernel
theorem dX7_newest_7 : decode cX7_newest 7 = .ok (.iaload, 1) := by decide +kernel
theorem dX7_newest_8 : decode cX7_newest 8 = .ok (.invokevirtual 57, 3) := by decide +kernel
theorem dX7_newest_11 : decode cX7_newest 11 = .ok (.ireturn, 1) := by decide +kernel
theorem dX7_isOld_0 : decode cX7_isOld 0 = .ok (.aload_n 0, 1) := by decide +kernel
theorem dX7_isOld_1 : decode cX7_isOld 1 = .ok (.aload_n 0, 1) := by decide +kernel
theorem dX7_isOld_2 : decode cX7_isOld 2 = .ok (.iload_n 1, 1) := by decide +kernel
theorem dX7_isOld_3 : decode cX7_isOld 3 = .ok (.iconst 0, 1) := by decide +kernel
theorem dX7_isOld_4 : decode cX7_isOld 4 = .ok (.invokevirtual 54, 3) := by decide +kernel
theorem dX7_isOld_7 : decode cX7_isOld 7 = .ok (.invokevirtual 60, 3) := by decide +kernel
theorem dX7_isOld_10 : decode cX7_isOld 10 = .ok (.iload_n 1, 1) := by decide +kernel
theorem dX7_isOld_11 : decode cX7_isOld 11 = .ok (.if_icmp .eq 7, 3) := by decide +kernel
theorem dX7_isOld_14 : decode cX7_isOld 14 = .ok (.iconst 1, 1) := by decide +kernel
theorem dX7_isOld_15 : decode cX7_isOld 15 = .ok (.goto 4, 3) := by decide +kernel
theorem dX7_isOld_18 : decode cX7_isOld 18 = .ok (.iconst 0, 1) := by decide +kernel
theorem dX7_isOld_19 : decode cX7_isOld 19 = .ok (.ireturn, 1) := by decide +kernel
theorem dX7_sees_0 : decode cX7_sees 0 = .ok (.aload_n 0, 1) := by decide +kernel
theorem dX7_sees_1 : decode cX7_sees 1 = .ok (.iload_n 1, 1) := by decide +kernel
theorem dX7_sees_2 : decode cX7_sees 2 = .ok (.invokevirtual 64, 3) := by decide +kernel
theorem dX7_sees_5 : decode cX7_sees 5 = .ok (.ifCond .eq 27, 3) := by decide +kernel
theorem dX7_sees_8 : decode cX7_sees 8 = .ok (.aload_n 0, 1) := by decide +kernel
theorem dX7_sees_9 : decode cX7_sees 9 = .ok (.aload_n 0, 1) := by decide +kernel
theorem dX7_sees_10 : decode cX7_sees 10 = .ok (.iload_n 2, 1) := by decide +kernel
theorem dX7_sees_11 : decode cX7_sees 11 = .ok (.iconst 0, 1) := by decide +kernel
theorem dX7_sees_12 : decode cX7_sees 12 = .ok (.invokevirtual 54, 3) := by decide +kernel
theorem dX7_sees_15 : decode cX7_sees 15 = .ok (.aload_n 0, 1) := by decide +kernel
theorem dX7_sees_16 : decode cX7_sees 16 = .ok (.iload_n 1, 1) := by decide +kernel
theorem dX7_sees_17 : decode cX7_sees 17 = .ok (.iconst 0, 1) := by decide +kernel
theorem dX7_sees_18 : decode cX7_sees 18 = .ok (.invokevirtual 32, 3) := by decide +kernel
theorem dX7_sees_21 : decode cX7_sees 21 = .ok (.invokevirtual 57, 3) := by decide +kernel
theorem dX7_sees_24 : decode cX7_sees 24 = .ok (.iload_n 2, 1) := by decide +kernel
theorem dX7_sees_25 : decode cX7_sees 25 = .ok (.if_icmp .ne 7, 3) := by decide +kernel
theorem dX7_sees_28 : decode cX7_sees 28 = .ok (.iconst 1, 1) := by decide +kernel
theorem dX7_sees_29 : decode cX7_sees 29 = .ok (.goto 4, 3) := by decide +kernel
theorem dX7_sees_32 : decode cX7_sees 32 = .ok (.iconst 0, 1) := by decide +kernel
theorem dX7_sees_33 : decode cX7_sees 33 = .ok (.ireturn, 1) := by decide +kernel
theorem dX7_isWidow_0 : decode cX7_isWidow 0 = .ok (.aload_n 0, 1) := by decide +kernel
theorem dX7_isWidow_1 : decode cX7_isWidow 1 = .ok (.iload_n 1, 1) := by decide +kernel
theorem dX7_isWidow_2 : decode cX7_isWidow 2 = .ok (.iconst 5, 1) := by decide +kernel
theorem dX7_isWidow_3 : decode cX7_isWidow 3 = .ok (.invokevirtual 32, 3) := by decide +kernel
theorem dX7_isWidow_6 : decode cX7_isWidow 6 = .ok (.ifCond .le 7, 3) := by decide +kernel
theorem dX7_isWidow_9 : decode cX7_isWidow 9 = .ok (.iconst 1, 1) := by decide +kernel
theorem dX7_isWidow_10 : decode cX7_isWidow 10 = .ok (.goto 4, 3) := by decide +kernel
theorem dX7_isWidow_13 : decode cX7_isWidow 13 = .ok (.iconst 0, 1) := by decide +kernel
theorem dX7_isWidow_14 : decode cX7_isWidow 14 = .ok (.ireturn, 1) := by decide +kernel
theorem dX7_seenBy_0 : decode cX7_seenBy 0 = .ok (.iconst 0, 1) := by decide +kernel
theorem dX7_seenBy_1 : decode cX7_seenBy 1 = .ok (.istore_n 3, 1) := by decide +kernel
theorem dX7_seenBy_2 : decode cX7_seenBy 2 = .ok (.iconst 0, 1) := by decide +kernel
theorem dX7_seenBy_3 : decode cX7_seenBy 3 = .ok (.istore 4, 2) := by decide +kernel
theorem dX7_seenBy_5 : decode cX7_seenBy 5 = .ok (.iload 4, 2) := by decide +kernel
theorem dX7_seenBy_7 : decode cX7_seenBy 7 = .ok (.aload_n 0, 1) := by decide +kernel
theorem dX7_seenBy_8 : decode cX7_seenBy 8 = .ok (.getfield 7, 3) := by decide +kernel
theorem dX7_seenBy_11 : decode cX7_seenBy 11 = .ok (.iconst 2, 1) := by decide +kernel
theorem dX7_seenBy_12 : decode cX7_seenBy 12 = .ok (.iaload, 1) := by decide +kernel
theorem dX7_seenBy_13 : decode cX7_seenBy 13 = .ok (.if_icmp .ge 40, 3) := by decide +kernel
theorem dX7_seenBy_16 : decode cX7_seenBy 16 = .ok (.iload_n 3, 1) := by decide +kernel
theorem dX7_seenBy_17 : decode cX7_seenBy 17 = .ok (.aload_n 0, 1) := by decide +kernel
theorem dX7_seenBy_18 : decode cX7_seenBy 18 = .ok (.iload 4, 2) := by decide +kernel
theorem dX7_seenBy_20 : decode cX7_seenBy 20 = .ok (.iload_n 1, 1) := by decide +kernel
theorem dX7_seenBy_21 : decode cX7_seenBy 21 = .ok (.invokevirtual 68, 3) := by decide +kernel
theorem dX7_seenBy_24 : decode cX7_seenBy 24 = .ok (.ifCond .eq 20, 3) := by decide +kernel
theorem dX7_seenBy_27 : decode cX7_seenBy 27 = .ok (.iload_n 2, 1) := by decide +kernel
theorem dX7_seenBy_28 : decode cX7_seenBy 28 = .ok (.ifCond .ne 12, 3) := by decide +kernel
theorem dX7_seenBy_31 : decode cX7_seenBy 31 = .ok (.aload_n 0, 1) := by decide +kernel
theorem dX7_seenBy_32 : decode cX7_seenBy 32 = .ok (.iload 4, 2) := by decide +kernel
theorem dX7_seenBy_34 : decode cX7_seenBy 34 = .ok (.invokevirtual 72, 3) := by decide +kernel
theorem dX7_seenBy_37 : decode cX7_seenBy 37 = .ok (.ifCond .ne 7, 3) := by decide +kernel
theorem dX7_seenBy_40 : decode cX7_seenBy 40 = .ok (.iconst 1, 1) := by decide +kernel
theorem dX7_seenBy_41 : decode cX7_seenBy 41 = .ok (.goto 4, 3) := by decide +kernel
theorem dX7_seenBy_44 : decode cX7_seenBy 44 = .ok (.iconst 0, 1) := by decide +kernel
theorem dX7_seenBy_45 : decode cX7_seenBy 45 = .ok (.iadd, 1) := by decide +kernel
theorem dX7_seenBy_46 : decode cX7_seenBy 46 = .ok (.istore_n 3, 1) := by decide +kernel
theorem dX7_seenBy_47 : decode cX7_seenBy 47 = .ok (.iinc 4 1, 3) := by decide +kernel
theorem dX7_seenBy_50 : decode cX7_seenBy 50 = .ok (.goto (-45), 3) := by decide +kernel
theorem dX7_seenBy_53 : decode cX7_seenBy 53 = .ok (.iload_n 3, 1) := by decide +kernel
theorem dX7_seenBy_54 : decode cX7_seenBy 54 = .ok (.ireturn, 1) := by decide +kernel
theorem dX7_rentOf_0 : decode cX7_rentOf 0 = .ok (.aload_n 0, 1) := by decide +kernel
theorem dX7_rentOf_1 : decode cX7_rentOf 1 = .ok (.iload_n 1, 1) := by decide +kernel
theorem dX7_rentOf_2 : decode cX7_rentOf 2 = .ok (.iconst 0, 1) := by decide +kernel
theorem dX7_rentOf_3 : decode cX7_rentOf 3 = .ok (.invokevirtual 75, 3) := by decide +kernel
theorem dX7_rentOf_6 : decode cX7_rentOf 6 = .ok (.istore_n 2, 1) := by decide +kernel
theorem dX7_rentOf_7 : decode cX7_rentOf 7 = .ok (.iload_n 2, 1) := by decide +kernel
theorem dX7_rentOf_8 : decode cX7_rentOf 8 = .ok (.ifCond .ne 7, 3) := by decide +kernel
theorem dX7_rentOf_11 : decode cX7_rentOf 11 = .ok (.iconst 0, 1) := by decide +kernel
theorem dX7_rentOf_12 : decode cX7_rentOf 12 = .ok (.goto 15, 3) := by decide +kernel
theorem dX7_rentOf_15 : decode cX7_rentOf 15 = .ok (.aload_n 0, 1) := by decide +kernel
theorem dX7_rentOf_16 : decode cX7_rentOf 16 = .ok (.getfield 7, 3) := by decide +kernel
theorem dX7_rentOf_19 : decode cX7_rentOf 19 = .ok (.iconst 4, 1) := by decide +kernel
theorem dX7_rentOf_20 : decode cX7_rentOf 20 = .ok (.iaload, 1) := by decide +kernel
theorem dX7_rentOf_21 : decode cX7_rentOf 21 = .ok (.iload_n 2, 1) := by decide +kernel
theorem dX7_rentOf_22 : decode cX7_rentOf 22 = .ok (.iadd, 1) := by decide +kernel
theorem dX7_rentOf_23 : decode cX7_rentOf 23 = .ok (.iconst 1, 1) := by decide +kernel
theorem dX7_rentOf_24 : decode cX7_rentOf 24 = .ok (.isub, 1) := by decide +kernel
theorem dX7_rentOf_25 : decode cX7_rentOf 25 = .ok (.iload_n 2, 1) := by decide +kernel
theorem dX7_rentOf_26 : decode cX7_rentOf 26 = .ok (.idiv, 1) := by decide +kernel
theorem dX7_rentOf_27 : decode cX7_rentOf 27 = .ok (.ireturn, 1) := by decide +kernel
theorem dX7_dueOf_0 : decode cX7_dueOf 0 = .ok (.aload_n 0, 1) := by decide +kernel
theorem dX7_dueOf_1 : decode cX7_dueOf 1 = .ok (.iload_n 1, 1) := by decide +kernel
theorem dX7_dueOf_2 : decode cX7_dueOf 2 = .ok (.invokevirtual 64, 3) := by decide +kernel
theorem dX7_dueOf_5 : decode cX7_dueOf 5 = .ok (.ifCond .eq 11, 3) := by decide +kernel
theorem dX7_dueOf_8 : decode cX7_dueOf 8 = .ok (.aload_n 0, 1) := by decide +kernel
theorem dX7_dueOf_9 : decode cX7_dueOf 9 = .ok (.iload_n 1, 1) := by decide +kernel
theorem dX7_dueOf_10 : decode cX7_dueOf 10 = .ok (.invokevirtual 72, 3) := by decide +kernel
theorem dX7_dueOf_13 : decode cX7_dueOf 13 = .ok (.ifCond .eq 5, 3) := by decide +kernel
theorem dX7_dueOf_16 : decode cX7_dueOf 16 = .ok (.iconst 0, 1) := by decide +kernel
theorem dX7_dueOf_17 : decode cX7_dueOf 17 = .ok (.ireturn, 1) := by decide +kernel
theorem dX7_dueOf_18 : decode cX7_dueOf 18 = .ok (.iconst 0, 1) := by decide +kernel
theorem dX7_dueOf_19 : decode cX7_dueOf 19 = .ok (.istore_n 2, 1) := by decide +kernel
theorem dX7_dueOf_20 : decode cX7_dueOf 20 = .ok (.iconst 0, 1) := by decide +kernel
theorem dX7_dueOf_21 : decode cX7_dueOf 21 = .ok (.istore_n 3, 1) := by decide +kernel
theorem dX7_dueOf_22 : decode cX7_dueOf 22 = .ok (.iload_n 3, 1) := by decide +kernel
theorem dX7_dueOf_23 : decode cX7_dueOf 23 = .ok (.aload_n 0, 1) := by decide +kernel
theorem dX7_dueOf_24 : decode cX7_dueOf 24 = .ok (.getfield 7, 3) := by decide +kernel
theorem dX7_dueOf_27 : decode cX7_dueOf 27 = .ok (.bipush 8, 2) := by decide +kernel
theorem dX7_dueOf_29 : decode cX7_dueOf 29 = .ok (.iaload, 1) := by decide +kernel
theorem dX7_dueOf_30 : decode cX7_dueOf 30 = .ok (.if_icmp .ge 38, 3) := by decide +kernel
theorem dX7_dueOf_33 : decode cX7_dueOf 33 = .ok (.iload_n 2, 1) := by decide +kernel
theorem dX7_dueOf_34 : decode cX7_dueOf 34 = .ok (.aload_n 0, 1) := by decide +kernel
theorem dX7_dueOf_35 : decode cX7_dueOf 35 = .ok (.iload_n 3, 1) := by decide +kernel
theorem dX7_dueOf_36 : decode cX7_dueOf 36 = .ok (.invokevirtual 79, 3) := by decide +kernel
theorem dX7_dueOf_39 : decode cX7_dueOf 39 = .ok (.ifCond .eq 20, 3) := by decide +kernel
theorem dX7_dueOf_42 : decode cX7_dueOf 42 = .ok (.aload_n 0, 1) := by decide +kernel
theorem dX7_dueOf_43 : decode cX7_dueOf 43 = .ok (.iload_n 1, 1) := by decide +kernel
theorem dX7_dueOf_44 : decode cX7_dueOf 44 = .ok (.iload_n 3, 1) := by decide +kernel
theorem dX7_dueOf_45 : decode cX7_dueOf 45 = .ok (.invokevirtual 68, 3) := by decide +kernel
theorem dX7_dueOf_48 : decode cX7_dueOf 48 = .ok (.ifCond .eq 11, 3) := by decide +kernel
theorem dX7_dueOf_51 : decode cX7_dueOf 51 = .ok (.aload_n 0, 1) := by decide +kernel
theorem dX7_dueOf_52 : decode cX7_dueOf 52 = .ok (.iload_n 3, 1) := by decide +kernel
theorem dX7_dueOf_53 : decode cX7_dueOf 53 = .ok (.invokevirtual 82, 3) := by decide +kernel
theorem dX7_dueOf_56 : decode cX7_dueOf 56 = .ok (.goto 4, 3) := by decide +kernel
theorem dX7_dueOf_59 : decode cX7_dueOf 59 = .ok (.iconst 0, 1) := by decide +kernel
theorem dX7_dueOf_60 : decode cX7_dueOf 60 = .ok (.iadd, 1) := by decide +kernel
theorem dX7_dueOf_61 : decode cX7_dueOf 61 = .ok (.istore_n 2, 1) := by decide +kernel
theorem dX7_dueOf_62 : decode cX7_dueOf 62 = .ok (.iinc 3 1, 3) := by decide +kernel
theorem dX7_dueOf_65 : decode cX7_dueOf 65 = .ok (.goto (-43), 3) := by decide +kernel
theorem dX7_dueOf_68 : decode cX7_dueOf 68 = .ok (.iload_n 2, 1) := by decide +kernel
theorem dX7_dueOf_69 : decode cX7_dueOf 69 = .ok (.ireturn, 1) := by decide +kernel
theorem dX7_oldMany_0 : decode cX7_oldMany 0 = .ok (.aload_n 0, 1) := by decide +kernel
theorem dX7_oldMany_1 : decode cX7_oldMany 1 = .ok (.getfield 7, 3) := by decide +kernel
theorem dX7_oldMany_4 : decode cX7_oldMany 4 = .ok (.bipush 8, 2) := by decide +kernel
theorem dX7_oldMany_6 : decode cX7_oldMany 6 = .ok (.iaload, 1) := by decide +kernel
theorem dX7_oldMany_7 : decode cX7_oldMany 7 = .ok (.bipush 12, 2) := by decide +kernel
theorem dX7_oldMany_9 : decode cX7_oldMany 9 = .ok (.isub, 1) := by decide +kernel
theorem dX7_oldMany_10 : decode cX7_oldMany 10 = .ok (.ireturn, 1) := by decide +kernel
theorem dX7_removes_0 : decode cX7_removes 0 = .ok (.iconst 0, 1) := by decide +kernel
theorem dX7_removes_1 : decode cX7_removes 1 = .ok (.istore_n 1, 1) := by decide +kernel
theorem dX7_removes_2 : decode cX7_removes 2 = .ok (.aload_n 0, 1) := by decide +kernel
theorem dX7_removes_3 : decode cX7_removes 3 = .ok (.getfield 7, 3) := by decide +kernel
theorem dX7_removes_6 : decode cX7_removes 6 = .ok (.bipush 8, 2) := by decide +kernel
theorem dX7_removes_8 : decode cX7_removes 8 = .ok (.iaload, 1) := by decide +kernel
theorem dX7_removes_9 : decode cX7_removes 9 = .ok (.iconst 1, 1) := by decide +kernel
theorem dX7_removes_10 : decode cX7_removes 10 = .ok (.isub, 1) := by decide +kernel
theorem dX7_removes_11 : decode cX7_removes 11 = .ok (.istore_n 2, 1) := by decide +kernel
theorem dX7_removes_12 : decode cX7_removes 12 = .ok (.iload_n 2, 1) := by decide +kernel
theorem dX7_removes_13 : decode cX7_removes 13 = .ok (.ifCond .lt 85, 3) := by decide +kernel
theorem dX7_removes_16 : decode cX7_removes 16 = .ok (.aload_n 0, 1) := by decide +kernel
theorem dX7_removes_17 : decode cX7_removes 17 = .ok (.iload_n 2, 1) := by decide +kernel
theorem dX7_removes_18 : decode cX7_removes 18 = .ok (.invokevirtual 79, 3) := by decide +kernel
theorem dX7_removes_21 : decode cX7_removes 21 = .ok (.ifCond .eq 71, 3) := by decide +kernel
theorem dX7_removes_24 : decode cX7_removes 24 = .ok (.aload_n 0, 1) := by decide +kernel
theorem dX7_removes_25 : decode cX7_removes 25 = .ok (.iload_n 2, 1) := by decide +kernel
theorem dX7_removes_26 : decode cX7_removes 26 = .ok (.iconst 1, 1) := by decide +kernel
theorem dX7_removes_27 : decode cX7_removes 27 = .ok (.invokevirtual 75, 3) := by decide +kernel
theorem dX7_removes_30 : decode cX7_removes 30 = .ok (.ifCond .ne 62, 3) := by decide +kernel
theorem dX7_removes_33 : decode cX7_removes 33 = .ok (.aload_n 0, 1) := by decide +kernel
theorem dX7_removes_34 : decode cX7_removes 34 = .ok (.getfield 7, 3) := by decide +kernel
theorem dX7_removes_37 : decode cX7_removes 37 = .ok (.bipush 8, 2) := by decide +kernel
theorem dX7_removes_39 : decode cX7_removes 39 = .ok (.dup2, 1) := by decide +kernel
theorem dX7_removes_40 : decode cX7_removes 40 = .ok (.iaload, 1) := by decide +kernel
theorem dX7_removes_41 : decode cX7_removes 41 = .ok (.iconst 1, 1) := by decide +kernel
theorem dX7_removes_42 : decode cX7_removes 42 = .ok (.isub, 1) := by decide +kernel
theorem dX7_removes_43 : decode cX7_removes 43 = .ok (.iastore, 1) := by decide +kernel
theorem dX7_removes_44 : decode cX7_removes 44 = .ok (.iconst 3, 1) := by decide +kernel
theorem dX7_removes_45 : decode cX7_removes 45 = .ok (.iload_n 2, 1) := by decide +kernel
theorem dX7_removes_46 : decode cX7_removes 46 = .ok (.imul, 1) := by decide +kernel
theorem dX7_removes_47 : decode cX7_removes 47 = .ok (.istore_n 3, 1) := by decide +kernel
theorem dX7_removes_48 : decode cX7_removes 48 = .ok (.iload_n 3, 1) := by decide +kernel
theorem dX7_removes_49 : decode cX7_removes 49 = .ok (.iconst 3, 1) := by decide +kernel
theorem dX7_removes_50 : decode cX7_removes 50 = .ok (.aload_n 0, 1) := by decide +kernel
theorem dX7_removes_51 : decode cX7_removes 51 = .ok (.getfield 7, 3) := by decide +kernel
theorem dX7_removes_54 : decode cX7_removes 54 = .ok (.bipush 8, 2) := by decide +kernel
theorem dX7_removes_56 : decode cX7_removes 56 = .ok (.iaload, 1) := by decide +kernel
theorem dX7_removes_57 : decode cX7_removes 57 = .ok (.imul, 1) := by decide +kernel
theorem dX7_removes_58 : decode cX7_removes 58 = .ok (.if_icmp .ge 31, 3) := by decide +kernel
theorem dX7_removes_61 : decode cX7_removes 61 = .ok (.aload_n 0, 1) := by decide +kernel
theorem dX7_removes_62 : decode cX7_removes 62 = .ok (.getfield 7, 3) := by decide +kernel
theorem dX7_removes_65 : decode cX7_removes 65 = .ok (.sipush 809, 3) := by decide +kernel
theorem dX7_removes_68 : decode cX7_removes 68 = .ok (.iload_n 3, 1) := by decide +kernel
theorem dX7_removes_69 : decode cX7_removes 69 = .ok (.iadd, 1) := by decide +kernel
theorem dX7_removes_70 : decode cX7_removes 70 = .ok (.aload_n 0, 1) := by decide +kernel
theorem dX7_removes_71 : decode cX7_removes 71 = .ok (.getfield 7, 3) := by decide +kernel
theorem dX7_removes_74 : decode cX7_removes 74 = .ok (.sipush 809, 3) := by decide +kernel
theorem dX7_removes_77 : decode cX7_removes 77 = .ok (.iload_n 3, 1) := by decide +kernel
theorem dX7_removes_78 : decode cX7_removes 78 = .ok (.iadd, 1) := by decide +kernel
theorem dX7_removes_79 : decode cX7_removes 79 = .ok (.iconst 3, 1) := by decide +kernel
theorem dX7_removes_80 : decode cX7_removes 80 = .ok (.iadd, 1) := by decide +kernel
theorem dX7_removes_81 : decode cX7_removes 81 = .ok (.iaload, 1) := by decide +kernel
theorem dX7_removes_82 : decode cX7_removes 82 = .ok (.iastore, 1) := by decide +kernel
theorem dX7_removes_83 : decode cX7_removes 83 = .ok (.iinc 3 1, 3) := by decide +kernel
theorem dX7_removes_86 : decode cX7_removes 86 = .ok (.goto (-38), 3) := by decide +kernel
theorem dX7_removes_89 : decode cX7_removes 89 = .ok (.iinc 1 1, 3) := by decide +kernel
theorem dX7_removes_92 : decode cX7_removes 92 = .ok (.iinc 2 (-1), 3) := by decide +kernel
theorem dX7_removes_95 : decode cX7_removes 95 = .ok (.goto (-83), 3) := by decide +kernel
theorem dX7_removes_98 : decode cX7_removes 98 = .ok (.aload_n 0, 1) := by decide +kernel
theorem dX7_removes_99 : decode cX7_removes 99 = .ok (.getfield 7, 3) := by decide +kernel
theorem dX7_removes_102 : decode cX7_removes 102 = .ok (.iconst 3, 1) := by decide +kernel
theorem dX7_removes_103 : decode cX7_removes 103 = .ok (.dup2, 1) := by decide +kernel
theorem dX7_removes_104 : decode cX7_removes 104 = .ok (.iaload, 1) := by decide +kernel
theorem dX7_removes_105 : decode cX7_removes 105 = .ok (.iload_n 1, 1) := by decide +kernel
theorem dX7_removes_106 : decode cX7_removes 106 = .ok (.iadd, 1) := by decide +kernel
theorem dX7_removes_107 : decode cX7_removes 107 = .ok (.iastore, 1) := by decide +kernel
theorem dX7_removes_108 : decode cX7_removes 108 = .ok (.iload_n 1, 1) := by decide +kernel
theorem dX7_removes_109 : decode cX7_removes 109 = .ok (.ireturn, 1) := by decide +kernel
theorem dX7_ofState_0 : decode cX7_ofState 0 = .ok (.iconst 0, 1) := by decide +kernel
theorem dX7_ofState_1 : decode cX7_ofState 1 = .ok (.istore_n 2, 1) := by decide +kernel
theorem dX7_ofState_2 : decode cX7_ofState 2 = .ok (.iconst 0, 1) := by decide +kernel
theorem dX7_ofState_3 : decode cX7_ofState 3 = .ok (.istore_n 3, 1) := by decide +kernel
theorem dX7_ofState_4 : decode cX7_ofState 4 = .ok (.iload_n 3, 1) := by decide +kernel
theorem dX7_ofState_5 : decode cX7_ofState 5 = .ok (.aload_n 0, 1) := by decide +kernel
theorem dX7_ofState_6 : decode cX7_ofState 6 = .ok (.getfield 7, 3) := by decide +kernel
theorem dX7_ofState_9 : decode cX7_ofState 9 = .ok (.iconst 2, 1) := by decide +kernel
theorem dX7_ofState_10 : decode cX7_ofState 10 = .ok (.iaload, 1) := by decide +kernel
theorem dX7_ofState_11 : decode cX7_ofState 11 = .ok (.if_icmp .ge 27, 3) := by decide +kernel
theorem dX7_ofState_14 : decode cX7_ofState 14 = .ok (.iload_n 2, 1) := by decide +kernel
theorem dX7_ofState_15 : decode cX7_ofState 15 = .ok (.aload_n 0, 1) := by decide +kernel
theorem dX7_ofState_16 : decode cX7_ofState 16 = .ok (.iload_n 3, 1) := by decide +kernel
theorem dX7_ofState_17 : decode cX7_ofState 17 = .ok (.iconst 2, 1) := by decide +kernel
theorem dX7_ofState_18 : decode cX7_ofState 18 = .ok (.invokevirtual 32, 3) := by decide +kernel
theorem dX7_ofState_21 : decode cX7_ofState 21 = .ok (.iload_n 1, 1) := by decide +kernel
theorem dX7_ofState_22 : decode cX7_ofState 22 = .ok (.if_icmp .ne 7, 3) := by decide +kernel
theorem dX7_ofState_25 : decode cX7_ofState 25 = .ok (.iconst 1, 1) := by decide +kernel
theorem dX7_ofState_26 : decode cX7_ofState 26 = .ok (.goto 4, 3) := by decide +kernel
theorem dX7_ofState_29 : decode cX7_ofState 29 = .ok (.iconst 0, 1) := by decide +kernel
theorem dX7_ofState_30 : decode cX7_ofState 30 = .ok (.iadd, 1) := by decide +kernel
theorem dX7_ofState_31 : decode cX7_ofState 31 = .ok (.istore_n 2, 1) := by decide +kernel
theorem dX7_ofState_32 : decode cX7_ofState 32 = .ok (.iinc 3 1, 3) := by decide +kernel
theorem dX7_ofState_35 : decode cX7_ofState 35 = .ok (.goto (-31), 3) := by decide +kernel
theorem dX7_ofState_38 : decode cX7_ofState 38 = .ok (.iload_n 2, 1) := by decide +kernel
theorem dX7_ofState_39 : decode cX7_ofState 39 = .ok (.ireturn, 1) := by decide +kernel
theorem dX7_open_0 : decode cX7_open 0 = .ok (.iload_n 1, 1) := by decide +kernel
theorem dX7_open_1 : decode cX7_open 1 = .ok (.iconst 0, 1) := by decide +kernel
theorem dX7_open_2 : decode cX7_open 2 = .ok (.sipush 9999, 3) := by decide +kernel
theorem dX7_open_5 : decode cX7_open 5 = .ok (.invokestatic 28, 3) := by decide +kernel
theorem dX7_open_8 : decode cX7_open 8 = .ok (.ifCond .ne 6, 3) := by decide +kernel
theorem dX7_open_11 : decode cX7_open 11 = .ok (.bipush (-2), 2) := by decide +kernel
theorem dX7_open_13 : decode cX7_open 13 = .ok (.ireturn, 1) := by decide +kernel
theorem dX7_open_14 : decode cX7_open 14 = .ok (.aload_n 0, 1) := by decide +kernel
theorem dX7_open_15 : decode cX7_open 15 = .ok (.iconst 0, 1) := by decide +kernel
theorem dX7_open_16 : decode cX7_open 16 = .ok (.invokevirtual 85, 3) := by decide +kernel
theorem dX7_open_19 : decode cX7_open 19 = .ok (.bipush 8, 2) := by decide +kernel
theorem dX7_open_21 : decode cX7_open 21 = .ok (.if_icmp .eq 14, 3) := by decide +kernel
theorem dX7_open_24 : decode cX7_open 24 = .ok (.aload_n 0, 1) := by decide +kernel
theorem dX7_open_25 : decode cX7_open 25 = .ok (.getfield 7, 3) := by decide +kernel
theorem dX7_open_28 : decode cX7_open 28 = .ok (.iconst 2, 1) := by decide +kernel
theorem dX7_open_29 : decode cX7_open 29 = .ok (.iaload, 1) := by decide +kernel
theorem dX7_open_30 : decode cX7_open 30 = .ok (.bipush 40, 2) := by decide +kernel
theorem dX7_open_32 : decode cX7_open 32 = .ok (.if_icmp .ne 6, 3) := by decide +kernel
theorem dX7_open_35 : decode cX7_open 35 = .ok (.bipush (-3), 2) := by decide +kernel
theorem dX7_open_37 : decode cX7_open 37 = .ok (.ireturn, 1) := by decide +kernel
theorem dX7_open_38 : decode cX7_open 38 = .ok (.aload_n 0, 1) := by decide +kernel
theorem dX7_open_39 : decode cX7_open 39 = .ok (.invokevirtual 51, 3) := by decide +kernel
theorem dX7_open_42 : decode cX7_open 42 = .ok (.aload_n 0, 1) := by decide +kernel
theorem dX7_open_43 : decode cX7_open 43 = .ok (.getfield 7, 3) := by decide +kernel
theorem dX7_open_46 : decode cX7_open 46 = .ok (.iconst 2, 1) := by decide +kernel
theorem dX7_open_47 : decode cX7_open 47 = .ok (.iaload, 1) := by decide +kernel
theorem dX7_open_48 : decode cX7_open 48 = .ok (.istore_n 2, 1) := by decide +kernel
theorem dX7_open_49 : decode cX7_open 49 = .ok (.aload_n 0, 1) := by decide +kernel
theorem dX7_open_50 : decode cX7_open 50 = .ok (.getfield 7, 3) := by decide +kernel
theorem dX7_open_53 : decode cX7_open 53 = .ok (.iconst 2, 1) := by decide +kernel
theorem dX7_open_54 : decode cX7_open 54 = .ok (.dup2, 1) := by decide +kernel
theorem dX7_open_55 : decode cX7_open 55 = .ok (.iaload, 1) := by decide +kernel
theorem dX7_open_56 : decode cX7_open 56 = .ok (.iconst 1, 1) := by decide +kernel
theorem dX7_open_57 : decode cX7_open 57 = .ok (.iadd, 1) := by decide +kernel
theorem dX7_open_58 : decode cX7_open 58 = .ok (.iastore, 1) := by decide +kernel
theorem dX7_open_59 : decode cX7_open 59 = .ok (.iconst 0, 1) := by decide +kernel
theorem dX7_open_60 : decode cX7_open 60 = .ok (.istore_n 3, 1) := by decide +kernel
theorem dX7_open_61 : decode cX7_open 61 = .ok (.iload_n 3, 1) := by decide +kernel
theorem dX7_open_62 : decode cX7_open 62 = .ok (.bipush 20, 2) := by decide +kernel
theorem dX7_open_64 : decode cX7_open 64 = .ok (.if_icmp .ge 16, 3) := by decide +kernel
theorem dX7_open_67 : decode cX7_open 67 = .ok (.aload_n 0, 1) := by decide +kernel
theorem dX7_open_68 : decode cX7_open 68 = .ok (.iload_n 2, 1) := by decide +kernel
theorem dX7_open_69 : decode cX7_open 69 = .ok (.iload_n 3, 1) := by decide +kernel
theorem dX7_open_70 : decode cX7_open 70 = .ok (.iconst 0, 1) := by decide +kernel
theorem dX7_open_71 : decode cX7_open 71 = .ok (.invokevirtual 88, 3) := by decide +kernel
theorem dX7_open_74 : decode cX7_open 74 = .ok (.iinc 3 1, 3) := by decide +kernel
theorem dX7_open_77 : decode cX7_open 77 = .ok (.goto (-16), 3) := by decide +kernel
theorem dX7_open_80 : decode cX7_open 80 = .ok (.aload_n 0, 1) := by decide +kernel
theorem dX7_open_81 : decode cX7_open 81 = .ok (.iload_n 2, 1) := by decide +kernel
theorem dX7_open_82 : decode cX7_open 82 = .ok (.iconst 0, 1) := by decide +kernel
theorem dX7_open_83 : decode cX7_open 83 = .ok (.aload_n 0, 1) := by decide +kernel
theorem dX7_open_84 : decode cX7_open 84 = .ok (.getfield 7, 3) := by decide +kernel
theorem dX7_open_87 : decode cX7_open 87 = .ok (.iconst 0, 1) := by decide +kernel
theorem dX7_open_88 : decode cX7_open 88 = .ok (.iaload, 1) := by decide +kernel
theorem dX7_open_89 : decode cX7_open 89 = .ok (.invokevirtual 88, 3) := by decide +kernel
theorem dX7_open_92 : decode cX7_open 92 = .ok (.aload_n 0, 1) := by decide +kernel
theorem dX7_open_93 : decode cX7_open 93 = .ok (.iload_n 2, 1) := by decide +kernel
theorem dX7_open_94 : decode cX7_open 94 = .ok (.iconst 1, 1) := by decide +kernel
theorem dX7_open_95 : decode cX7_open 95 = .ok (.iload_n 1, 1) := by decide +kernel
theorem dX7_open_96 : decode cX7_open 96 = .ok (.invokevirtual 88, 3) := by decide +kernel
theorem dX7_open_99 : decode cX7_open 99 = .ok (.iload_n 2, 1) := by decide +kernel
theorem dX7_open_100 : decode cX7_open 100 = .ok (.ireturn, 1) := by decide +kernel
theorem dX7_pay_0 : decode cX7_pay 0 = .ok (.aload_n 0, 1) := by decide +kernel
theorem dX7_pay_1 : decode cX7_pay 1 = .ok (.iload_n 1, 1) := by decide +kernel
theorem dX7_pay_2 : decode cX7_pay 2 = .ok (.invokevirtual 92, 3) := by decide +kernel
theorem dX7_pay_5 : decode cX7_pay 5 = .ok (.ifCond .ne 5, 3) := by decide +kernel
theorem dX7_pay_8 : decode cX7_pay 8 = .ok (.iconst (-1), 1) := by decide +kernel
theorem dX7_pay_9 : decode cX7_pay 9 = .ok (.ireturn, 1) := by decide +kernel
theorem dX7_pay_10 : decode cX7_pay 10 = .ok (.iload_n 2, 1) := by decide +kernel
theorem dX7_pay_11 : decode cX7_pay 11 = .ok (.iconst 1, 1) := by decide +kernel
theorem dX7_pay_12 : decode cX7_pay 12 = .ok (.sipush 9999, 3) := by decide +kernel
theorem dX7_pay_15 : decode cX7_pay 15 = .ok (.invokestatic 28, 3) := by decide +kernel
theorem dX7_pay_18 : decode cX7_pay 18 = .ok (.ifCond .ne 6, 3) := by decide +kernel
theorem dX7_pay_21 : decode cX7_pay 21 = .ok (.bipush (-2), 2) := by decide +kernel
theorem dX7_pay_23 : decode cX7_pay 23 = .ok (.ireturn, 1) := by decide +kernel
theorem dX7_pay_24 : decode cX7_pay 24 = .ok (.aload_n 0, 1) := by decide +kernel
theorem dX7_pay_25 : decode cX7_pay 25 = .ok (.iload_n 1, 1) := by decide +kernel
theorem dX7_pay_26 : decode cX7_pay 26 = .ok (.invokevirtual 64, 3) := by decide +kernel
theorem dX7_pay_29 : decode cX7_pay 29 = .ok (.ifCond .ne 6, 3) := by decide +kernel
theorem dX7_pay_32 : decode cX7_pay 32 = .ok (.bipush (-4), 2) := by decide +kernel
theorem dX7_pay_34 : decode cX7_pay 34 = .ok (.ireturn, 1) := by decide +kernel
theorem dX7_pay_35 : decode cX7_pay 35 = .ok (.aload_n 0, 1) := by decide +kernel
theorem dX7_pay_36 : decode cX7_pay 36 = .ok (.iload_n 1, 1) := by decide +kernel
theorem dX7_pay_37 : decode cX7_pay 37 = .ok (.iconst 1, 1) := by decide +kernel
theorem dX7_pay_38 : decode cX7_pay 38 = .ok (.invokevirtual 32, 3) := by decide +kernel
theorem dX7_pay_41 : decode cX7_pay 41 = .ok (.iload_n 2, 1) := by decide +kernel
theorem dX7_pay_42 : decode cX7_pay 42 = .ok (.iadd, 1) := by decide +kernel
theorem dX7_pay_43 : decode cX7_pay 43 = .ok (.istore_n 3, 1) := by decide +kernel
theorem dX7_pay_44 : decode cX7_pay 44 = .ok (.iload_n 3, 1) := by decide +kernel
theorem dX7_pay_45 : decode cX7_pay 45 = .ok (.sipush 9999, 3) := by decide +kernel
theorem dX7_pay_48 : decode cX7_pay 48 = .ok (.if_icmp .le 6, 3) := by decide +kernel
theorem dX7_pay_51 : decode cX7_pay 51 = .ok (.bipush (-3), 2) := by decide +kernel
theorem dX7_pay_53 : decode cX7_pay 53 = .ok (.ireturn, 1) := by decide +kernel
theorem dX7_pay_54 : decode cX7_pay 54 = .ok (.aload_n 0, 1) := by decide +kernel
theorem dX7_pay_55 : decode cX7_pay 55 = .ok (.invokevirtual 51, 3) := by decide +kernel
theorem dX7_pay_58 : decode cX7_pay 58 = .ok (.aload_n 0, 1) := by decide +kernel
theorem dX7_pay_59 : decode cX7_pay 59 = .ok (.iload_n 1, 1) := by decide +kernel
theorem dX7_pay_60 : decode cX7_pay 60 = .ok (.iconst 1, 1) := by decide +kernel
theorem dX7_pay_61 : decode cX7_pay 61 = .ok (.iload_n 3, 1) := by decide +kernel
theorem dX7_pay_62 : decode cX7_pay 62 = .ok (.invokevirtual 88, 3) := by decide +kernel
theorem dX7_pay_65 : decode cX7_pay 65 = .ok (.iload_n 3, 1) := by decide +kernel
theorem dX7_pay_66 : decode cX7_pay 66 = .ok (.ireturn, 1) := by decide +kernel
theorem dX7_widow_0 : decode cX7_widow 0 = .ok (.aload_n 0, 1) := by decide +kernel
theorem dX7_widow_1 : decode cX7_widow 1 = .ok (.iload_n 1, 1) := by decide +kernel
theorem dX7_widow_2 : decode cX7_widow 2 = .ok (.invokevirtual 92, 3) := by decide +kernel
theorem dX7_widow_5 : decode cX7_widow 5 = .ok (.ifCond .ne 5, 3) := by decide +kernel
theorem dX7_widow_8 : decode cX7_widow 8 = .ok (.iconst (-1), 1) := by decide +kernel
theorem dX7_widow_9 : decode cX7_widow 9 = .ok (.ireturn, 1) := by decide +kernel
theorem dX7_widow_10 : decode cX7_widow 10 = .ok (.iload_n 2, 1) := by decide +kernel
theorem dX7_widow_11 : decode cX7_widow 11 = .ok (.iconst 1, 1) := by decide +kernel
theorem dX7_widow_12 : decode cX7_widow 12 = .ok (.bipush 20, 2) := by decide +kernel
theorem dX7_widow_14 : decode cX7_widow 14 = .ok (.invokestatic 28, 3) := by decide +kernel
theorem dX7_widow_17 : decode cX7_widow 17 = .ok (.ifCond .ne 6, 3) := by decide +kernel
theorem dX7_widow_20 : decode cX7_widow 20 = .ok (.bipush (-2), 2) := by decide +kernel
theorem dX7_widow_22 : decode cX7_widow 22 = .ok (.ireturn, 1) := by decide +kernel
theorem dX7_widow_23 : decode cX7_widow 23 = .ok (.aload_n 0, 1) := by decide +kernel
theorem dX7_widow_24 : decode cX7_widow 24 = .ok (.iload_n 1, 1) := by decide +kernel
theorem dX7_widow_25 : decode cX7_widow 25 = .ok (.invokevirtual 64, 3) := by decide +kernel
theorem dX7_widow_28 : decode cX7_widow 28 = .ok (.ifCond .eq 14, 3) := by decide +kernel
theorem dX7_widow_31 : decode cX7_widow 31 = .ok (.aload_n 0, 1) := by decide +kernel
theorem dX7_widow_32 : decode cX7_widow 32 = .ok (.iload_n 1, 1) := by decide +kernel
theorem dX7_widow_33 : decode cX7_widow 33 = .ok (.bipush 6, 2) := by decide +kernel
theorem dX7_widow_35 : decode cX7_widow 35 = .ok (.invokevirtual 32, 3) := by decide +kernel
theorem dX7_widow_38 : decode cX7_widow 38 = .ok (.iconst 1, 1) := by decide +kernel
theorem dX7_widow_39 : decode cX7_widow 39 = .ok (.if_icmp .ne 6, 3) := by decide +kernel
theorem dX7_widow_42 : decode cX7_widow 42 = .ok (.bipush (-4), 2) := by decide +kernel
theorem dX7_widow_44 : decode cX7_widow 44 = .ok (.ireturn, 1) := by decide +kernel
theorem dX7_widow_45 : decode cX7_widow 45 = .ok (.aload_n 0, 1) := by decide +kernel
theorem dX7_widow_46 : decode cX7_widow 46 = .ok (.invokevirtual 51, 3) := by decide +kernel
theorem dX7_widow_49 : decode cX7_widow 49 = .ok (.aload_n 0, 1) := by decide +kernel
theorem dX7_widow_50 : decode cX7_widow 50 = .ok (.iload_n 1, 1) := by decide +kernel
theorem dX7_widow_51 : decode cX7_widow 51 = .ok (.invokevirtual 95, 3) := by decide +kernel
theorem dX7_widow_54 : decode cX7_widow 54 = .ok (.istore_n 3, 1) := by decide +kernel
theorem dX7_widow_55 : decode cX7_widow 55 = .ok (.aload_n 0, 1) := by decide +kernel
theorem dX7_widow_56 : decode cX7_widow 56 = .ok (.iload_n 1, 1) := by decide +kernel
theorem dX7_widow_57 : decode cX7_widow 57 = .ok (.iconst 5, 1) := by decide +kernel
theorem dX7_widow_58 : decode cX7_widow 58 = .ok (.iload_n 2, 1) := by decide +kernel
theorem dX7_widow_59 : decode cX7_widow 59 = .ok (.invokevirtual 88, 3) := by decide +kernel
theorem dX7_widow_62 : decode cX7_widow 62 = .ok (.aload_n 0, 1) := by decide +kernel
theorem dX7_widow_63 : decode cX7_widow 63 = .ok (.iload_n 1, 1) := by decide +kernel
theorem dX7_widow_64 : decode cX7_widow 64 = .ok (.bipush 6, 2) := by decide +kernel
theorem dX7_widow_66 : decode cX7_widow 66 = .ok (.iconst 1, 1) := by decide +kernel
theorem dX7_widow_67 : decode cX7_widow 67 = .ok (.invokevirtual 88, 3) := by decide +kernel
theorem dX7_widow_70 : decode cX7_widow 70 = .ok (.iload_n 3, 1) := by decide +kernel
theorem dX7_widow_71 : decode cX7_widow 71 = .ok (.ireturn, 1) := by decide +kernel
theorem dX7_close_0 : decode cX7_close 0 = .ok (.aload_n 0, 1) := by decide +kernel
theorem dX7_close_1 : decode cX7_close 1 = .ok (.iload_n 1, 1) := by decide +kernel
theorem dX7_close_2 : decode cX7_close 2 = .ok (.invokevirtual 92, 3) := by decide +kernel
theorem dX7_close_5 : decode cX7_close 5 = .ok (.ifCond .ne 5, 3) := by decide +kernel
theorem dX7_close_8 : decode cX7_close 8 = .ok (.iconst (-1), 1) := by decide +kernel
theorem dX7_close_9 : decode cX7_close 9 = .ok (.ireturn, 1) := by decide +kernel
theorem dX7_close_10 : decode cX7_close 10 = .ok (.aload_n 0, 1) := by decide +kernel
theorem dX7_close_11 : decode cX7_close 11 = .ok (.iload_n 1, 1) := by decide +kernel
theorem dX7_close_12 : decode cX7_close 12 = .ok (.invokevirtual 64, 3) := by decide +kernel
theorem dX7_close_15 : decode cX7_close 15 = .ok (.ifCond .ne 6, 3) := by decide +kernel
theorem dX7_close_18 : decode cX7_close 18 = .ok (.bipush (-4), 2) := by decide +kernel
theorem dX7_close_20 : decode cX7_close 20 = .ok (.ireturn, 1) := by decide +kernel
theorem dX7_close_21 : decode cX7_close 21 = .ok (.aload_n 0, 1) := by decide +kernel
theorem dX7_close_22 : decode cX7_close 22 = .ok (.invokevirtual 51, 3) := by decide +kernel
theorem dX7_close_25 : decode cX7_close 25 = .ok (.aload_n 0, 1) := by decide +kernel
theorem dX7_close_26 : decode cX7_close 26 = .ok (.iload_n 1, 1) := by decide +kernel
theorem dX7_close_27 : decode cX7_close 27 = .ok (.iconst 2, 1) := by decide +kernel
theorem dX7_close_28 : decode cX7_close 28 = .ok (.iconst 2, 1) := by decide +kernel
theorem dX7_close_29 : decode cX7_close 29 = .ok (.invokevirtual 88, 3) := by decide +kernel
theorem dX7_close_32 : decode cX7_close 32 = .ok (.aload_n 0, 1) := by decide +kernel
theorem dX7_close_33 : decode cX7_close 33 = .ok (.invokevirtual 98, 3) := by decide +kernel
theorem dX7_close_36 : decode cX7_close 36 = .ok (.ireturn, 1) := by decide +kernel
theorem dX7_setRent_0 : decode cX7_setRent 0 = .ok (.iload_n 1, 1) := by decide +kernel
theorem dX7_setRent_1 : decode cX7_setRent 1 = .ok (.iconst 0, 1) := by decide +kernel
theorem dX7_setRent_2 : decode cX7_setRent 2 = .ok (.bipush 99, 2) := by decide +kernel
theorem dX7_setRent_4 : decode cX7_setRent 4 = .ok (.invokestatic 28, 3) := by decide +kernel
theorem dX7_setRent_7 : decode cX7_setRent 7 = .ok (.ifCond .ne 6, 3) := by decide +kernel
theorem dX7_setRent_10 : decode cX7_setRent 10 = .ok (.bipush (-2), 2) := by decide +kernel
theorem dX7_setRent_12 : decode cX7_setRent 12 = .ok (.ireturn, 1) := by decide +kernel
theorem dX7_setRent_13 : decode cX7_setRent 13 = .ok (.aload_n 0, 1) := by decide +kernel
theorem dX7_setRent_14 : decode cX7_setRent 14 = .ok (.getfield 7, 3) := by decide +kernel
theorem dX7_setRent_17 : decode cX7_setRent 17 = .ok (.iconst 4, 1) := by decide +kernel
theorem dX7_setRent_18 : decode cX7_setRent 18 = .ok (.iaload, 1) := by decide +kernel
theorem dX7_setRent_19 : decode cX7_setRent 19 = .ok (.istore_n 2, 1) := by decide +kernel
theorem dX7_setRent_20 : decode cX7_setRent 20 = .ok (.iload_n 2, 1) := by decide +kernel
theorem dX7_setRent_21 : decode cX7_setRent 21 = .ok (.iload_n 1, 1) := by decide +kernel
theorem dX7_setRent_22 : decode cX7_setRent 22 = .ok (.if_icmp .ne 6, 3) := by decide +kernel
theorem dX7_setRent_25 : decode cX7_setRent 25 = .ok (.bipush (-5), 2) := by decide +kernel
theorem dX7_setRent_27 : decode cX7_setRent 27 = .ok (.ireturn, 1) := by decide +kernel
theorem dX7_setRent_28 : decode cX7_setRent 28 = .ok (.aload_n 0, 1) := by decide +kernel
theorem dX7_setRent_29 : decode cX7_setRent 29 = .ok (.invokevirtual 51, 3) := by decide +kernel
theorem dX7_setRent_32 : decode cX7_setRent 32 = .ok (.aload_n 0, 1) := by decide +kernel
theorem dX7_setRent_33 : decode cX7_setRent 33 = .ok (.getfield 7, 3) := by decide +kernel
theorem dX7_setRent_36 : decode cX7_setRent 36 = .ok (.iconst 4, 1) := by decide +kernel
theorem dX7_setRent_37 : decode cX7_setRent 37 = .ok (.iload_n 1, 1) := by decide +kernel
theorem dX7_setRent_38 : decode cX7_setRent 38 = .ok (.iastore, 1) := by decide +kernel
theorem dX7_setRent_39 : decode cX7_setRent 39 = .ok (.iload_n 2, 1) := by decide +kernel
theorem dX7_setRent_40 : decode cX7_setRent 40 = .ok (.ireturn, 1) := by decide +kernel
theorem dX7_forbidSkew_0 : decode cX7_forbidSkew 0 = .ok (.iload_n 1, 1) := by decide +kernel
theorem dX7_forbidSkew_1 : decode cX7_forbidSkew 1 = .ok (.ifCond .eq 7, 3) := by decide +kernel
theorem dX7_forbidSkew_4 : decode cX7_forbidSkew 4 = .ok (.iconst 1, 1) := by decide +kernel
theorem dX7_forbidSkew_5 : decode cX7_forbidSkew 5 = .ok (.goto 4, 3) := by decide +kernel
theorem dX7_forbidSkew_8 : decode cX7_forbidSkew 8 = .ok (.iconst 0, 1) := by decide +kernel
theorem dX7_forbidSkew_9 : decode cX7_forbidSkew 9 = .ok (.istore_n 2, 1) := by decide +kernel
theorem dX7_forbidSkew_10 : decode cX7_forbidSkew 10 = .ok (.aload_n 0, 1) := by decide +kernel
theorem dX7_forbidSkew_11 : decode cX7_forbidSkew 11 = .ok (.getfield 7, 3) := by decide +kernel
theorem dX7_forbidSkew_14 : decode cX7_forbidSkew 14 = .ok (.bipush 7, 2) := by decide +kernel
theorem dX7_forbidSkew_16 : decode cX7_forbidSkew 16 = .ok (.iaload, 1) := by decide +kernel
theorem dX7_forbidSkew_17 : decode cX7_forbidSkew 17 = .ok (.iload_n 2, 1) := by decide +kernel
theorem dX7_forbidSkew_18 : decode cX7_forbidSkew 18 = .ok (.if_icmp .ne 6, 3) := by decide +kernel
theorem dX7_forbidSkew_21 : decode cX7_forbidSkew 21 = .ok (.bipush (-5), 2) := by decide +kernel
theorem dX7_forbidSkew_23 : decode cX7_forbidSkew 23 = .ok (.ireturn, 1) := by decide +kernel
theorem dX7_forbidSkew_24 : decode cX7_forbidSkew 24 = .ok (.aload_n 0, 1) := by decide +kernel
theorem dX7_forbidSkew_25 : decode cX7_forbidSkew 25 = .ok (.invokevirtual 51, 3) := by decide +kernel
theorem dX7_forbidSkew_28 : decode cX7_forbidSkew 28 = .ok (.aload_n 0, 1) := by decide +kernel
theorem dX7_forbidSkew_29 : decode cX7_forbidSkew 29 = .ok (.getfield 7, 3) := by decide +kernel
theorem dX7_forbidSkew_32 : decode cX7_forbidSkew 32 = .ok (.bipush 7, 2) := by decide +kernel
theorem dX7_forbidSkew_34 : decode cX7_forbidSkew 34 = .ok (.iload_n 2, 1) := by decide +kernel
theorem dX7_forbidSkew_35 : decode cX7_forbidSkew 35 = .ok (.iastore, 1) := by decide +kernel
theorem dX7_forbidSkew_36 : decode cX7_forbidSkew 36 = .ok (.aload_n 0, 1) := by decide +kernel
theorem dX7_forbidSkew_37 : decode cX7_forbidSkew 37 = .ok (.invokevirtual 102, 3) := by decide +kernel
theorem dX7_forbidSkew_40 : decode cX7_forbidSkew 40 = .ok (.ireturn, 1) := by decide +kernel
theorem dX7_passes_0 : decode cX7_passes 0 = .ok (.iconst 0, 1) := by decide +kernel
theorem dX7_passes_1 : decode cX7_passes 1 = .ok (.istore_n 1, 1) := by decide +kernel
theorem dX7_passes_2 : decode cX7_passes 2 = .ok (.iconst 0, 1) := by decide +kernel
theorem dX7_passes_3 : decode cX7_passes 3 = .ok (.istore_n 2, 1) := by decide +kernel
theorem dX7_passes_4 : decode cX7_passes 4 = .ok (.iload_n 2, 1) := by decide +kernel
theorem dX7_passes_5 : decode cX7_passes 5 = .ok (.aload_n 0, 1) := by decide +kernel
theorem dX7_passes_6 : decode cX7_passes 6 = .ok (.getfield 7, 3) := by decide +kernel
theorem dX7_passes_9 : decode cX7_passes 9 = .ok (.iconst 2, 1) := by decide +kernel
theorem dX7_passes_10 : decode cX7_passes 10 = .ok (.iaload, 1) := by decide +kernel
theorem dX7_passes_11 : decode cX7_passes 11 = .ok (.if_icmp .ge 20, 3) := by decide +kernel
theorem dX7_passes_14 : decode cX7_passes 14 = .ok (.aload_n 0, 1) := by decide +kernel
theorem dX7_passes_15 : decode cX7_passes 15 = .ok (.getfield 25, 3) := by decide +kernel
theorem dX7_passes_18 : decode cX7_passes 18 = .ok (.iload_n 2, 1) := by decide +kernel
theorem dX7_passes_19 : decode cX7_passes 19 = .ok (.aload_n 0, 1) := by decide +kernel
theorem dX7_passes_20 : decode cX7_passes 20 = .ok (.iload_n 2, 1) := by decide +kernel
theorem dX7_passes_21 : decode cX7_passes 21 = .ok (.invokevirtual 95, 3) := by decide +kernel
theorem dX7_passes_24 : decode cX7_passes 24 = .ok (.iastore, 1) := by decide +kernel
theorem dX7_passes_25 : decode cX7_passes 25 = .ok (.iinc 2 1, 3) := by decide +kernel
theorem dX7_passes_28 : decode cX7_passes 28 = .ok (.goto (-24), 3) := by decide +kernel
theorem dX7_passes_31 : decode cX7_passes 31 = .ok (.iconst 0, 1) := by decide +kernel
theorem dX7_passes_32 : decode cX7_passes 32 = .ok (.istore_n 2, 1) := by decide +kernel
theorem dX7_passes_33 : decode cX7_passes 33 = .ok (.iload_n 2, 1) := by decide +kernel
theorem dX7_passes_34 : decode cX7_passes 34 = .ok (.aload_n 0, 1) := by decide +kernel
theorem dX7_passes_35 : decode cX7_passes 35 = .ok (.getfield 7, 3) := by decide +kernel
theorem dX7_passes_38 : decode cX7_passes 38 = .ok (.iconst 2, 1) := by decide +kernel
theorem dX7_passes_39 : decode cX7_passes 39 = .ok (.iaload, 1) := by decide +kernel
theorem dX7_passes_40 : decode cX7_passes 40 = .ok (.if_icmp .ge 133, 3) := by decide +kernel
theorem dX7_passes_43 : decode cX7_passes 43 = .ok (.aload_n 0, 1) := by decide +kernel
theorem dX7_passes_44 : decode cX7_passes 44 = .ok (.iload_n 2, 1) := by decide +kernel
theorem dX7_passes_45 : decode cX7_passes 45 = .ok (.invokevirtual 64, 3) := by decide +kernel
theorem dX7_passes_48 : decode cX7_passes 48 = .ok (.ifCond .eq 97, 3) := by decide +kernel
theorem dX7_passes_51 : decode cX7_passes 51 = .ok (.aload_n 0, 1) := by decide +kernel
theorem dX7_passes_52 : decode cX7_passes 52 = .ok (.iload_n 2, 1) := by decide +kernel
theorem dX7_passes_53 : decode cX7_passes 53 = .ok (.invokevirtual 72, 3) := by decide +kernel
theorem dX7_passes_56 : decode cX7_passes 56 = .ok (.ifCond .ne 89, 3) := by decide +kernel
theorem dX7_passes_59 : decode cX7_passes 59 = .ok (.aload_n 0, 1) := by decide +kernel
theorem dX7_passes_60 : decode cX7_passes 60 = .ok (.iload_n 2, 1) := by decide +kernel
theorem dX7_passes_61 : decode cX7_passes 61 = .ok (.iconst 1, 1) := by decide +kernel
theorem dX7_passes_62 : decode cX7_passes 62 = .ok (.invokevirtual 32, 3) := by decide +kernel
theorem dX7_passes_65 : decode cX7_passes 65 = .ok (.aload_n 0, 1) := by decide +kernel
theorem dX7_passes_66 : decode cX7_passes 66 = .ok (.getfield 25, 3) := by decide +kernel
theorem dX7_passes_69 : decode cX7_passes 69 = .ok (.iload_n 2, 1) := by decide +kernel
theorem dX7_passes_70 : decode cX7_passes 70 = .ok (.iaload, 1) := by decide +kernel
theorem dX7_passes_71 : decode cX7_passes 71 = .ok (.if_icmp .lt 61, 3) := by decide +kernel
theorem dX7_passes_74 : decode cX7_passes 74 = .ok (.aload_n 0, 1) := by decide +kernel
theorem dX7_passes_75 : decode cX7_passes 75 = .ok (.iload_n 2, 1) := by decide +kernel
theorem dX7_passes_76 : decode cX7_passes 76 = .ok (.iconst 1, 1) := by decide +kernel
theorem dX7_passes_77 : decode cX7_passes 77 = .ok (.aload_n 0, 1) := by decide +kernel
theorem dX7_passes_78 : decode cX7_passes 78 = .ok (.iload_n 2, 1) := by decide +kernel
theorem dX7_passes_79 : decode cX7_passes 79 = .ok (.iconst 1, 1) := by decide +kernel
theorem dX7_passes_80 : decode cX7_passes 80 = .ok (.invokevirtual 32, 3) := by decide +kernel
theorem dX7_passes_83 : decode cX7_passes 83 = .ok (.aload_n 0, 1) := by decide +kernel
theorem dX7_passes_84 : decode cX7_passes 84 = .ok (.getfield 25, 3) := by decide +kernel
theorem dX7_passes_87 : decode cX7_passes 87 = .ok (.iload_n 2, 1) := by decide +kernel
theorem dX7_passes_88 : decode cX7_passes 88 = .ok (.iaload, 1) := by decide +kernel
theorem dX7_passes_89 : decode cX7_passes 89 = .ok (.isub, 1) := by decide +kernel
theorem dX7_passes_90 : decode cX7_passes 90 = .ok (.invokevirtual 88, 3) := by decide +kernel
theorem dX7_passes_93 : decode cX7_passes 93 = .ok (.aload_n 0, 1) := by decide +kernel
theorem dX7_passes_94 : decode cX7_passes 94 = .ok (.iload_n 2, 1) := by decide +kernel
theorem dX7_passes_95 : decode cX7_passes 95 = .ok (.bipush 7, 2) := by decide +kernel
theorem dX7_passes_97 : decode cX7_passes 97 = .ok (.aload_n 0, 1) := by decide +kernel
theorem dX7_passes_98 : decode cX7_passes 98 = .ok (.iload_n 2, 1) := by decide +kernel
theorem dX7_passes_99 : decode cX7_passes 99 = .ok (.bipush 7, 2) := by decide +kernel
theorem dX7_passes_101 : decode cX7_passes 101 = .ok (.invokevirtual 32, 3) := by decide +kernel
theorem dX7_passes_104 : decode cX7_passes 104 = .ok (.aload_n 0, 1) := by decide +kernel
theorem dX7_passes_105 : decode cX7_passes 105 = .ok (.getfield 25, 3) := by decide +kernel
theorem dX7_passes_108 : decode cX7_passes 108 = .ok (.iload_n 2, 1) := by decide +kernel
theorem dX7_passes_109 : decode cX7_passes 109 = .ok (.iaload, 1) := by decide +kernel
theorem dX7_passes_110 : decode cX7_passes 110 = .ok (.iadd, 1) := by decide +kernel
theorem dX7_passes_111 : decode cX7_passes 111 = .ok (.invokevirtual 88, 3) := by decide +kernel
theorem dX7_passes_114 : decode cX7_passes 114 = .ok (.aload_n 0, 1) := by decide +kernel
theorem dX7_passes_115 : decode cX7_passes 115 = .ok (.getfield 7, 3) := by decide +kernel
theorem dX7_passes_118 : decode cX7_passes 118 = .ok (.iconst 5, 1) := by decide +kernel
theorem dX7_passes_119 : decode cX7_passes 119 = .ok (.dup2, 1) := by decide +kernel
theorem dX7_passes_120 : decode cX7_passes 120 = .ok (.iaload, 1) := by decide +kernel
theorem dX7_passes_121 : decode cX7_passes 121 = .ok (.aload_n 0, 1) := by decide +kernel
theorem dX7_passes_122 : decode cX7_passes 122 = .ok (.getfield 25, 3) := by decide +kernel
theorem dX7_passes_125 : decode cX7_passes 125 = .ok (.iload_n 2, 1) := by decide +kernel
theorem dX7_passes_126 : decode cX7_passes 126 = .ok (.iaload, 1) := by decide +kernel
theorem dX7_passes_127 : decode cX7_passes 127 = .ok (.iadd, 1) := by decide +kernel
theorem dX7_passes_128 : decode cX7_passes 128 = .ok (.iastore, 1) := by decide +kernel
theorem dX7_passes_129 : decode cX7_passes 129 = .ok (.goto 38, 3) := by decide +kernel
theorem dX7_passes_132 : decode cX7_passes 132 = .ok (.aload_n 0, 1) := by decide +kernel
theorem dX7_passes_133 : decode cX7_passes 133 = .ok (.iload_n 2, 1) := by decide +kernel
theorem dX7_passes_134 : decode cX7_passes 134 = .ok (.iconst 2, 1) := by decide +kernel
theorem dX7_passes_135 : decode cX7_passes 135 = .ok (.iconst 3, 1) := by decide +kernel
theorem dX7_passes_136 : decode cX7_passes 136 = .ok (.invokevirtual 88, 3) := by decide +kernel
theorem dX7_passes_139 : decode cX7_passes 139 = .ok (.iinc 1 1, 3) := by decide +kernel
theorem dX7_passes_142 : decode cX7_passes 142 = .ok (.goto 25, 3) := by decide +kernel
theorem dX7_passes_145 : decode cX7_passes 145 = .ok (.aload_n 0, 1) := by decide +kernel
theorem dX7_passes_146 : decode cX7_passes 146 = .ok (.iload_n 2, 1) := by decide +kernel
theorem dX7_passes_147 : decode cX7_passes 147 = .ok (.invokevirtual 64, 3) := by decide +kernel
theorem dX7_passes_150 : decode cX7_passes 150 = .ok (.ifCond .eq 17, 3) := by decide +kernel
theorem dX7_passes_153 : decode cX7_passes 153 = .ok (.aload_n 0, 1) := by decide +kernel
theorem dX7_passes_154 : decode cX7_passes 154 = .ok (.iload_n 2, 1) := by decide +kernel
theorem dX7_passes_155 : decode cX7_passes 155 = .ok (.iconst 5, 1) := by decide +kernel
theorem dX7_passes_156 : decode cX7_passes 156 = .ok (.aload_n 0, 1) := by decide +kernel
theorem dX7_passes_157 : decode cX7_passes 157 = .ok (.iload_n 2, 1) := by decide +kernel
theorem dX7_passes_158 : decode cX7_passes 158 = .ok (.iconst 5, 1) := by decide +kernel
theorem dX7_passes_159 : decode cX7_passes 159 = .ok (.invokevirtual 32, 3) := by decide +kernel
theorem dX7_passes_162 : decode cX7_passes 162 = .ok (.iconst 1, 1) := by decide +kernel
theorem dX7_passes_163 : decode cX7_passes 163 = .ok (.isub, 1) := by decide +kernel
theorem dX7_passes_164 : decode cX7_passes 164 = .ok (.invokevirtual 88, 3) := by decide +kernel
theorem dX7_passes_167 : decode cX7_passes 167 = .ok (.iinc 2 1, 3) := by decide +kernel
theorem dX7_passes_170 : decode cX7_passes 170 = .ok (.goto (-137), 3) := by decide +kernel
theorem dX7_passes_173 : decode cX7_passes 173 = .ok (.aload_n 0, 1) := by decide +kernel
theorem dX7_passes_174 : decode cX7_passes 174 = .ok (.invokevirtual 98, 3) := by decide +kernel
theorem dX7_passes_177 : decode cX7_passes 177 = .ok (.pop, 1) := by decide +kernel
theorem dX7_passes_178 : decode cX7_passes 178 = .ok (.aload_n 0, 1) := by decide +kernel
theorem dX7_passes_179 : decode cX7_passes 179 = .ok (.getfield 7, 3) := by decide +kernel
theorem dX7_passes_182 : decode cX7_passes 182 = .ok (.iconst 1, 1) := by decide +kernel
theorem dX7_passes_183 : decode cX7_passes 183 = .ok (.dup2, 1) := by decide +kernel
theorem dX7_passes_184 : decode cX7_passes 184 = .ok (.iaload, 1) := by decide +kernel
theorem dX7_passes_185 : decode cX7_passes 185 = .ok (.iconst 1, 1) := by decide +kernel
theorem dX7_passes_186 : decode cX7_passes 186 = .ok (.iadd, 1) := by decide +kernel
theorem dX7_passes_187 : decode cX7_passes 187 = .ok (.iastore, 1) := by decide +kernel
theorem dX7_passes_188 : decode cX7_passes 188 = .ok (.iload_n 1, 1) := by decide +kernel
theorem dX7_passes_189 : decode cX7_passes 189 = .ok (.ireturn, 1) := by decide +kernel
theorem dX7_tick_0 : decode cX7_tick 0 = .ok (.iload_n 1, 1) := by decide +kernel
theorem dX7_tick_1 : decode cX7_tick 1 = .ok (.iconst 1, 1) := by decide +kernel
theorem dX7_tick_2 : decode cX7_tick 2 = .ok (.bipush 60, 2) := by decide +kernel
theorem dX7_tick_4 : decode cX7_tick 4 = .ok (.invokestatic 28, 3) := by decide +kernel
theorem dX7_tick_7 : decode cX7_tick 7 = .ok (.ifCond .ne 6, 3) := by decide +kernel
theorem dX7_tick_10 : decode cX7_tick 10 = .ok (.bipush (-2), 2) := by decide +kernel
theorem dX7_tick_12 : decode cX7_tick 12 = .ok (.ireturn, 1) := by decide +kernel
theorem dX7_tick_13 : decode cX7_tick 13 = .ok (.aload_n 0, 1) := by decide +kernel
theorem dX7_tick_14 : decode cX7_tick 14 = .ok (.invokevirtual 51, 3) := by decide +kernel
theorem dX7_tick_17 : decode cX7_tick 17 = .ok (.iconst 0, 1) := by decide +kernel
theorem dX7_tick_18 : decode cX7_tick 18 = .ok (.istore_n 2, 1) := by decide +kernel
theorem dX7_tick_19 : decode cX7_tick 19 = .ok (.iconst 0, 1) := by decide +kernel
theorem dX7_tick_20 : decode cX7_tick 20 = .ok (.istore_n 3, 1) := by decide +kernel
theorem dX7_tick_21 : decode cX7_tick 21 = .ok (.iload_n 3, 1) := by decide +kernel
theorem dX7_tick_22 : decode cX7_tick 22 = .ok (.iload_n 1, 1) := by decide +kernel
theorem dX7_tick_23 : decode cX7_tick 23 = .ok (.if_icmp .ge 16, 3) := by decide +kernel
theorem dX7_tick_26 : decode cX7_tick 26 = .ok (.iload_n 2, 1) := by decide +kernel
theorem dX7_tick_27 : decode cX7_tick 27 = .ok (.aload_n 0, 1) := by decide +kernel
theorem dX7_tick_28 : decode cX7_tick 28 = .ok (.invokevirtual 105, 3) := by decide +kernel
theorem dX7_tick_31 : decode cX7_tick 31 = .ok (.iadd, 1) := by decide +kernel
theorem dX7_tick_32 : decode cX7_tick 32 = .ok (.istore_n 2, 1) := by decide +kernel
theorem dX7_tick_33 : decode cX7_tick 33 = .ok (.iinc 3 1, 3) := by decide +kernel
theorem dX7_tick_36 : decode cX7_tick 36 = .ok (.goto (-15), 3) := by decide +kernel
theorem dX7_tick_39 : decode cX7_tick 39 = .ok (.iload_n 2, 1) := by decide +kernel
theorem dX7_tick_40 : decode cX7_tick 40 = .ok (.ireturn, 1) := by decide +kernel
theorem dX7_lasts_0 : decode cX7_lasts 0 = .ok (.aload_n 0, 1) := by decide +kernel
theorem dX7_lasts_1 : decode cX7_lasts 1 = .ok (.iload_n 1, 1) := by decide +kernel
theorem dX7_lasts_2 : decode cX7_lasts 2 = .ok (.invokevirtual 92, 3) := by decide +kernel
theorem dX7_lasts_5 : decode cX7_lasts 5 = .ok (.ifCond .ne 5, 3) := by decide +kernel
theorem dX7_lasts_8 : decode cX7_lasts 8 = .ok (.iconst (-1), 1) := by decide +kernel
theorem dX7_lasts_9 : decode cX7_lasts 9 = .ok (.ireturn, 1) := by decide +kernel
theorem dX7_lasts_10 : decode cX7_lasts 10 = .ok (.aload_n 0, 1) := by decide +kernel
theorem dX7_lasts_11 : decode cX7_lasts 11 = .ok (.iload_n 1, 1) := by decide +kernel
theorem dX7_lasts_12 : decode cX7_lasts 12 = .ok (.invokevirtual 64, 3) := by decide +kernel
theorem dX7_lasts_15 : decode cX7_lasts 15 = .ok (.ifCond .ne 6, 3) := by decide +kernel
theorem dX7_lasts_18 : decode cX7_lasts 18 = .ok (.bipush (-4), 2) := by decide +kernel
theorem dX7_lasts_20 : decode cX7_lasts 20 = .ok (.ireturn, 1) := by decide +kernel
theorem dX7_lasts_21 : decode cX7_lasts 21 = .ok (.aload_n 0, 1) := by decide +kernel
theorem dX7_lasts_22 : decode cX7_lasts 22 = .ok (.iconst 5, 1) := by decide +kernel
theorem dX7_lasts_23 : decode cX7_lasts 23 = .ok (.invokevirtual 40, 3) := by decide +kernel
theorem dX7_lasts_26 : decode cX7_lasts 26 = .ok (.iconst 0, 1) := by decide +kernel
theorem dX7_lasts_27 : decode cX7_lasts 27 = .ok (.istore_n 2, 1) := by decide +kernel
theorem dX7_lasts_28 : decode cX7_lasts 28 = .ok (.aload_n 0, 1) := by decide +kernel
theorem dX7_lasts_29 : decode cX7_lasts 29 = .ok (.iload_n 1, 1) := by decide +kernel
theorem dX7_lasts_30 : decode cX7_lasts 30 = .ok (.invokevirtual 64, 3) := by decide +kernel
theorem dX7_lasts_33 : decode cX7_lasts 33 = .ok (.ifCond .eq 28, 3) := by decide +kernel
theorem dX7_lasts_36 : decode cX7_lasts 36 = .ok (.iload_n 2, 1) := by decide +kernel
theorem dX7_lasts_37 : decode cX7_lasts 37 = .ok (.sipush 200, 3) := by decide +kernel
theorem dX7_lasts_40 : decode cX7_lasts 40 = .ok (.if_icmp .gt 21, 3) := by decide +kernel
theorem dX7_lasts_43 : decode cX7_lasts 43 = .ok (.iload_n 2, 1) := by decide +kernel
theorem dX7_lasts_44 : decode cX7_lasts 44 = .ok (.aload_n 0, 1) := by decide +kernel
theorem dX7_lasts_45 : decode cX7_lasts 45 = .ok (.invokevirtual 105, 3) := by decide +kernel
theorem dX7_lasts_48 : decode cX7_lasts 48 = .ok (.ifCond .ge 7, 3) := by decide +kernel
theorem dX7_lasts_51 : decode cX7_lasts 51 = .ok (.iconst 0, 1) := by decide +kernel
theorem dX7_lasts_52 : decode cX7_lasts 52 = .ok (.goto 4, 3) := by decide +kernel
theorem dX7_lasts_55 : decode cX7_lasts 55 = .ok (.iconst 1, 1) := by decide +kernel
theorem dX7_lasts_56 : decode cX7_lasts 56 = .ok (.iadd, 1) := by decide +kernel
theorem dX7_lasts_57 : decode cX7_lasts 57 = .ok (.istore_n 2, 1) := by decide +kernel
theorem dX7_lasts_58 : decode cX7_lasts 58 = .ok (.goto (-30), 3) := by decide +kernel
theorem dX7_lasts_61 : decode cX7_lasts 61 = .ok (.aload_n 0, 1) := by decide +kernel
theorem dX7_lasts_62 : decode cX7_lasts 62 = .ok (.iconst 5, 1) := by decide +kernel
theorem dX7_lasts_63 : decode cX7_lasts 63 = .ok (.invokevirtual 44, 3) := by decide +kernel
theorem dX7_lasts_66 : decode cX7_lasts 66 = .ok (.iload_n 2, 1) := by decide +kernel
theorem dX7_lasts_67 : decode cX7_lasts 67 = .ok (.sipush 200, 3) := by decide +kernel
theorem dX7_lasts_70 : decode cX7_lasts 70 = .ok (.if_icmp .le 8, 3) := by decide +kernel
theorem dX7_lasts_73 : decode cX7_lasts 73 = .ok (.bipush (-5), 2) := by decide +kernel
theorem dX7_lasts_75 : decode cX7_lasts 75 = .ok (.goto 4, 3) := by decide +kernel
theorem dX7_lasts_78 : decode cX7_lasts 78 = .ok (.iload_n 2, 1) := by decide +kernel
theorem dX7_lasts_79 : decode cX7_lasts 79 = .ok (.ireturn, 1) := by decide +kernel
theorem dX7_read_0 : decode cX7_read 0 = .ok (.aload_n 0, 1) := by decide +kernel
theorem dX7_read_1 : decode cX7_read 1 = .ok (.iload_n 1, 1) := by decide +kernel
theorem dX7_read_2 : decode cX7_read 2 = .ok (.invokevirtual 92, 3) := by decide +kernel
theorem dX7_read_5 : decode cX7_read 5 = .ok (.ifCond .eq 10, 3) := by decide +kernel
theorem dX7_read_8 : decode cX7_read 8 = .ok (.iload_n 2, 1) := by decide +kernel
theorem dX7_read_9 : decode cX7_read 9 = .ok (.invokestatic 108, 3) := by decide +kernel
theorem dX7_read_12 : decode cX7_read 12 = .ok (.ifCond .ne 5, 3) := by decide +kernel
theorem dX7_read_15 : decode cX7_read 15 = .ok (.iconst (-1), 1) := by decide +kernel
theorem dX7_read_16 : decode cX7_read 16 = .ok (.ireturn, 1) := by decide +kernel
theorem dX7_read_17 : decode cX7_read 17 = .ok (.aload_n 0, 1) := by decide +kernel
theorem dX7_read_18 : decode cX7_read 18 = .ok (.iload_n 1, 1) := by decide +kernel
theorem dX7_read_19 : decode cX7_read 19 = .ok (.invokevirtual 64, 3) := by decide +kernel
theorem dX7_read_22 : decode cX7_read 22 = .ok (.ifCond .ne 6, 3) := by decide +kernel
theorem dX7_read_25 : decode cX7_read 25 = .ok (.bipush (-4), 2) := by decide +kernel
theorem dX7_read_27 : decode cX7_read 27 = .ok (.ireturn, 1) := by decide +kernel
theorem dX7_read_28 : decode cX7_read 28 = .ok (.aload_n 0, 1) := by decide +kernel
theorem dX7_read_29 : decode cX7_read 29 = .ok (.invokevirtual 51, 3) := by decide +kernel
theorem dX7_read_32 : decode cX7_read 32 = .ok (.aload_n 0, 1) := by decide +kernel
theorem dX7_read_33 : decode cX7_read 33 = .ok (.iload_n 1, 1) := by decide +kernel
theorem dX7_read_34 : decode cX7_read 34 = .ok (.iconst 4, 1) := by decide +kernel
theorem dX7_read_35 : decode cX7_read 35 = .ok (.invokevirtual 32, 3) := by decide +kernel
theorem dX7_read_38 : decode cX7_read 38 = .ok (.iload_n 2, 1) := by decide +kernel
theorem dX7_read_39 : decode cX7_read 39 = .ok (.invokestatic 111, 3) := by decide +kernel
theorem dX7_read_42 : decode cX7_read 42 = .ok (.ifCond .eq 13, 3) := by decide +kernel
theorem dX7_read_45 : decode cX7_read 45 = .ok (.aload_n 0, 1) := by decide +kernel
theorem dX7_read_46 : decode cX7_read 46 = .ok (.iload_n 1, 1) := by decide +kernel
theorem dX7_read_47 : decode cX7_read 47 = .ok (.bipush 8, 2) := by decide +kernel
theorem dX7_read_49 : decode cX7_read 49 = .ok (.iload_n 2, 1) := by decide +kernel
theorem dX7_read_50 : decode cX7_read 50 = .ok (.iadd, 1) := by decide +kernel
theorem dX7_read_51 : decode cX7_read 51 = .ok (.invokevirtual 32, 3) := by decide +kernel
theorem dX7_read_54 : decode cX7_read 54 = .ok (.ireturn, 1) := by decide +kernel
theorem dX7_read_55 : decode cX7_read 55 = .ok (.aload_n 0, 1) := by decide +kernel
theorem dX7_read_56 : decode cX7_read 56 = .ok (.iload_n 1, 1) := by decide +kernel
theorem dX7_read_57 : decode cX7_read 57 = .ok (.iconst 3, 1) := by decide +kernel
theorem dX7_read_58 : decode cX7_read 58 = .ok (.aload_n 0, 1) := by decide +kernel
theorem dX7_read_59 : decode cX7_read 59 = .ok (.iload_n 1, 1) := by decide +kernel
theorem dX7_read_60 : decode cX7_read 60 = .ok (.iconst 3, 1) := by decide +kernel
theorem dX7_read_61 : decode cX7_read 61 = .ok (.invokevirtual 32, 3) := by decide +kernel
theorem dX7_read_64 : decode cX7_read 64 = .ok (.iconst 1, 1) := by decide +kernel
theorem dX7_read_65 : decode cX7_read 65 = .ok (.iload_n 2, 1) := by decide +kernel
theorem dX7_read_66 : decode cX7_read 66 = .ok (.ishl, 1) := by decide +kernel
theorem dX7_read_67 : decode cX7_read 67 = .ok (.ior, 1) := by decide +kernel
theorem dX7_read_68 : decode cX7_read 68 = .ok (.invokevirtual 88, 3) := by decide +kernel
theorem dX7_read_71 : decode cX7_read 71 = .ok (.aload_n 0, 1) := by decide +kernel
theorem dX7_read_72 : decode cX7_read 72 = .ok (.aload_n 0, 1) := by decide +kernel
theorem dX7_read_73 : decode cX7_read 73 = .ok (.iload_n 2, 1) := by decide +kernel
theorem dX7_read_74 : decode cX7_read 74 = .ok (.aload_n 0, 1) := by decide +kernel
theorem dX7_read_75 : decode cX7_read 75 = .ok (.iload_n 1, 1) := by decide +kernel
theorem dX7_read_76 : decode cX7_read 76 = .ok (.iconst 0, 1) := by decide +kernel
theorem dX7_read_77 : decode cX7_read 77 = .ok (.invokevirtual 32, 3) := by decide +kernel
theorem dX7_read_80 : decode cX7_read 80 = .ok (.invokevirtual 57, 3) := by decide +kernel
theorem dX7_read_83 : decode cX7_read 83 = .ok (.iconst 2, 1) := by decide +kernel
theorem dX7_read_84 : decode cX7_read 84 = .ok (.invokevirtual 54, 3) := by decide +kernel
theorem dX7_read_87 : decode cX7_read 87 = .ok (.ireturn, 1) := by decide +kernel
theorem dX7_writes_0 : decode cX7_writes 0 = .ok (.aload_n 0, 1) := by decide +kernel
theorem dX7_writes_1 : decode cX7_writes 1 = .ok (.iload_n 1, 1) := by decide +kernel
theorem dX7_writes_2 : decode cX7_writes 2 = .ok (.iconst 4, 1) := by decide +kernel
theorem dX7_writes_3 : decode cX7_writes 3 = .ok (.aload_n 0, 1) := by decide +kernel
theorem dX7_writes_4 : decode cX7_writes 4 = .ok (.iload_n 1, 1) := by decide +kernel
theorem dX7_writes_5 : decode cX7_writes 5 = .ok (.iconst 4, 1) := by decide +kernel
theorem dX7_writes_6 : decode cX7_writes 6 = .ok (.invokevirtual 32, 3) := by decide +kernel
theorem dX7_writes_9 : decode cX7_writes 9 = .ok (.iconst 1, 1) := by decide +kernel
theorem dX7_writes_10 : decode cX7_writes 10 = .ok (.iload_n 2, 1) := by decide +kernel
theorem dX7_writes_11 : decode cX7_writes 11 = .ok (.ishl, 1) := by decide +kernel
theorem dX7_writes_12 : decode cX7_writes 12 = .ok (.ior, 1) := by decide +kernel
theorem dX7_writes_13 : decode cX7_writes 13 = .ok (.invokevirtual 88, 3) := by decide +kernel
theorem dX7_writes_16 : decode cX7_writes 16 = .ok (.aload_n 0, 1) := by decide +kernel
theorem dX7_writes_17 : decode cX7_writes 17 = .ok (.iload_n 1, 1) := by decide +kernel
theorem dX7_writes_18 : decode cX7_writes 18 = .ok (.bipush 8, 2) := by decide +kernel
theorem dX7_writes_20 : decode cX7_writes 20 = .ok (.iload_n 2, 1) := by decide +kernel
theorem dX7_writes_21 : decode cX7_writes 21 = .ok (.iadd, 1) := by decide +kernel
theorem dX7_writes_22 : decode cX7_writes 22 = .ok (.iload_n 3, 1) := by decide +kernel
theorem dX7_writes_23 : decode cX7_writes 23 = .ok (.invokevirtual 88, 3) := by decide +kernel
theorem dX7_writes_26 : decode cX7_writes 26 = .ok (.return_, 1) := by decide +kernel
theorem dX7_write_0 : decode cX7_write 0 = .ok (.aload_n 0, 1) := by decide +kernel
theorem dX7_write_1 : decode cX7_write 1 = .ok (.iload_n 1, 1) := by decide +kernel
theorem dX7_write_2 : decode cX7_write 2 = .ok (.invokevirtual 92, 3) := by decide +kernel
theorem dX7_write_5 : decode cX7_write 5 = .ok (.ifCond .eq 10, 3) := by decide +kernel
theorem dX7_write_8 : decode cX7_write 8 = .ok (.iload_n 2, 1) := by decide +kernel
theorem dX7_write_9 : decode cX7_write 9 = .ok (.invokestatic 108, 3) := by decide +kernel
theorem dX7_write_12 : decode cX7_write 12 = .ok (.ifCond .ne 5, 3) := by decide +kernel
theorem dX7_write_15 : decode cX7_write 15 = .ok (.iconst (-1), 1) := by decide +kernel
theorem dX7_write_16 : decode cX7_write 16 = .ok (.ireturn, 1) := by decide +kernel
theorem dX7_write_17 : decode cX7_write 17 = .ok (.iload_n 3, 1) := by decide +kernel
theorem dX7_write_18 : decode cX7_write 18 = .ok (.iconst 0, 1) := by decide +kernel
theorem dX7_write_19 : decode cX7_write 19 = .ok (.sipush 9999, 3) := by decide +kernel
theorem dX7_write_22 : decode cX7_write 22 = .ok (.invokestatic 28, 3) := by decide +kernel
theorem dX7_write_25 : decode cX7_write 25 = .ok (.ifCond .ne 6, 3) := by decide +kernel
theorem dX7_write_28 : decode cX7_write 28 = .ok (.bipush (-2), 2) := by decide +kernel
theorem dX7_write_30 : decode cX7_write 30 = .ok (.ireturn, 1) := by decide +kernel
theorem dX7_write_31 : decode cX7_write 31 = .ok (.aload_n 0, 1) := by decide +kernel
theorem dX7_write_32 : decode cX7_write 32 = .ok (.iload_n 1, 1) := by decide +kernel
theorem dX7_write_33 : decode cX7_write 33 = .ok (.invokevirtual 64, 3) := by decide +kernel
theorem dX7_write_36 : decode cX7_write 36 = .ok (.ifCond .ne 6, 3) := by decide +kernel
theorem dX7_write_39 : decode cX7_write 39 = .ok (.bipush (-4), 2) := by decide +kernel
theorem dX7_write_41 : decode cX7_write 41 = .ok (.ireturn, 1) := by decide +kernel
theorem dX7_write_42 : decode cX7_write 42 = .ok (.aload_n 0, 1) := by decide +kernel
theorem dX7_write_43 : decode cX7_write 43 = .ok (.invokevirtual 51, 3) := by decide +kernel
theorem dX7_write_46 : decode cX7_write 46 = .ok (.aload_n 0, 1) := by decide +kernel
theorem dX7_write_47 : decode cX7_write 47 = .ok (.iload_n 1, 1) := by decide +kernel
theorem dX7_write_48 : decode cX7_write 48 = .ok (.iload_n 2, 1) := by decide +kernel
theorem dX7_write_49 : decode cX7_write 49 = .ok (.iload_n 3, 1) := by decide +kernel
theorem dX7_write_50 : decode cX7_write 50 = .ok (.invokevirtual 114, 3) := by decide +kernel
theorem dX7_write_53 : decode cX7_write 53 = .ok (.aload_n 0, 1) := by decide +kernel
theorem dX7_write_54 : decode cX7_write 54 = .ok (.iload_n 1, 1) := by decide +kernel
theorem dX7_write_55 : decode cX7_write 55 = .ok (.iconst 4, 1) := by decide +kernel
theorem dX7_write_56 : decode cX7_write 56 = .ok (.invokevirtual 32, 3) := by decide +kernel
theorem dX7_write_59 : decode cX7_write 59 = .ok (.invokestatic 117, 3) := by decide +kernel
theorem dX7_write_62 : decode cX7_write 62 = .ok (.ireturn, 1) := by decide +kernel
theorem dX7_hasConflict_0 : decode cX7_hasConflict 0 = .ok (.iconst 0, 1) := by decide +kernel
theorem dX7_hasConflict_1 : decode cX7_hasConflict 1 = .ok (.istore_n 2, 1) := by decide +kernel
theorem dX7_hasConflict_2 : decode cX7_hasConflict 2 = .ok (.iconst 0, 1) := by decide +kernel
theorem dX7_hasConflict_3 : decode cX7_hasConflict 3 = .ok (.istore_n 3, 1) := by decide +kernel
theorem dX7_hasConflict_4 : decode cX7_hasConflict 4 = .ok (.iload_n 3, 1) := by decide +kernel
theorem dX7_hasConflict_5 : decode cX7_hasConflict 5 = .ok (.bipush 12, 2) := by decide +kernel
theorem dX7_hasConflict_7 : decode cX7_hasConflict 7 = .ok (.if_icmp .ge 51, 3) := by decide +kernel
theorem dX7_hasConflict_10 : decode cX7_hasConflict 10 = .ok (.iload_n 2, 1) := by decide +kernel
theorem dX7_hasConflict_11 : decode cX7_hasConflict 11 = .ok (.ifCond .ne 35, 3) := by decide +kernel
theorem dX7_hasConflict_14 : decode cX7_hasConflict 14 = .ok (.aload_n 0, 1) := by decide +kernel
theorem dX7_hasConflict_15 : decode cX7_hasConflict 15 = .ok (.iload_n 1, 1) := by decide +kernel
theorem dX7_hasConflict_16 : decode cX7_hasConflict 16 = .ok (.iconst 4, 1) := by decide +kernel
theorem dX7_hasConflict_17 : decode cX7_hasConflict 17 = .ok (.invokevirtual 32, 3) := by decide +kernel
theorem dX7_hasConflict_20 : decode cX7_hasConflict 20 = .ok (.iload_n 3, 1) := by decide +kernel
theorem dX7_hasConflict_21 : decode cX7_hasConflict 21 = .ok (.invokestatic 111, 3) := by decide +kernel
theorem dX7_hasConflict_24 : decode cX7_hasConflict 24 = .ok (.ifCond .eq 26, 3) := by decide +kernel
theorem dX7_hasConflict_27 : decode cX7_hasConflict 27 = .ok (.aload_n 0, 1) := by decide +kernel
theorem dX7_hasConflict_28 : decode cX7_hasConflict 28 = .ok (.aload_n 0, 1) := by decide +kernel
theorem dX7_hasConflict_29 : decode cX7_hasConflict 29 = .ok (.iload_n 3, 1) := by decide +kernel
theorem dX7_hasConflict_30 : decode cX7_hasConflict 30 = .ok (.invokevirtual 60, 3) := by decide +kernel
theorem dX7_hasConflict_33 : decode cX7_hasConflict 33 = .ok (.iconst 1, 1) := by decide +kernel
theorem dX7_hasConflict_34 : decode cX7_hasConflict 34 = .ok (.invokevirtual 54, 3) := by decide +kernel
theorem dX7_hasConflict_37 : decode cX7_hasConflict 37 = .ok (.aload_n 0, 1) := by decide +kernel
theorem dX7_hasConflict_38 : decode cX7_hasConflict 38 = .ok (.iload_n 1, 1) := by decide +kernel
theorem dX7_hasConflict_39 : decode cX7_hasConflict 39 = .ok (.iconst 0, 1) := by decide +kernel
theorem dX7_hasConflict_40 : decode cX7_hasConflict 40 = .ok (.invokevirtual 32, 3) := by decide +kernel
theorem dX7_hasConflict_43 : decode cX7_hasConflict 43 = .ok (.if_icmp .le 7, 3) := by decide +kernel
theorem dX7_hasConflict_46 : decode cX7_hasConflict 46 = .ok (.iconst 1, 1) := by decide +kernel
theorem dX7_hasConflict_47 : decode cX7_hasConflict 47 = .ok (.goto 4, 3) := by decide +kernel
theorem dX7_hasConflict_50 : decode cX7_hasConflict 50 = .ok (.iconst 0, 1) := by decide +kernel
theorem dX7_hasConflict_51 : decode cX7_hasConflict 51 = .ok (.istore_n 2, 1) := by decide +kernel
theorem dX7_hasConflict_52 : decode cX7_hasConflict 52 = .ok (.iinc 3 1, 3) := by decide +kernel
theorem dX7_hasConflict_55 : decode cX7_hasConflict 55 = .ok (.goto (-51), 3) := by decide +kernel
theorem dX7_hasConflict_58 : decode cX7_hasConflict 58 = .ok (.iload_n 2, 1) := by decide +kernel
theorem dX7_hasConflict_59 : decode cX7_hasConflict 59 = .ok (.ireturn, 1) := by decide +kernel
theorem dX7_areSkew_0 : decode cX7_areSkew 0 = .ok (.iload_n 1, 1) := by decide +kernel
theorem dX7_areSkew_1 : decode cX7_areSkew 1 = .ok (.iload_n 2, 1) := by decide +kernel
theorem dX7_areSkew_2 : decode cX7_areSkew 2 = .ok (.iand, 1) := by decide +kernel
theorem dX7_areSkew_3 : decode cX7_areSkew 3 = .ok (.ifCond .eq 19, 3) := by decide +kernel
theorem dX7_areSkew_6 : decode cX7_areSkew 6 = .ok (.iload_n 3, 1) := by decide +kernel
theorem dX7_areSkew_7 : decode cX7_areSkew 7 = .ok (.iload_n 0, 1) := by decide +kernel
theorem dX7_areSkew_8 : decode cX7_areSkew 8 = .ok (.iand, 1) := by decide +kernel
theorem dX7_areSkew_9 : decode cX7_areSkew 9 = .ok (.ifCond .eq 13, 3) := by decide +kernel
theorem dX7_areSkew_12 : decode cX7_areSkew 12 = .ok (.iload_n 0, 1) := by decide +kernel
theorem dX7_areSkew_13 : decode cX7_areSkew 13 = .ok (.iload_n 2, 1) := by decide +kernel
theorem dX7_areSkew_14 : decode cX7_areSkew 14 = .ok (.iand, 1) := by decide +kernel
theorem dX7_areSkew_15 : decode cX7_areSkew 15 = .ok (.ifCond .ne 7, 3) := by decide +kernel
theorem dX7_areSkew_18 : decode cX7_areSkew 18 = .ok (.iconst 1, 1) := by decide +kernel
theorem dX7_areSkew_19 : decode cX7_areSkew 19 = .ok (.goto 4, 3) := by decide +kernel
theorem dX7_areSkew_22 : decode cX7_areSkew 22 = .ok (.iconst 0, 1) := by decide +kernel
theorem dX7_areSkew_23 : decode cX7_areSkew 23 = .ok (.ireturn, 1) := by decide +kernel
theorem dX7_skewsOf_0 : decode cX7_skewsOf 0 = .ok (.iconst 0, 1) := by decide +kernel
theorem dX7_skewsOf_1 : decode cX7_skewsOf 1 = .ok (.istore_n 2, 1) := by decide +kernel
theorem dX7_skewsOf_2 : decode cX7_skewsOf 2 = .ok (.iconst 0, 1) := by decide +kernel
theorem dX7_skewsOf_3 : decode cX7_skewsOf 3 = .ok (.istore_n 3, 1) := by decide +kernel
theorem dX7_skewsOf_4 : decode cX7_skewsOf 4 = .ok (.iload_n 3, 1) := by decide +kernel
theorem dX7_skewsOf_5 : decode cX7_skewsOf 5 = .ok (.aload_n 0, 1) := by decide +kernel
theorem dX7_skewsOf_6 : decode cX7_skewsOf 6 = .ok (.getfield 7, 3) := by decide +kernel
theorem dX7_skewsOf_9 : decode cX7_skewsOf 9 = .ok (.bipush 6, 2) := by decide +kernel
theorem dX7_skewsOf_11 : decode cX7_skewsOf 11 = .ok (.iaload, 1) := by decide +kernel
theorem dX7_skewsOf_12 : decode cX7_skewsOf 12 = .ok (.if_icmp .ge 91, 3) := by decide +kernel
theorem dX7_skewsOf_15 : decode cX7_skewsOf 15 = .ok (.aload_n 0, 1) := by decide +kernel
theorem dX7_skewsOf_16 : decode cX7_skewsOf 16 = .ok (.iload_n 1, 1) := by decide +kernel
theorem dX7_skewsOf_17 : decode cX7_skewsOf 17 = .ok (.iconst 0, 1) := by decide +kernel
theorem dX7_skewsOf_18 : decode cX7_skewsOf 18 = .ok (.invokevirtual 32, 3) := by decide +kernel
theorem dX7_skewsOf_21 : decode cX7_skewsOf 21 = .ok (.aload_n 0, 1) := by decide +kernel
theorem dX7_skewsOf_22 : decode cX7_skewsOf 22 = .ok (.iload_n 3, 1) := by decide +kernel
theorem dX7_skewsOf_23 : decode cX7_skewsOf 23 = .ok (.iconst 2, 1) := by decide +kernel
theorem dX7_skewsOf_24 : decode cX7_skewsOf 24 = .ok (.invokevirtual 120, 3) := by decide +kernel
theorem dX7_skewsOf_27 : decode cX7_skewsOf 27 = .ok (.if_icmp .ge 24, 3) := by decide +kernel
theorem dX7_skewsOf_30 : decode cX7_skewsOf 30 = .ok (.aload_n 0, 1) := by decide +kernel
theorem dX7_skewsOf_31 : decode cX7_skewsOf 31 = .ok (.iload_n 3, 1) := by decide +kernel
theorem dX7_skewsOf_32 : decode cX7_skewsOf 32 = .ok (.iconst 1, 1) := by decide +kernel
theorem dX7_skewsOf_33 : decode cX7_skewsOf 33 = .ok (.invokevirtual 120, 3) := by decide +kernel
theorem dX7_skewsOf_36 : decode cX7_skewsOf 36 = .ok (.aload_n 0, 1) := by decide +kernel
theorem dX7_skewsOf_37 : decode cX7_skewsOf 37 = .ok (.getfield 7, 3) := by decide +kernel
theorem dX7_skewsOf_40 : decode cX7_skewsOf 40 = .ok (.iconst 0, 1) := by decide +kernel
theorem dX7_skewsOf_41 : decode cX7_skewsOf 41 = .ok (.iaload, 1) := by decide +kernel
theorem dX7_skewsOf_42 : decode cX7_skewsOf 42 = .ok (.iconst 1, 1) := by decide +kernel
theorem dX7_skewsOf_43 : decode cX7_skewsOf 43 = .ok (.iadd, 1) := by decide +kernel
theorem dX7_skewsOf_44 : decode cX7_skewsOf 44 = .ok (.if_icmp .ge 7, 3) := by decide +kernel
theorem dX7_skewsOf_47 : decode cX7_skewsOf 47 = .ok (.iconst 1, 1) := by decide +kernel
theorem dX7_skewsOf_48 : decode cX7_skewsOf 48 = .ok (.goto 4, 3) := by decide +kernel
theorem dX7_skewsOf_51 : decode cX7_skewsOf 51 = .ok (.iconst 0, 1) := by decide +kernel
theorem dX7_skewsOf_52 : decode cX7_skewsOf 52 = .ok (.istore 4, 2) := by decide +kernel
theorem dX7_skewsOf_54 : decode cX7_skewsOf 54 = .ok (.iload_n 2, 1) := by decide +kernel
theorem dX7_skewsOf_55 : decode cX7_skewsOf 55 = .ok (.iload 4, 2) := by decide +kernel
theorem dX7_skewsOf_57 : decode cX7_skewsOf 57 = .ok (.ifCond .eq 37, 3) := by decide +kernel
theorem dX7_skewsOf_60 : decode cX7_skewsOf 60 = .ok (.aload_n 0, 1) := by decide +kernel
theorem dX7_skewsOf_61 : decode cX7_skewsOf 61 = .ok (.iload_n 1, 1) := by decide +kernel
theorem dX7_skewsOf_62 : decode cX7_skewsOf 62 = .ok (.iconst 4, 1) := by decide +kernel
theorem dX7_skewsOf_63 : decode cX7_skewsOf 63 = .ok (.invokevirtual 32, 3) := by decide +kernel
theorem dX7_skewsOf_66 : decode cX7_skewsOf 66 = .ok (.aload_n 0, 1) := by decide +kernel
theorem dX7_skewsOf_67 : decode cX7_skewsOf 67 = .ok (.iload_n 1, 1) := by decide +kernel
theorem dX7_skewsOf_68 : decode cX7_skewsOf 68 = .ok (.iconst 3, 1) := by decide +kernel
theorem dX7_skewsOf_69 : decode cX7_skewsOf 69 = .ok (.invokevirtual 32, 3) := by decide +kernel
theorem dX7_skewsOf_72 : decode cX7_skewsOf 72 = .ok (.aload_n 0, 1) := by decide +kernel
theorem dX7_skewsOf_73 : decode cX7_skewsOf 73 = .ok (.iload_n 3, 1) := by decide +kernel
theorem dX7_skewsOf_74 : decode cX7_skewsOf 74 = .ok (.iconst 3, 1) := by decide +kernel
theorem dX7_skewsOf_75 : decode cX7_skewsOf 75 = .ok (.invokevirtual 120, 3) := by decide +kernel
theorem dX7_skewsOf_78 : decode cX7_skewsOf 78 = .ok (.aload_n 0, 1) := by decide +kernel
theorem dX7_skewsOf_79 : decode cX7_skewsOf 79 = .ok (.iload_n 3, 1) := by decide +kernel
theorem dX7_skewsOf_80 : decode cX7_skewsOf 80 = .ok (.iconst 4, 1) := by decide +kernel
theorem dX7_skewsOf_81 : decode cX7_skewsOf 81 = .ok (.invokevirtual 120, 3) := by decide +kernel
theorem dX7_skewsOf_84 : decode cX7_skewsOf 84 = .ok (.invokestatic 123, 3) := by decide +kernel
theorem dX7_skewsOf_87 : decode cX7_skewsOf 87 = .ok (.ifCond .eq 7, 3) := by decide +kernel
theorem dX7_skewsOf_90 : decode cX7_skewsOf 90 = .ok (.iconst 1, 1) := by decide +kernel
theorem dX7_skewsOf_91 : decode cX7_skewsOf 91 = .ok (.goto 4, 3) := by decide +kernel
theorem dX7_skewsOf_94 : decode cX7_skewsOf 94 = .ok (.iconst 0, 1) := by decide +kernel
theorem dX7_skewsOf_95 : decode cX7_skewsOf 95 = .ok (.iadd, 1) := by decide +kernel
theorem dX7_skewsOf_96 : decode cX7_skewsOf 96 = .ok (.istore_n 2, 1) := by decide +kernel
theorem dX7_skewsOf_97 : decode cX7_skewsOf 97 = .ok (.iinc 3 1, 3) := by decide +kernel
theorem dX7_skewsOf_100 : decode cX7_skewsOf 100 = .ok (.goto (-96), 3) := by decide +kernel
theorem dX7_skewsOf_103 : decode cX7_skewsOf 103 = .ok (.iload_n 2, 1) := by decide +kernel
theorem dX7_skewsOf_104 : decode cX7_skewsOf 104 = .ok (.ireturn, 1) := by decide +kernel
theorem dX7_skews_0 : decode cX7_skews 0 = .ok (.iconst 0, 1) := by decide +kernel
theorem dX7_skews_1 : decode cX7_skews 1 = .ok (.istore_n 2, 1) := by decide +kernel
theorem dX7_skews_2 : decode cX7_skews 2 = .ok (.iconst 0, 1) := by decide +kernel
theorem dX7_skews_3 : decode cX7_skews 3 = .ok (.istore_n 3, 1) := by decide +kernel
theorem dX7_skews_4 : decode cX7_skews 4 = .ok (.iload_n 3, 1) := by decide +kernel
theorem dX7_skews_5 : decode cX7_skews 5 = .ok (.iload_n 1, 1) := by decide +kernel
theorem dX7_skews_6 : decode cX7_skews 6 = .ok (.if_icmp .ge 89, 3) := by decide +kernel
theorem dX7_skews_9 : decode cX7_skews 9 = .ok (.aload_n 0, 1) := by decide +kernel
theorem dX7_skews_10 : decode cX7_skews 10 = .ok (.iload_n 1, 1) := by decide +kernel
theorem dX7_skews_11 : decode cX7_skews 11 = .ok (.iconst 1, 1) := by decide +kernel
theorem dX7_skews_12 : decode cX7_skews 12 = .ok (.invokevirtual 120, 3) := by decide +kernel
theorem dX7_skews_15 : decode cX7_skews 15 = .ok (.aload_n 0, 1) := by decide +kernel
theorem dX7_skews_16 : decode cX7_skews 16 = .ok (.iload_n 3, 1) := by decide +kernel
theorem dX7_skews_17 : decode cX7_skews 17 = .ok (.iconst 2, 1) := by decide +kernel
theorem dX7_skews_18 : decode cX7_skews 18 = .ok (.invokevirtual 120, 3) := by decide +kernel
theorem dX7_skews_21 : decode cX7_skews 21 = .ok (.if_icmp .ge 22, 3) := by decide +kernel
theorem dX7_skews_24 : decode cX7_skews 24 = .ok (.aload_n 0, 1) := by decide +kernel
theorem dX7_skews_25 : decode cX7_skews 25 = .ok (.iload_n 3, 1) := by decide +kernel
theorem dX7_skews_26 : decode cX7_skews 26 = .ok (.iconst 1, 1) := by decide +kernel
theorem dX7_skews_27 : decode cX7_skews 27 = .ok (.invokevirtual 120, 3) := by decide +kernel
theorem dX7_skews_30 : decode cX7_skews 30 = .ok (.aload_n 0, 1) := by decide +kernel
theorem dX7_skews_31 : decode cX7_skews 31 = .ok (.iload_n 1, 1) := by decide +kernel
theorem dX7_skews_32 : decode cX7_skews 32 = .ok (.iconst 2, 1) := by decide +kernel
theorem dX7_skews_33 : decode cX7_skews 33 = .ok (.invokevirtual 120, 3) := by decide +kernel
theorem dX7_skews_36 : decode cX7_skews 36 = .ok (.if_icmp .ge 7, 3) := by decide +kernel
theorem dX7_skews_39 : decode cX7_skews 39 = .ok (.iconst 1, 1) := by decide +kernel
theorem dX7_skews_40 : decode cX7_skews 40 = .ok (.goto 4, 3) := by decide +kernel
theorem dX7_skews_43 : decode cX7_skews 43 = .ok (.iconst 0, 1) := by decide +kernel
theorem dX7_skews_44 : decode cX7_skews 44 = .ok (.istore 4, 2) := by decide +kernel
theorem dX7_skews_46 : decode cX7_skews 46 = .ok (.iload_n 2, 1) := by decide +kernel
theorem dX7_skews_47 : decode cX7_skews 47 = .ok (.iload 4, 2) := by decide +kernel
theorem dX7_skews_49 : decode cX7_skews 49 = .ok (.ifCond .eq 37, 3) := by decide +kernel
theorem dX7_skews_52 : decode cX7_skews 52 = .ok (.aload_n 0, 1) := by decide +kernel
theorem dX7_skews_53 : decode cX7_skews 53 = .ok (.iload_n 1, 1) := by decide +kernel
theorem dX7_skews_54 : decode cX7_skews 54 = .ok (.iconst 3, 1) := by decide +kernel
theorem dX7_skews_55 : decode cX7_skews 55 = .ok (.invokevirtual 120, 3) := by decide +kernel
theorem dX7_skews_58 : decode cX7_skews 58 = .ok (.aload_n 0, 1) := by decide +kernel
theorem dX7_skews_59 : decode cX7_skews 59 = .ok (.iload_n 1, 1) := by decide +kernel
theorem dX7_skews_60 : decode cX7_skews 60 = .ok (.iconst 4, 1) := by decide +kernel
theorem dX7_skews_61 : decode cX7_skews 61 = .ok (.invokevirtual 120, 3) := by decide +kernel
theorem dX7_skews_64 : decode cX7_skews 64 = .ok (.aload_n 0, 1) := by decide +kernel
theorem dX7_skews_65 : decode cX7_skews 65 = .ok (.iload_n 3, 1) := by decide +kernel
theorem dX7_skews_66 : decode cX7_skews 66 = .ok (.iconst 3, 1) := by decide +kernel
theorem dX7_skews_67 : decode cX7_skews 67 = .ok (.invokevirtual 120, 3) := by decide +kernel
theorem dX7_skews_70 : decode cX7_skews 70 = .ok (.aload_n 0, 1) := by decide +kernel
theorem dX7_skews_71 : decode cX7_skews 71 = .ok (.iload_n 3, 1) := by decide +kernel
theorem dX7_skews_72 : decode cX7_skews 72 = .ok (.iconst 4, 1) := by decide +kernel
theorem dX7_skews_73 : decode cX7_skews 73 = .ok (.invokevirtual 120, 3) := by decide +kernel
theorem dX7_skews_76 : decode cX7_skews 76 = .ok (.invokestatic 123, 3) := by decide +kernel
theorem dX7_skews_79 : decode cX7_skews 79 = .ok (.ifCond .eq 7, 3) := by decide +kernel
theorem dX7_skews_82 : decode cX7_skews 82 = .ok (.iconst 1, 1) := by decide +kernel
theorem dX7_skews_83 : decode cX7_skews 83 = .ok (.goto 4, 3) := by decide +kernel
theorem dX7_skews_86 : decode cX7_skews 86 = .ok (.iconst 0, 1) := by decide +kernel
theorem dX7_skews_87 : decode cX7_skews 87 = .ok (.iadd, 1) := by decide +kernel
theorem dX7_skews_88 : decode cX7_skews 88 = .ok (.istore_n 2, 1) := by decide +kernel
theorem dX7_skews_89 : decode cX7_skews 89 = .ok (.iinc 3 1, 3) := by decide +kernel
theorem dX7_skews_92 : decode cX7_skews 92 = .ok (.goto (-88), 3) := by decide +kernel
theorem dX7_skews_95 : decode cX7_skews 95 = .ok (.iload_n 2, 1) := by decide +kernel
theorem dX7_skews_96 : decode cX7_skews 96 = .ok (.ireturn, 1) := by decide +kernel
theorem dX7_pairs_0 : decode cX7_pairs 0 = .ok (.iconst 0, 1) := by decide +kernel
theorem dX7_pairs_1 : decode cX7_pairs 1 = .ok (.istore_n 1, 1) := by decide +kernel
theorem dX7_pairs_2 : decode cX7_pairs 2 = .ok (.iconst 0, 1) := by decide +kernel
theorem dX7_pairs_3 : decode cX7_pairs 3 = .ok (.istore_n 2, 1) := by decide +kernel
theorem dX7_pairs_4 : decode cX7_pairs 4 = .ok (.iload_n 2, 1) := by decide +kernel
theorem dX7_pairs_5 : decode cX7_pairs 5 = .ok (.aload_n 0, 1) := by decide +kernel
theorem dX7_pairs_6 : decode cX7_pairs 6 = .ok (.getfield 7, 3) := by decide +kernel
theorem dX7_pairs_9 : decode cX7_pairs 9 = .ok (.bipush 6, 2) := by decide +kernel
theorem dX7_pairs_11 : decode cX7_pairs 11 = .ok (.iaload, 1) := by decide +kernel
theorem dX7_pairs_12 : decode cX7_pairs 12 = .ok (.if_icmp .ge 17, 3) := by decide +kernel
theorem dX7_pairs_15 : decode cX7_pairs 15 = .ok (.iload_n 1, 1) := by decide +kernel
theorem dX7_pairs_16 : decode cX7_pairs 16 = .ok (.aload_n 0, 1) := by decide +kernel
theorem dX7_pairs_17 : decode cX7_pairs 17 = .ok (.iload_n 2, 1) := by decide +kernel
theorem dX7_pairs_18 : decode cX7_pairs 18 = .ok (.invokevirtual 127, 3) := by decide +kernel
theorem dX7_pairs_21 : decode cX7_pairs 21 = .ok (.iadd, 1) := by decide +kernel
theorem dX7_pairs_22 : decode cX7_pairs 22 = .ok (.istore_n 1, 1) := by decide +kernel
theorem dX7_pairs_23 : decode cX7_pairs 23 = .ok (.iinc 2 1, 3) := by decide +kernel
theorem dX7_pairs_26 : decode cX7_pairs 26 = .ok (.goto (-22), 3) := by decide +kernel
theorem dX7_pairs_29 : decode cX7_pairs 29 = .ok (.iload_n 1, 1) := by decide +kernel
theorem dX7_pairs_30 : decode cX7_pairs 30 = .ok (.ireturn, 1) := by decide +kernel
theorem dX7_commits_0 : decode cX7_commits 0 = .ok (.aload_n 0, 1) := by decide +kernel
theorem dX7_commits_1 : decode cX7_commits 1 = .ok (.getfield 7, 3) := by decide +kernel
theorem dX7_commits_4 : decode cX7_commits 4 = .ok (.iconst 0, 1) := by decide +kernel
theorem dX7_commits_5 : decode cX7_commits 5 = .ok (.dup2, 1) := by decide +kernel
theorem dX7_commits_6 : decode cX7_commits 6 = .ok (.iaload, 1) := by decide +kernel
theorem dX7_commits_7 : decode cX7_commits 7 = .ok (.iconst 1, 1) := by decide +kernel
theorem dX7_commits_8 : decode cX7_commits 8 = .ok (.iadd, 1) := by decide +kernel
theorem dX7_commits_9 : decode cX7_commits 9 = .ok (.iastore, 1) := by decide +kernel
theorem dX7_commits_10 : decode cX7_commits 10 = .ok (.sipush 1001, 3) := by decide +kernel
theorem dX7_commits_13 : decode cX7_commits 13 = .ok (.iconst 5, 1) := by decide +kernel
theorem dX7_commits_14 : decode cX7_commits 14 = .ok (.aload_n 0, 1) := by decide +kernel
theorem dX7_commits_15 : decode cX7_commits 15 = .ok (.getfield 7, 3) := by decide +kernel
theorem dX7_commits_18 : decode cX7_commits 18 = .ok (.bipush 6, 2) := by decide +kernel
theorem dX7_commits_20 : decode cX7_commits 20 = .ok (.iaload, 1) := by decide +kernel
theorem dX7_commits_21 : decode cX7_commits 21 = .ok (.imul, 1) := by decide +kernel
theorem dX7_commits_22 : decode cX7_commits 22 = .ok (.iadd, 1) := by decide +kernel
theorem dX7_commits_23 : decode cX7_commits 23 = .ok (.istore_n 2, 1) := by decide +kernel
theorem dX7_commits_24 : decode cX7_commits 24 = .ok (.aload_n 0, 1) := by decide +kernel
theorem dX7_commits_25 : decode cX7_commits 25 = .ok (.getfield 7, 3) := by decide +kernel
theorem dX7_commits_28 : decode cX7_commits 28 = .ok (.iload_n 2, 1) := by decide +kernel
theorem dX7_commits_29 : decode cX7_commits 29 = .ok (.iload_n 1, 1) := by decide +kernel
theorem dX7_commits_30 : decode cX7_commits 30 = .ok (.iastore, 1) := by decide +kernel
theorem dX7_commits_31 : decode cX7_commits 31 = .ok (.aload_n 0, 1) := by decide +kernel
theorem dX7_commits_32 : decode cX7_commits 32 = .ok (.getfield 7, 3) := by decide +kernel
theorem dX7_commits_35 : decode cX7_commits 35 = .ok (.iload_n 2, 1) := by decide +kernel
theorem dX7_commits_36 : decode cX7_commits 36 = .ok (.iconst 1, 1) := by decide +kernel
theorem dX7_commits_37 : decode cX7_commits 37 = .ok (.iadd, 1) := by decide +kernel
theorem dX7_commits_38 : decode cX7_commits 38 = .ok (.aload_n 0, 1) := by decide +kernel
theorem dX7_commits_39 : decode cX7_commits 39 = .ok (.iload_n 1, 1) := by decide +kernel
theorem dX7_commits_40 : decode cX7_commits 40 = .ok (.iconst 0, 1) := by decide +kernel
theorem dX7_commits_41 : decode cX7_commits 41 = .ok (.invokevirtual 32, 3) := by decide +kernel
theorem dX7_commits_44 : decode cX7_commits 44 = .ok (.iastore, 1) := by decide +kernel
theorem dX7_commits_45 : decode cX7_commits 45 = .ok (.aload_n 0, 1) := by decide +kernel
theorem dX7_commits_46 : decode cX7_commits 46 = .ok (.getfield 7, 3) := by decide +kernel
theorem dX7_commits_49 : decode cX7_commits 49 = .ok (.iload_n 2, 1) := by decide +kernel
theorem dX7_commits_50 : decode cX7_commits 50 = .ok (.iconst 2, 1) := by decide +kernel
theorem dX7_commits_51 : decode cX7_commits 51 = .ok (.iadd, 1) := by decide +kernel
theorem dX7_commits_52 : decode cX7_commits 52 = .ok (.aload_n 0, 1) := by decide +kernel
theorem dX7_commits_53 : decode cX7_commits 53 = .ok (.getfield 7, 3) := by decide +kernel
theorem dX7_commits_56 : decode cX7_commits 56 = .ok (.iconst 0, 1) := by decide +kernel
theorem dX7_commits_57 : decode cX7_commits 57 = .ok (.iaload, 1) := by decide +kernel
theorem dX7_commits_58 : decode cX7_commits 58 = .ok (.iastore, 1) := by decide +kernel
theorem dX7_commits_59 : decode cX7_commits 59 = .ok (.aload_n 0, 1) := by decide +kernel
theorem dX7_commits_60 : decode cX7_commits 60 = .ok (.getfield 7, 3) := by decide +kernel
theorem dX7_commits_63 : decode cX7_commits 63 = .ok (.iload_n 2, 1) := by decide +kernel
theorem dX7_commits_64 : decode cX7_commits 64 = .ok (.iconst 3, 1) := by decide +kernel
theorem dX7_commits_65 : decode cX7_commits 65 = .ok (.iadd, 1) := by decide +kernel
theorem dX7_commits_66 : decode cX7_commits 66 = .ok (.aload_n 0, 1) := by decide +kernel
theorem dX7_commits_67 : decode cX7_commits 67 = .ok (.iload_n 1, 1) := by decide +kernel
theorem dX7_commits_68 : decode cX7_commits 68 = .ok (.iconst 4, 1) := by decide +kernel
theorem dX7_commits_69 : decode cX7_commits 69 = .ok (.invokevirtual 32, 3) := by decide +kernel
theorem dX7_commits_72 : decode cX7_commits 72 = .ok (.iastore, 1) := by decide +kernel
theorem dX7_commits_73 : decode cX7_commits 73 = .ok (.aload_n 0, 1) := by decide +kernel
theorem dX7_commits_74 : decode cX7_commits 74 = .ok (.getfield 7, 3) := by decide +kernel
theorem dX7_commits_77 : decode cX7_commits 77 = .ok (.iload_n 2, 1) := by decide +kernel
theorem dX7_commits_78 : decode cX7_commits 78 = .ok (.iconst 4, 1) := by decide +kernel
theorem dX7_commits_79 : decode cX7_commits 79 = .ok (.iadd, 1) := by decide +kernel
theorem dX7_commits_80 : decode cX7_commits 80 = .ok (.aload_n 0, 1) := by decide +kernel
theorem dX7_commits_81 : decode cX7_commits 81 = .ok (.iload_n 1, 1) := by decide +kernel
theorem dX7_commits_82 : decode cX7_commits 82 = .ok (.iconst 3, 1) := by decide +kernel
theorem dX7_commits_83 : decode cX7_commits 83 = .ok (.invokevirtual 32, 3) := by decide +kernel
theorem dX7_commits_86 : decode cX7_commits 86 = .ok (.iastore, 1) := by decide +kernel
theorem dX7_commits_87 : decode cX7_commits 87 = .ok (.aload_n 0, 1) := by decide +kernel
theorem dX7_commits_88 : decode cX7_commits 88 = .ok (.getfield 7, 3) := by decide +kernel
theorem dX7_commits_91 : decode cX7_commits 91 = .ok (.bipush 6, 2) := by decide +kernel
theorem dX7_commits_93 : decode cX7_commits 93 = .ok (.dup2, 1) := by decide +kernel
theorem dX7_commits_94 : decode cX7_commits 94 = .ok (.iaload, 1) := by decide +kernel
theorem dX7_commits_95 : decode cX7_commits 95 = .ok (.iconst 1, 1) := by decide +kernel
theorem dX7_commits_96 : decode cX7_commits 96 = .ok (.iadd, 1) := by decide +kernel
theorem dX7_commits_97 : decode cX7_commits 97 = .ok (.iastore, 1) := by decide +kernel
theorem dX7_commits_98 : decode cX7_commits 98 = .ok (.iconst 0, 1) := by decide +kernel
theorem dX7_commits_99 : decode cX7_commits 99 = .ok (.istore_n 3, 1) := by decide +kernel
theorem dX7_commits_100 : decode cX7_commits 100 = .ok (.iload_n 3, 1) := by decide +kernel
theorem dX7_commits_101 : decode cX7_commits 101 = .ok (.bipush 12, 2) := by decide +kernel
theorem dX7_commits_103 : decode cX7_commits 103 = .ok (.if_icmp .ge 89, 3) := by decide +kernel
theorem dX7_commits_106 : decode cX7_commits 106 = .ok (.aload_n 0, 1) := by decide +kernel
theorem dX7_commits_107 : decode cX7_commits 107 = .ok (.iload_n 1, 1) := by decide +kernel
theorem dX7_commits_108 : decode cX7_commits 108 = .ok (.iconst 4, 1) := by decide +kernel
theorem dX7_commits_109 : decode cX7_commits 109 = .ok (.invokevirtual 32, 3) := by decide +kernel
theorem dX7_commits_112 : decode cX7_commits 112 = .ok (.iload_n 3, 1) := by decide +kernel
theorem dX7_commits_113 : decode cX7_commits 113 = .ok (.invokestatic 111, 3) := by decide +kernel
theorem dX7_commits_116 : decode cX7_commits 116 = .ok (.ifCond .eq 70, 3) := by decide +kernel
theorem dX7_commits_119 : decode cX7_commits 119 = .ok (.sipush 809, 3) := by decide +kernel
theorem dX7_commits_122 : decode cX7_commits 122 = .ok (.iconst 3, 1) := by decide +kernel
theorem dX7_commits_123 : decode cX7_commits 123 = .ok (.aload_n 0, 1) := by decide +kernel
theorem dX7_commits_124 : decode cX7_commits 124 = .ok (.getfield 7, 3) := by decide +kernel
theorem dX7_commits_127 : decode cX7_commits 127 = .ok (.bipush 8, 2) := by decide +kernel
theorem dX7_commits_129 : decode cX7_commits 129 = .ok (.iaload, 1) := by decide +kernel
theorem dX7_commits_130 : decode cX7_commits 130 = .ok (.imul, 1) := by decide +kernel
theorem dX7_commits_131 : decode cX7_commits 131 = .ok (.iadd, 1) := by decide +kernel
theorem dX7_commits_132 : decode cX7_commits 132 = .ok (.istore 4, 2) := by decide +kernel
theorem dX7_commits_134 : decode cX7_commits 134 = .ok (.aload_n 0, 1) := by decide +kernel
theorem dX7_commits_135 : decode cX7_commits 135 = .ok (.getfield 7, 3) := by decide +kernel
theorem dX7_commits_138 : decode cX7_commits 138 = .ok (.iload 4, 2) := by decide +kernel
theorem dX7_commits_140 : decode cX7_commits 140 = .ok (.iload_n 3, 1) := by decide +kernel
theorem dX7_commits_141 : decode cX7_commits 141 = .ok (.iastore, 1) := by decide +kernel
theorem dX7_commits_142 : decode cX7_commits 142 = .ok (.aload_n 0, 1) := by decide +kernel
theorem dX7_commits_143 : decode cX7_commits 143 = .ok (.getfield 7, 3) := by decide +kernel
theorem dX7_commits_146 : decode cX7_commits 146 = .ok (.iload 4, 2) := by decide +kernel
theorem dX7_commits_148 : decode cX7_commits 148 = .ok (.iconst 1, 1) := by decide +kernel
theorem dX7_commits_149 : decode cX7_commits 149 = .ok (.iadd, 1) := by decide +kernel
theorem dX7_commits_150 : decode cX7_commits 150 = .ok (.aload_n 0, 1) := by decide +kernel
theorem dX7_commits_151 : decode cX7_commits 151 = .ok (.getfield 7, 3) := by decide +kernel
theorem dX7_commits_154 : decode cX7_commits 154 = .ok (.iconst 0, 1) := by decide +kernel
theorem dX7_commits_155 : decode cX7_commits 155 = .ok (.iaload, 1) := by decide +kernel
theorem dX7_commits_156 : decode cX7_commits 156 = .ok (.iastore, 1) := by decide +kernel
theorem dX7_commits_157 : decode cX7_commits 157 = .ok (.aload_n 0, 1) := by decide +kernel
theorem dX7_commits_158 : decode cX7_commits 158 = .ok (.getfield 7, 3) := by decide +kernel
theorem dX7_commits_161 : decode cX7_commits 161 = .ok (.iload 4, 2) := by decide +kernel
theorem dX7_commits_163 : decode cX7_commits 163 = .ok (.iconst 2, 1) := by decide +kernel
theorem dX7_commits_164 : decode cX7_commits 164 = .ok (.iadd, 1) := by decide +kernel
theorem dX7_commits_165 : decode cX7_commits 165 = .ok (.aload_n 0, 1) := by decide +kernel
theorem dX7_commits_166 : decode cX7_commits 166 = .ok (.iload_n 1, 1) := by decide +kernel
theorem dX7_commits_167 : decode cX7_commits 167 = .ok (.bipush 8, 2) := by decide +kernel
theorem dX7_commits_169 : decode cX7_commits 169 = .ok (.iload_n 3, 1) := by decide +kernel
theorem dX7_commits_170 : decode cX7_commits 170 = .ok (.iadd, 1) := by decide +kernel
theorem dX7_commits_171 : decode cX7_commits 171 = .ok (.invokevirtual 32, 3) := by decide +kernel
theorem dX7_commits_174 : decode cX7_commits 174 = .ok (.iastore, 1) := by decide +kernel
theorem dX7_commits_175 : decode cX7_commits 175 = .ok (.aload_n 0, 1) := by decide +kernel
theorem dX7_commits_176 : decode cX7_commits 176 = .ok (.getfield 7, 3) := by decide +kernel
theorem dX7_commits_179 : decode cX7_commits 179 = .ok (.bipush 8, 2) := by decide +kernel
theorem dX7_commits_181 : decode cX7_commits 181 = .ok (.dup2, 1) := by decide +kernel
theorem dX7_commits_182 : decode cX7_commits 182 = .ok (.iaload, 1) := by decide +kernel
theorem dX7_commits_183 : decode cX7_commits 183 = .ok (.iconst 1, 1) := by decide +kernel
theorem dX7_commits_184 : decode cX7_commits 184 = .ok (.iadd, 1) := by decide +kernel
theorem dX7_commits_185 : decode cX7_commits 185 = .ok (.iastore, 1) := by decide +kernel
theorem dX7_commits_186 : decode cX7_commits 186 = .ok (.iinc 3 1, 3) := by decide +kernel
theorem dX7_commits_189 : decode cX7_commits 189 = .ok (.goto (-89), 3) := by decide +kernel
theorem dX7_commits_192 : decode cX7_commits 192 = .ok (.return_, 1) := by decide +kernel
theorem dX7_commit_0 : decode cX7_commit 0 = .ok (.aload_n 0, 1) := by decide +kernel
theorem dX7_commit_1 : decode cX7_commit 1 = .ok (.iload_n 1, 1) := by decide +kernel
theorem dX7_commit_2 : decode cX7_commit 2 = .ok (.invokevirtual 92, 3) := by decide +kernel
theorem dX7_commit_5 : decode cX7_commit 5 = .ok (.ifCond .ne 5, 3) := by decide +kernel
theorem dX7_commit_8 : decode cX7_commit 8 = .ok (.iconst (-1), 1) := by decide +kernel
theorem dX7_commit_9 : decode cX7_commit 9 = .ok (.ireturn, 1) := by decide +kernel
theorem dX7_commit_10 : decode cX7_commit 10 = .ok (.aload_n 0, 1) := by decide +kernel
theorem dX7_commit_11 : decode cX7_commit 11 = .ok (.iload_n 1, 1) := by decide +kernel
theorem dX7_commit_12 : decode cX7_commit 12 = .ok (.invokevirtual 64, 3) := by decide +kernel
theorem dX7_commit_15 : decode cX7_commit 15 = .ok (.ifCond .ne 6, 3) := by decide +kernel
theorem dX7_commit_18 : decode cX7_commit 18 = .ok (.bipush (-4), 2) := by decide +kernel
theorem dX7_commit_20 : decode cX7_commit 20 = .ok (.ireturn, 1) := by decide +kernel
theorem dX7_commit_21 : decode cX7_commit 21 = .ok (.aload_n 0, 1) := by decide +kernel
theorem dX7_commit_22 : decode cX7_commit 22 = .ok (.iload_n 1, 1) := by decide +kernel
theorem dX7_commit_23 : decode cX7_commit 23 = .ok (.invokevirtual 130, 3) := by decide +kernel
theorem dX7_commit_26 : decode cX7_commit 26 = .ok (.ifCond .eq 6, 3) := by decide +kernel
theorem dX7_commit_29 : decode cX7_commit 29 = .ok (.bipush (-6), 2) := by decide +kernel
theorem dX7_commit_31 : decode cX7_commit 31 = .ok (.ireturn, 1) := by decide +kernel
theorem dX7_commit_32 : decode cX7_commit 32 = .ok (.aload_n 0, 1) := by decide +kernel
theorem dX7_commit_33 : decode cX7_commit 33 = .ok (.getfield 7, 3) := by decide +kernel
theorem dX7_commit_36 : decode cX7_commit 36 = .ok (.bipush 7, 2) := by decide +kernel
theorem dX7_commit_38 : decode cX7_commit 38 = .ok (.iaload, 1) := by decide +kernel
theorem dX7_commit_39 : decode cX7_commit 39 = .ok (.iconst 1, 1) := by decide +kernel
theorem dX7_commit_40 : decode cX7_commit 40 = .ok (.if_icmp .ne 14, 3) := by decide +kernel
theorem dX7_commit_43 : decode cX7_commit 43 = .ok (.aload_n 0, 1) := by decide +kernel
theorem dX7_commit_44 : decode cX7_commit 44 = .ok (.iload_n 1, 1) := by decide +kernel
theorem dX7_commit_45 : decode cX7_commit 45 = .ok (.invokevirtual 133, 3) := by decide +kernel
theorem dX7_commit_48 : decode cX7_commit 48 = .ok (.ifCond .le 6, 3) := by decide +kernel
theorem dX7_commit_51 : decode cX7_commit 51 = .ok (.bipush (-4), 2) := by decide +kernel
theorem dX7_commit_53 : decode cX7_commit 53 = .ok (.ireturn, 1) := by decide +kernel
theorem dX7_commit_54 : decode cX7_commit 54 = .ok (.aload_n 0, 1) := by decide +kernel
theorem dX7_commit_55 : decode cX7_commit 55 = .ok (.iconst 5, 1) := by decide +kernel
theorem dX7_commit_56 : decode cX7_commit 56 = .ok (.invokevirtual 40, 3) := by decide +kernel
theorem dX7_commit_59 : decode cX7_commit 59 = .ok (.aload_n 0, 1) := by decide +kernel
theorem dX7_commit_60 : decode cX7_commit 60 = .ok (.iload_n 1, 1) := by decide +kernel
theorem dX7_commit_61 : decode cX7_commit 61 = .ok (.iconst 2, 1) := by decide +kernel
theorem dX7_commit_62 : decode cX7_commit 62 = .ok (.iconst 1, 1) := by decide +kernel
theorem dX7_commit_63 : decode cX7_commit 63 = .ok (.invokevirtual 88, 3) := by decide +kernel
theorem dX7_commit_66 : decode cX7_commit 66 = .ok (.aload_n 0, 1) := by decide +kernel
theorem dX7_commit_67 : decode cX7_commit 67 = .ok (.iload_n 1, 1) := by decide +kernel
theorem dX7_commit_68 : decode cX7_commit 68 = .ok (.iconst 4, 1) := by decide +kernel
theorem dX7_commit_69 : decode cX7_commit 69 = .ok (.invokevirtual 32, 3) := by decide +kernel
theorem dX7_commit_72 : decode cX7_commit 72 = .ok (.ifCond .eq 8, 3) := by decide +kernel
theorem dX7_commit_75 : decode cX7_commit 75 = .ok (.aload_n 0, 1) := by decide +kernel
theorem dX7_commit_76 : decode cX7_commit 76 = .ok (.iload_n 1, 1) := by decide +kernel
theorem dX7_commit_77 : decode cX7_commit 77 = .ok (.invokevirtual 136, 3) := by decide +kernel
theorem dX7_commit_80 : decode cX7_commit 80 = .ok (.aload_n 0, 1) := by decide +kernel
theorem dX7_commit_81 : decode cX7_commit 81 = .ok (.invokevirtual 98, 3) := by decide +kernel
theorem dX7_commit_84 : decode cX7_commit 84 = .ok (.pop, 1) := by decide +kernel
theorem dX7_commit_85 : decode cX7_commit 85 = .ok (.aload_n 0, 1) := by decide +kernel
theorem dX7_commit_86 : decode cX7_commit 86 = .ok (.invokevirtual 139, 3) := by decide +kernel
theorem dX7_commit_89 : decode cX7_commit 89 = .ok (.bipush 40, 2) := by decide +kernel
theorem dX7_commit_91 : decode cX7_commit 91 = .ok (.if_icmp .le 11, 3) := by decide +kernel
theorem dX7_commit_94 : decode cX7_commit 94 = .ok (.aload_n 0, 1) := by decide +kernel
theorem dX7_commit_95 : decode cX7_commit 95 = .ok (.iconst 5, 1) := by decide +kernel
theorem dX7_commit_96 : decode cX7_commit 96 = .ok (.invokevirtual 44, 3) := by decide +kernel
theorem dX7_commit_99 : decode cX7_commit 99 = .ok (.bipush (-3), 2) := by decide +kernel
theorem dX7_commit_101 : decode cX7_commit 101 = .ok (.ireturn, 1) := by decide +kernel
theorem dX7_commit_102 : decode cX7_commit 102 = .ok (.aload_n 0, 1) := by decide +kernel
theorem dX7_commit_103 : decode cX7_commit 103 = .ok (.iload_n 1, 1) := by decide +kernel
theorem dX7_commit_104 : decode cX7_commit 104 = .ok (.invokevirtual 142, 3) := by decide +kernel
theorem dX7_commit_107 : decode cX7_commit 107 = .ok (.ireturn, 1) := by decide +kernel
theorem dX7_commitsFor_0 : decode cX7_commitsFor 0 = .ok (.aload_n 0, 1) := by decide +kernel
theorem dX7_commitsFor_1 : decode cX7_commitsFor 1 = .ok (.iconst 5, 1) := by decide +kernel
theorem dX7_commitsFor_2 : decode cX7_commitsFor 2 = .ok (.invokevirtual 44, 3) := by decide +kernel
theorem dX7_commitsFor_5 : decode cX7_commitsFor 5 = .ok (.aload_n 0, 1) := by decide +kernel
theorem dX7_commitsFor_6 : decode cX7_commitsFor 6 = .ok (.invokevirtual 51, 3) := by decide +kernel
theorem dX7_commitsFor_9 : decode cX7_commitsFor 9 = .ok (.aload_n 0, 1) := by decide +kernel
theorem dX7_commitsFor_10 : decode cX7_commitsFor 10 = .ok (.iload_n 1, 1) := by decide +kernel
theorem dX7_commitsFor_11 : decode cX7_commitsFor 11 = .ok (.iconst 2, 1) := by decide +kernel
theorem dX7_commitsFor_12 : decode cX7_commitsFor 12 = .ok (.iconst 1, 1) := by decide +kernel
theorem dX7_commitsFor_13 : decode cX7_commitsFor 13 = .ok (.invokevirtual 88, 3) := by decide +kernel
theorem dX7_commitsFor_16 : decode cX7_commitsFor 16 = .ok (.aload_n 0, 1) := by decide +kernel
theorem dX7_commitsFor_17 : decode cX7_commitsFor 17 = .ok (.iload_n 1, 1) := by decide +kernel
theorem dX7_commitsFor_18 : decode cX7_commitsFor 18 = .ok (.iconst 4, 1) := by decide +kernel
theorem dX7_commitsFor_19 : decode cX7_commitsFor 19 = .ok (.invokevirtual 32, 3) := by decide +kernel
theorem dX7_commitsFor_22 : decode cX7_commitsFor 22 = .ok (.ifCond .eq 8, 3) := by decide +kernel
theorem dX7_commitsFor_25 : decode cX7_commitsFor 25 = .ok (.aload_n 0, 1) := by decide +kernel
theorem dX7_commitsFor_26 : decode cX7_commitsFor 26 = .ok (.iload_n 1, 1) := by decide +kernel
theorem dX7_commitsFor_27 : decode cX7_commitsFor 27 = .ok (.invokevirtual 136, 3) := by decide +kernel
theorem dX7_commitsFor_30 : decode cX7_commitsFor 30 = .ok (.aload_n 0, 1) := by decide +kernel
theorem dX7_commitsFor_31 : decode cX7_commitsFor 31 = .ok (.invokevirtual 98, 3) := by decide +kernel
theorem dX7_commitsFor_34 : decode cX7_commitsFor 34 = .ok (.pop, 1) := by decide +kernel
theorem dX7_commitsFor_35 : decode cX7_commitsFor 35 = .ok (.aload_n 0, 1) := by decide +kernel
theorem dX7_commitsFor_36 : decode cX7_commitsFor 36 = .ok (.getfield 7, 3) := by decide +kernel
theorem dX7_commitsFor_39 : decode cX7_commitsFor 39 = .ok (.iconst 0, 1) := by decide +kernel
theorem dX7_commitsFor_40 : decode cX7_commitsFor 40 = .ok (.iaload, 1) := by decide +kernel
theorem dX7_commitsFor_41 : decode cX7_commitsFor 41 = .ok (.ireturn, 1) := by decide +kernel
theorem dX7_type_0 : decode cX7_type 0 = .ok (.aload_n 0, 1) := by decide +kernel
theorem dX7_type_1 : decode cX7_type 1 = .ok (.getfield 145, 3) := by decide +kernel
theorem dX7_type_4 : decode cX7_type 4 = .ok (.bipush 60, 2) := by decide +kernel
theorem dX7_type_6 : decode cX7_type 6 = .ok (.if_icmp .ne 6, 3) := by decide +kernel
theorem dX7_type_9 : decode cX7_type 9 = .ok (.bipush (-3), 2) := by decide +kernel
theorem dX7_type_11 : decode cX7_type 11 = .ok (.ireturn, 1) := by decide +kernel
theorem dX7_type_12 : decode cX7_type 12 = .ok (.aload_n 0, 1) := by decide +kernel
theorem dX7_type_13 : decode cX7_type 13 = .ok (.getfield 16, 3) := by decide +kernel
theorem dX7_type_16 : decode cX7_type 16 = .ok (.aload_n 0, 1) := by decide +kernel
theorem dX7_type_17 : decode cX7_type 17 = .ok (.getfield 145, 3) := by decide +kernel
theorem dX7_type_20 : decode cX7_type 20 = .ok (.iload_n 1, 1) := by decide +kernel
theorem dX7_type_21 : decode cX7_type 21 = .ok (.iastore, 1) := by decide +kernel
theorem dX7_type_22 : decode cX7_type 22 = .ok (.aload_n 0, 1) := by decide +kernel
theorem dX7_type_23 : decode cX7_type 23 = .ok (.dup, 1) := by decide +kernel
theorem dX7_type_24 : decode cX7_type 24 = .ok (.getfield 145, 3) := by decide +kernel
theorem dX7_type_27 : decode cX7_type 27 = .ok (.iconst 1, 1) := by decide +kernel
theorem dX7_type_28 : decode cX7_type 28 = .ok (.iadd, 1) := by decide +kernel
theorem dX7_type_29 : decode cX7_type 29 = .ok (.putfield 145, 3) := by decide +kernel
