theorem dX0_init_0 : decode cX0_init 0 = .ok (.aload_n 0, 1) := by decide +kernel
theorem dX0_init_1 : decode cX0_init 1 = .ok (.invokespecial 3, 3) := by decide +kernel
theorem dX0_init_4 : decode cX0_init 4 = .ok (.aload_n 0, 1) := by decide +kernel
theorem dX0_init_5 : decode cX0_init 5 = .ok (.bipush 10, 2) := by decide +kernel
theorem dX0_init_7 : decode cX0_init 7 = .ok (.newarray .int, 2) := by decide +kernel
theorem dX0_init_9 : decode cX0_init 9 = .ok (.putfield 9, 3) := by decide +kernel
theorem dX0_init_12 : decode cX0_init 12 = .ok (.aload_n 0, 1) := by decide +kernel
theorem dX0_init_13 : decode cX0_init 13 = .ok (.bipush 10, 2) := by decide +kernel
theorem dX0_init_15 : decode cX0_init 15 = .ok (.newarray .int, 2) := by decide +kernel
theorem dX0_init_17 : decode cX0_init 17 = .ok (.putfield 15, 3) := by decide +kernel
theorem dX0_init_20 : decode cX0_init 20 = .ok (.aload_n 0, 1) := by decide +kernel
theorem dX0_init_21 : decode cX0_init 21 = .ok (.iconst 1, 1) := by decide +kernel
theorem dX0_init_22 : decode cX0_init 22 = .ok (.putfield 18, 3) := by decide +kernel
theorem dX0_init_25 : decode cX0_init 25 = .ok (.return_, 1) := by decide +kernel
theorem dX0_copyFrom_0 : decode cX0_copyFrom 0 = .ok (.aload_n 1, 1) := by decide +kernel
theorem dX0_copyFrom_1 : decode cX0_copyFrom 1 = .ok (.getfield 9, 3) := by decide +kernel
theorem dX0_copyFrom_4 : decode cX0_copyFrom 4 = .ok (.iconst 0, 1) := by decide +kernel
theorem dX0_copyFrom_5 : decode cX0_copyFrom 5 = .ok (.aload_n 0, 1) := by decide +kernel
theorem dX0_copyFrom_6 : decode cX0_copyFrom 6 = .ok (.getfield 9, 3) := by decide +kernel
theorem dX0_copyFrom_9 : decode cX0_copyFrom 9 = .ok (.iconst 0, 1) := by decide +kernel
theorem dX0_copyFrom_10 : decode cX0_copyFrom 10 = .ok (.bipush 10, 2) := by decide +kernel
theorem dX0_copyFrom_12 : decode cX0_copyFrom 12 = .ok (.invokestatic 22, 3) := by decide +kernel
theorem dX0_copyFrom_15 : decode cX0_copyFrom 15 = .ok (.aload_n 1, 1) := by decide +kernel
theorem dX0_copyFrom_16 : decode cX0_copyFrom 16 = .ok (.getfield 15, 3) := by decide +kernel
theorem dX0_copyFrom_19 : decode cX0_copyFrom 19 = .ok (.iconst 0, 1) := by decide +kernel
theorem dX0_copyFrom_20 : decode cX0_copyFrom 20 = .ok (.aload_n 0, 1) := by decide +kernel
theorem dX0_copyFrom_21 : decode cX0_copyFrom 21 = .ok (.getfield 15, 3) := by decide +kernel
theorem dX0_copyFrom_24 : decode cX0_copyFrom 24 = .ok (.iconst 0, 1) := by decide +kernel
theorem dX0_copyFrom_25 : decode cX0_copyFrom 25 = .ok (.bipush 10, 2) := by decide +kernel
theorem dX0_copyFrom_27 : decode cX0_copyFrom 27 = .ok (.invokestatic 22, 3) := by decide +kernel
theorem dX0_copyFrom_30 : decode cX0_copyFrom 30 = .ok (.aload_n 0, 1) := by decide +kernel
theorem dX0_copyFrom_31 : decode cX0_copyFrom 31 = .ok (.aload_n 1, 1) := by decide +kernel
theorem dX0_copyFrom_32 : decode cX0_copyFrom 32 = .ok (.getfield 18, 3) := by decide +kernel
theorem dX0_copyFrom_35 : decode cX0_copyFrom 35 = .ok (.putfield 18, 3) := by decide +kernel
theorem dX0_copyFrom_38 : decode cX0_copyFrom 38 = .ok (.return_, 1) := by decide +kernel
theorem dX0_placeSeenAt_0 : decode cX0_placeSeenAt 0 = .ok (.iconst 0, 1) := by decide +kernel
theorem dX0_placeSeenAt_1 : decode cX0_placeSeenAt 1 = .ok (.istore_n 2, 1) := by decide +kernel
theorem dX0_placeSeenAt_2 : decode cX0_placeSeenAt 2 = .ok (.iload_n 2, 1) := by decide +kernel
theorem dX0_placeSeenAt_3 : decode cX0_placeSeenAt 3 = .ok (.aload_n 0, 1) := by decide +kernel
theorem dX0_placeSeenAt_4 : decode cX0_placeSeenAt 4 = .ok (.getfield 18, 3) := by decide +kernel
theorem dX0_placeSeenAt_7 : decode cX0_placeSeenAt 7 = .ok (.if_icmp .ge 21, 3) := by decide +kernel
theorem dX0_placeSeenAt_10 : decode cX0_placeSeenAt 10 = .ok (.aload_n 0, 1) := by decide +kernel
theorem dX0_placeSeenAt_11 : decode cX0_placeSeenAt 11 = .ok (.getfield 15, 3) := by decide +kernel
theorem dX0_placeSeenAt_14 : decode cX0_placeSeenAt 14 = .ok (.iload_n 2, 1) := by decide +kernel
theorem dX0_placeSeenAt_15 : decode cX0_placeSeenAt 15 = .ok (.iaload, 1) := by decide +kernel
theorem dX0_placeSeenAt_16 : decode cX0_placeSeenAt 16 = .ok (.iload_n 1, 1) := by decide +kernel
theorem dX0_placeSeenAt_17 : decode cX0_placeSeenAt 17 = .ok (.if_icmp .gt 5, 3) := by decide +kernel
theorem dX0_placeSeenAt_20 : decode cX0_placeSeenAt 20 = .ok (.iload_n 2, 1) := by decide +kernel
theorem dX0_placeSeenAt_21 : decode cX0_placeSeenAt 21 = .ok (.ireturn, 1) := by decide +kernel
theorem dX0_placeSeenAt_22 : decode cX0_placeSeenAt 22 = .ok (.iinc 2 1, 3) := by decide +kernel
theorem dX0_placeSeenAt_25 : decode cX0_placeSeenAt 25 = .ok (.goto (-23), 3) := by decide +kernel
theorem dX0_placeSeenAt_28 : decode cX0_placeSeenAt 28 = .ok (.iconst (-1), 1) := by decide +kernel
theorem dX0_placeSeenAt_29 : decode cX0_placeSeenAt 29 = .ok (.ireturn, 1) := by decide +kernel
theorem dX0_valueSeenAt_0 : decode cX0_valueSeenAt 0 = .ok (.aload_n 0, 1) := by decide +kernel
theorem dX0_valueSeenAt_1 : decode cX0_valueSeenAt 1 = .ok (.iload_n 1, 1) := by decide +kernel
theorem dX0_valueSeenAt_2 : decode cX0_valueSeenAt 2 = .ok (.invokevirtual 28, 3) := by decide +kernel
theorem dX0_valueSeenAt_5 : decode cX0_valueSeenAt 5 = .ok (.istore_n 2, 1) := by decide +kernel
theorem dX0_valueSeenAt_6 : decode cX0_valueSeenAt 6 = .ok (.iload_n 2, 1) := by decide +kernel
theorem dX0_valueSeenAt_7 : decode cX0_valueSeenAt 7 = .ok (.iconst (-1), 1) := by decide +kernel
theorem dX0_valueSeenAt_8 : decode cX0_valueSeenAt 8 = .ok (.if_icmp .ne 7, 3) := by decide +kernel
theorem dX0_valueSeenAt_11 : decode cX0_valueSeenAt 11 = .ok (.iconst 0, 1) := by decide +kernel
theorem dX0_valueSeenAt_12 : decode cX0_valueSeenAt 12 = .ok (.goto 9, 3) := by decide +kernel
theorem dX0_valueSeenAt_15 : decode cX0_valueSeenAt 15 = .ok (.aload_n 0, 1) := by decide +kernel
theorem dX0_valueSeenAt_16 : decode cX0_valueSeenAt 16 = .ok (.getfield 9, 3) := by decide +kernel
theorem dX0_valueSeenAt_19 : decode cX0_valueSeenAt 19 = .ok (.iload_n 2, 1) := by decide +kernel
theorem dX0_valueSeenAt_20 : decode cX0_valueSeenAt 20 = .ok (.iaload, 1) := by decide +kernel
theorem dX0_valueSeenAt_21 : decode cX0_valueSeenAt 21 = .ok (.ireturn, 1) := by decide +kernel
theorem dX0_push_0 : decode cX0_push 0 = .ok (.aload_n 0, 1) := by decide +kernel
theorem dX0_push_1 : decode cX0_push 1 = .ok (.getfield 18, 3) := by decide +kernel
theorem dX0_push_4 : decode cX0_push 4 = .ok (.bipush 10, 2) := by decide +kernel
theorem dX0_push_6 : decode cX0_push 6 = .ok (.if_icmp .ge 13, 3) := by decide +kernel
theorem dX0_push_9 : decode cX0_push 9 = .ok (.aload_n 0, 1) := by decide +kernel
theorem dX0_push_10 : decode cX0_push 10 = .ok (.dup, 1) := by decide +kernel
theorem dX0_push_11 : decode cX0_push 11 = .ok (.getfield 18, 3) := by decide +kernel
theorem dX0_push_14 : decode cX0_push 14 = .ok (.iconst 1, 1) := by decide +kernel
theorem dX0_push_15 : decode cX0_push 15 = .ok (.iadd, 1) := by decide +kernel
theorem dX0_push_16 : decode cX0_push 16 = .ok (.putfield 18, 3) := by decide +kernel
theorem dX0_push_19 : decode cX0_push 19 = .ok (.aload_n 0, 1) := by decide +kernel
theorem dX0_push_20 : decode cX0_push 20 = .ok (.getfield 9, 3) := by decide +kernel
theorem dX0_push_23 : decode cX0_push 23 = .ok (.iconst 0, 1) := by decide +kernel
theorem dX0_push_24 : decode cX0_push 24 = .ok (.aload_n 0, 1) := by decide +kernel
theorem dX0_push_25 : decode cX0_push 25 = .ok (.getfield 9, 3) := by decide +kernel
theorem dX0_push_28 : decode cX0_push 28 = .ok (.iconst 1, 1) := by decide +kernel
theorem dX0_push_29 : decode cX0_push 29 = .ok (.aload_n 0, 1) := by decide +kernel
theorem dX0_push_30 : decode cX0_push 30 = .ok (.getfield 18, 3) := by decide +kernel
theorem dX0_push_33 : decode cX0_push 33 = .ok (.iconst 1, 1) := by decide +kernel
theorem dX0_push_34 : decode cX0_push 34 = .ok (.isub, 1) := by decide +kernel
theorem dX0_push_35 : decode cX0_push 35 = .ok (.invokestatic 22, 3) := by decide +kernel
theorem dX0_push_38 : decode cX0_push 38 = .ok (.aload_n 0, 1) := by decide +kernel
theorem dX0_push_39 : decode cX0_push 39 = .ok (.getfield 15, 3) := by decide +kernel
theorem dX0_push_42 : decode cX0_push 42 = .ok (.iconst 0, 1) := by decide +kernel
theorem dX0_push_43 : decode cX0_push 43 = .ok (.aload_n 0, 1) := by decide +kernel
theorem dX0_push_44 : decode cX0_push 44 = .ok (.getfield 15, 3) := by decide +kernel
theorem dX0_push_47 : decode cX0_push 47 = .ok (.iconst 1, 1) := by decide +kernel
theorem dX0_push_48 : decode cX0_push 48 = .ok (.aload_n 0, 1) := by decide +kernel
theorem dX0_push_49 : decode cX0_push 49 = .ok (.getfield 18, 3) := by decide +kernel
theorem dX0_push_52 : decode cX0_push 52 = .ok (.iconst 1, 1) := by decide +kernel
theorem dX0_push_53 : decode cX0_push 53 = .ok (.isub, 1) := by decide +kernel
theorem dX0_push_54 : decode cX0_push 54 = .ok (.invokestatic 22, 3) := by decide +kernel
theorem dX0_push_57 : decode cX0_push 57 = .ok (.aload_n 0, 1) := by decide +kernel
theorem dX0_push_58 : decode cX0_push 58 = .ok (.getfield 9, 3) := by decide +kernel
theorem dX0_push_61 : decode cX0_push 61 = .ok (.iconst 0, 1) := by decide +kernel
theorem dX0_push_62 : decode cX0_push 62 = .ok (.iload_n 1, 1) := by decide +kernel
theorem dX0_push_63 : decode cX0_push 63 = .ok (.iastore, 1) := by decide +kernel
theorem dX0_push_64 : decode cX0_push 64 = .ok (.aload_n 0, 1) := by decide +kernel
theorem dX0_push_65 : decode cX0_push 65 = .ok (.getfield 15, 3) := by decide +kernel
theorem dX0_push_68 : decode cX0_push 68 = .ok (.iconst 0, 1) := by decide +kernel
theorem dX0_push_69 : decode cX0_push 69 = .ok (.iload_n 2, 1) := by decide +kernel
theorem dX0_push_70 : decode cX0_push 70 = .ok (.iastore, 1) := by decide +kernel
theorem dX0_push_71 : decode cX0_push 71 = .ok (.return_, 1) := by decide +kernel
theorem dX0_retainOld_0 : decode cX0_retainOld 0 = .ok (.iconst 1, 1) := by decide +kernel
theorem dX0_retainOld_1 : decode cX0_retainOld 1 = .ok (.istore_n 2, 1) := by decide +kernel
theorem dX0_retainOld_2 : decode cX0_retainOld 2 = .ok (.iconst 1, 1) := by decide +kernel
theorem dX0_retainOld_3 : decode cX0_retainOld 3 = .ok (.istore_n 3, 1) := by decide +kernel
theorem dX0_retainOld_4 : decode cX0_retainOld 4 = .ok (.iload_n 3, 1) := by decide +kernel
theorem dX0_retainOld_5 : decode cX0_retainOld 5 = .ok (.aload_n 0, 1) := by decide +kernel
theorem dX0_retainOld_6 : decode cX0_retainOld 6 = .ok (.getfield 18, 3) := by decide +kernel
theorem dX0_retainOld_9 : decode cX0_retainOld 9 = .ok (.if_icmp .ge 44, 3) := by decide +kernel
theorem dX0_retainOld_12 : decode cX0_retainOld 12 = .ok (.iload_n 1, 1) := by decide +kernel
theorem dX0_retainOld_13 : decode cX0_retainOld 13 = .ok (.iload_n 3, 1) := by decide +kernel
theorem dX0_retainOld_14 : decode cX0_retainOld 14 = .ok (.ishr, 1) := by decide +kernel
theorem dX0_retainOld_15 : decode cX0_retainOld 15 = .ok (.iconst 1, 1) := by decide +kernel
theorem dX0_retainOld_16 : decode cX0_retainOld 16 = .ok (.iand, 1) := by decide +kernel
theorem dX0_retainOld_17 : decode cX0_retainOld 17 = .ok (.ifCond .eq 30, 3) := by decide +kernel
theorem dX0_retainOld_20 : decode cX0_retainOld 20 = .ok (.aload_n 0, 1) := by decide +kernel
theorem dX0_retainOld_21 : decode cX0_retainOld 21 = .ok (.getfield 9, 3) := by decide +kernel
theorem dX0_retainOld_24 : decode cX0_retainOld 24 = .ok (.iload_n 2, 1) := by decide +kernel
theorem dX0_retainOld_25 : decode cX0_retainOld 25 = .ok (.aload_n 0, 1) := by decide +kernel
theorem dX0_retainOld_26 : decode cX0_retainOld 26 = .ok (.getfield 9, 3) := by decide +kernel
theorem dX0_retainOld_29 : decode cX0_retainOld 29 = .ok (.iload_n 3, 1) := by decide +kernel
theorem dX0_retainOld_30 : decode cX0_retainOld 30 = .ok (.iaload, 1) := by decide +kernel
theorem dX0_retainOld_31 : decode cX0_retainOld 31 = .ok (.iastore, 1) := by decide +kernel
theorem dX0_retainOld_32 : decode cX0_retainOld 32 = .ok (.aload_n 0, 1) := by decide +kernel
theorem dX0_retainOld_33 : decode cX0_retainOld 33 = .ok (.getfield 15, 3) := by decide +kernel
theorem dX0_retainOld_36 : decode cX0_retainOld 36 = .ok (.iload_n 2, 1) := by decide +kernel
theorem dX0_retainOld_37 : decode cX0_retainOld 37 = .ok (.aload_n 0, 1) := by decide +kernel
theorem dX0_retainOld_38 : decode cX0_retainOld 38 = .ok (.getfield 15, 3) := by decide +kernel
theorem dX0_retainOld_41 : decode cX0_retainOld 41 = .ok (.iload_n 3, 1) := by decide +kernel
theorem dX0_retainOld_42 : decode cX0_retainOld 42 = .ok (.iaload, 1) := by decide +kernel
theorem dX0_retainOld_43 : decode cX0_retainOld 43 = .ok (.iastore, 1) := by decide +kernel
theorem dX0_retainOld_44 : decode cX0_retainOld 44 = .ok (.iinc 2 1, 3) := by decide +kernel
theorem dX0_retainOld_47 : decode cX0_retainOld 47 = .ok (.iinc 3 1, 3) := by decide +kernel
theorem dX0_retainOld_50 : decode cX0_retainOld 50 = .ok (.goto (-46), 3) := by decide +kernel
theorem dX0_retainOld_53 : decode cX0_retainOld 53 = .ok (.aload_n 0, 1) := by decide +kernel
theorem dX0_retainOld_54 : decode cX0_retainOld 54 = .ok (.getfield 18, 3) := by decide +kernel
theorem dX0_retainOld_57 : decode cX0_retainOld 57 = .ok (.iload_n 2, 1) := by decide +kernel
theorem dX0_retainOld_58 : decode cX0_retainOld 58 = .ok (.isub, 1) := by decide +kernel
theorem dX0_retainOld_59 : decode cX0_retainOld 59 = .ok (.istore_n 3, 1) := by decide +kernel
theorem dX0_retainOld_60 : decode cX0_retainOld 60 = .ok (.aload_n 0, 1) := by decide +kernel
theorem dX0_retainOld_61 : decode cX0_retainOld 61 = .ok (.iload_n 2, 1) := by decide +kernel
theorem dX0_retainOld_62 : decode cX0_retainOld 62 = .ok (.putfield 18, 3) := by decide +kernel
theorem dX0_retainOld_65 : decode cX0_retainOld 65 = .ok (.iload_n 3, 1) := by decide +kernel
theorem dX0_retainOld_66 : decode cX0_retainOld 66 = .ok (.ireturn, 1) := by decide +kernel
theorem dX1_init_0 : decode cX1_init 0 = .ok (.aload_n 0, 1) := by decide +kernel
theorem dX1_init_1 : decode cX1_init 1 = .ok (.invokespecial 1, 3) := by decide +kernel
theorem dX1_init_4 : decode cX1_init 4 = .ok (.return_, 1) := by decide +kernel
theorem dX1_copyFrom_0 : decode cX1_copyFrom 0 = .ok (.aload_n 0, 1) := by decide +kernel
theorem dX1_copyFrom_1 : decode cX1_copyFrom 1 = .ok (.aload_n 1, 1) := by decide +kernel
theorem dX1_copyFrom_2 : decode cX1_copyFrom 2 = .ok (.getfield 7, 3) := by decide +kernel
theorem dX1_copyFrom_5 : decode cX1_copyFrom 5 = .ok (.putfield 7, 3) := by decide +kernel
theorem dX1_copyFrom_8 : decode cX1_copyFrom 8 = .ok (.aload_n 0, 1) := by decide +kernel
theorem dX1_copyFrom_9 : decode cX1_copyFrom 9 = .ok (.aload_n 1, 1) := by decide +kernel
theorem dX1_copyFrom_10 : decode cX1_copyFrom 10 = .ok (.getfield 13, 3) := by decide +kernel
theorem dX1_copyFrom_13 : decode cX1_copyFrom 13 = .ok (.putfield 13, 3) := by decide +kernel
theorem dX1_copyFrom_16 : decode cX1_copyFrom 16 = .ok (.aload_n 0, 1) := by decide +kernel
theorem dX1_copyFrom_17 : decode cX1_copyFrom 17 = .ok (.aload_n 1, 1) := by decide +kernel
theorem dX1_copyFrom_18 : decode cX1_copyFrom 18 = .ok (.getfield 16, 3) := by decide +kernel
theorem dX1_copyFrom_21 : decode cX1_copyFrom 21 = .ok (.putfield 16, 3) := by decide +kernel
theorem dX1_copyFrom_24 : decode cX1_copyFrom 24 = .ok (.aload_n 0, 1) := by decide +kernel
theorem dX1_copyFrom_25 : decode cX1_copyFrom 25 = .ok (.aload_n 1, 1) := by decide +kernel
theorem dX1_copyFrom_26 : decode cX1_copyFrom 26 = .ok (.getfield 19, 3) := by decide +kernel
theorem dX1_copyFrom_29 : decode cX1_copyFrom 29 = .ok (.putfield 19, 3) := by decide +kernel
theorem dX1_copyFrom_32 : decode cX1_copyFrom 32 = .ok (.aload_n 0, 1) := by decide +kernel
theorem dX1_copyFrom_33 : decode cX1_copyFrom 33 = .ok (.aload_n 1, 1) := by decide +kernel
theorem dX1_copyFrom_34 : decode cX1_copyFrom 34 = .ok (.getfield 22, 3) := by decide +kernel
theorem dX1_copyFrom_37 : decode cX1_copyFrom 37 = .ok (.putfield 22, 3) := by decide +kernel
theorem dX1_copyFrom_40 : decode cX1_copyFrom 40 = .ok (.aload_n 0, 1) := by decide +kernel
theorem dX1_copyFrom_41 : decode cX1_copyFrom 41 = .ok (.aload_n 1, 1) := by decide +kernel
theorem dX1_copyFrom_42 : decode cX1_copyFrom 42 = .ok (.getfield 25, 3) := by decide +kernel
theorem dX1_copyFrom_45 : decode cX1_copyFrom 45 = .ok (.putfield 25, 3) := by decide +kernel
theorem dX1_copyFrom_48 : decode cX1_copyFrom 48 = .ok (.return_, 1) := by decide +kernel
theorem dX1_isInSkewWithLater_0 : decode cX1_isInSkewWithLater 0 = .ok (.aload_n 1, 1) := by decide +kernel
theorem dX1_isInSkewWithLater_1 : decode cX1_isInSkewWithLater 1 = .ok (.getfield 28, 3) := by decide +kernel
theorem dX1_isInSkewWithLater_4 : decode cX1_isInSkewWithLater 4 = .ok (.aload_n 0, 1) := by decide +kernel
theorem dX1_isInSkewWithLater_5 : decode cX1_isInSkewWithLater 5 = .ok (.getfield 16, 3) := by decide +kernel
theorem dX1_isInSkewWithLater_8 : decode cX1_isInSkewWithLater 8 = .ok (.if_icmp .ge 43, 3) := by decide +kernel
theorem dX1_isInSkewWithLater_11 : decode cX1_isInSkewWithLater 11 = .ok (.aload_n 1, 1) := by decide +kernel
theorem dX1_isInSkewWithLater_12 : decode cX1_isInSkewWithLater 12 = .ok (.getfield 33, 3) := by decide +kernel
theorem dX1_isInSkewWithLater_15 : decode cX1_isInSkewWithLater 15 = .ok (.aload_n 0, 1) := by decide +kernel
theorem dX1_isInSkewWithLater_16 : decode cX1_isInSkewWithLater 16 = .ok (.getfield 19, 3) := by decide +kernel
theorem dX1_isInSkewWithLater_19 : decode cX1_isInSkewWithLater 19 = .ok (.iand, 1) := by decide +kernel
theorem dX1_isInSkewWithLater_20 : decode cX1_isInSkewWithLater 20 = .ok (.ifCond .eq 31, 3) := by decide +kernel
theorem dX1_isInSkewWithLater_23 : decode cX1_isInSkewWithLater 23 = .ok (.aload_n 0, 1) := by decide +kernel
theorem dX1_isInSkewWithLater_24 : decode cX1_isInSkewWithLater 24 = .ok (.getfield 22, 3) := by decide +kernel
theorem dX1_isInSkewWithLater_27 : decode cX1_isInSkewWithLater 27 = .ok (.aload_n 1, 1) := by decide +kernel
theorem dX1_isInSkewWithLater_28 : decode cX1_isInSkewWithLater 28 = .ok (.getfield 34, 3) := by decide +kernel
theorem dX1_isInSkewWithLater_31 : decode cX1_isInSkewWithLater 31 = .ok (.iand, 1) := by decide +kernel
theorem dX1_isInSkewWithLater_32 : decode cX1_isInSkewWithLater 32 = .ok (.ifCond .eq 19, 3) := by decide +kernel
theorem dX1_isInSkewWithLater_35 : decode cX1_isInSkewWithLater 35 = .ok (.aload_n 0, 1) := by decide +kernel
theorem dX1_isInSkewWithLater_36 : decode cX1_isInSkewWithLater 36 = .ok (.getfield 19, 3) := by decide +kernel
theorem dX1_isInSkewWithLater_39 : decode cX1_isInSkewWithLater 39 = .ok (.aload_n 1, 1) := by decide +kernel
theorem dX1_isInSkewWithLater_40 : decode cX1_isInSkewWithLater 40 = .ok (.getfield 34, 3) := by decide +kernel
theorem dX1_isInSkewWithLater_43 : decode cX1_isInSkewWithLater 43 = .ok (.iand, 1) := by decide +kernel
theorem dX1_isInSkewWithLater_44 : decode cX1_isInSkewWithLater 44 = .ok (.ifCond .ne 7, 3) := by decide +kernel
theorem dX1_isInSkewWithLater_47 : decode cX1_isInSkewWithLater 47 = .ok (.iconst 1, 1) := by decide +kernel
theorem dX1_isInSkewWithLater_48 : decode cX1_isInSkewWithLater 48 = .ok (.goto 4, 3) := by decide +kernel
theorem dX1_isInSkewWithLater_51 : decode cX1_isInSkewWithLater 51 = .ok (.iconst 0, 1) := by decide +kernel
theorem dX1_isInSkewWithLater_52 : decode cX1_isInSkewWithLater 52 = .ok (.ireturn, 1) := by decide +kernel
theorem dX2_init_0 : decode cX2_init 0 = .ok (.aload_n 0, 1) := by decide +kernel
theorem dX2_init_1 : decode cX2_init 1 = .ok (.invokespecial 3, 3) := by decide +kernel
theorem dX2_init_4 : decode cX2_init 4 = .ok (.aload_n 0, 1) := by decide +kernel
theorem dX2_init_5 : decode cX2_init 5 = .ok (.iconst 4, 1) := by decide +kernel
theorem dX2_init_6 : decode cX2_init 6 = .ok (.anewarray 9, 3) := by decide +kernel
theorem dX2_init_9 : decode cX2_init 9 = .ok (.putfield 11, 3) := by decide +kernel
theorem dX2_init_12 : decode cX2_init 12 = .ok (.iconst 0, 1) := by decide +kernel
theorem dX2_init_13 : decode cX2_init 13 = .ok (.istore_n 1, 1) := by decide +kernel
theorem dX2_init_14 : decode cX2_init 14 = .ok (.iload_n 1, 1) := by decide +kernel
theorem dX2_init_15 : decode cX2_init 15 = .ok (.iconst 4, 1) := by decide +kernel
theorem dX2_init_16 : decode cX2_init 16 = .ok (.if_icmp .ge 22, 3) := by decide +kernel
theorem dX2_init_19 : decode cX2_init 19 = .ok (.aload_n 0, 1) := by decide +kernel
theorem dX2_init_20 : decode cX2_init 20 = .ok (.getfield 11, 3) := by decide +kernel
theorem dX2_init_23 : decode cX2_init 23 = .ok (.iload_n 1, 1) := by decide +kernel
theorem dX2_init_24 : decode cX2_init 24 = .ok (.new 9, 3) := by decide +kernel
theorem dX2_init_27 : decode cX2_init 27 = .ok (.dup, 1) := by decide +kernel
theorem dX2_init_28 : decode cX2_init 28 = .ok (.invokespecial 17, 3) := by decide +kernel
theorem dX2_init_31 : decode cX2_init 31 = .ok (.aastore, 1) := by decide +kernel
theorem dX2_init_32 : decode cX2_init 32 = .ok (.iinc 1 1, 3) := by decide +kernel
theorem dX2_init_35 : decode cX2_init 35 = .ok (.goto (-21), 3) := by decide +kernel
theorem dX2_init_38 : decode cX2_init 38 = .ok (.return_, 1) := by decide +kernel
theorem dX2_record_0 : decode cX2_record 0 = .ok (.aload_n 0, 1) := by decide +kernel
theorem dX2_record_1 : decode cX2_record 1 = .ok (.getfield 18, 3) := by decide +kernel
theorem dX2_record_4 : decode cX2_record 4 = .ok (.iconst 4, 1) := by decide +kernel
theorem dX2_record_5 : decode cX2_record 5 = .ok (.if_icmp .lt 7, 3) := by decide +kernel
theorem dX2_record_8 : decode cX2_record 8 = .ok (.aload_n 0, 1) := by decide +kernel
theorem dX2_record_9 : decode cX2_record 9 = .ok (.invokevirtual 22, 3) := by decide +kernel
theorem dX2_record_12 : decode cX2_record 12 = .ok (.aload_n 0, 1) := by decide +kernel
theorem dX2_record_13 : decode cX2_record 13 = .ok (.getfield 11, 3) := by decide +kernel
theorem dX2_record_16 : decode cX2_record 16 = .ok (.aload_n 0, 1) := by decide +kernel
theorem dX2_record_17 : decode cX2_record 17 = .ok (.getfield 18, 3) := by decide +kernel
theorem dX2_record_20 : decode cX2_record 20 = .ok (.aaload, 1) := by decide +kernel
theorem dX2_record_21 : decode cX2_record 21 = .ok (.aload_n 1, 1) := by decide +kernel
theorem dX2_record_22 : decode cX2_record 22 = .ok (.invokevirtual 25, 3) := by decide +kernel
theorem dX2_record_25 : decode cX2_record 25 = .ok (.aload_n 0, 1) := by decide +kernel
theorem dX2_record_26 : decode cX2_record 26 = .ok (.dup, 1) := by decide +kernel
theorem dX2_record_27 : decode cX2_record 27 = .ok (.getfield 18, 3) := by decide +kernel
theorem dX2_record_30 : decode cX2_record 30 = .ok (.iconst 1, 1) := by decide +kernel
theorem dX2_record_31 : decode cX2_record 31 = .ok (.iadd, 1) := by decide +kernel
theorem dX2_record_32 : decode cX2_record 32 = .ok (.putfield 18, 3) := by decide +kernel
theorem dX2_record_35 : decode cX2_record 35 = .ok (.return_, 1) := by decide +kernel
theorem dX2_dropOldest_0 : decode cX2_dropOldest 0 = .ok (.aload_n 0, 1) := by decide +kernel
theorem dX2_dropOldest_1 : decode cX2_dropOldest 1 = .ok (.getfield 11, 3) := by decide +kernel
theorem dX2_dropOldest_4 : decode cX2_dropOldest 4 = .ok (.iconst 0, 1) := by decide +kernel
theorem dX2_dropOldest_5 : decode cX2_dropOldest 5 = .ok (.aaload, 1) := by decide +kernel
theorem dX2_dropOldest_6 : decode cX2_dropOldest 6 = .ok (.astore_n 1, 1) := by decide +kernel
theorem dX2_dropOldest_7 : decode cX2_dropOldest 7 = .ok (.iconst 1, 1) := by decide +kernel
theorem dX2_dropOldest_8 : decode cX2_dropOldest 8 = .ok (.istore_n 2, 1) := by decide +kernel
theorem dX2_dropOldest_9 : decode cX2_dropOldest 9 = .ok (.iload_n 2, 1) := by decide +kernel
theorem dX2_dropOldest_10 : decode cX2_dropOldest 10 = .ok (.iconst 4, 1) := by decide +kernel
theorem dX2_dropOldest_11 : decode cX2_dropOldest 11 = .ok (.if_icmp .ge 23, 3) := by decide +kernel
theorem dX2_dropOldest_14 : decode cX2_dropOldest 14 = .ok (.aload_n 0, 1) := by decide +kernel
theorem dX2_dropOldest_15 : decode cX2_dropOldest 15 = .ok (.getfield 11, 3) := by decide +kernel
theorem dX2_dropOldest_18 : decode cX2_dropOldest 18 = .ok (.iload_n 2, 1) := by decide +kernel
theorem dX2_dropOldest_19 : decode cX2_dropOldest 19 = .ok (.iconst 1, 1) := by decide +kernel
theorem dX2_dropOldest_20 : decode cX2_dropOldest 20 = .ok (.isub, 1) := by decide +kernel
theorem dX2_dropOldest_21 : decode cX2_dropOldest 21 = .ok (.aload_n 0, 1) := by decide +kernel
theorem dX2_dropOldest_22 : decode cX2_dropOldest 22 = .ok (.getfield 11, 3) := by decide +kernel
theorem dX2_dropOldest_25 : decode cX2_dropOldest 25 = .ok (.iload_n 2, 1) := by decide +kernel
theorem dX2_dropOldest_26 : decode cX2_dropOldest 26 = .ok (.aaload, 1) := by decide +kernel
theorem dX2_dropOldest_27 : decode cX2_dropOldest 27 = .ok (.aastore, 1) := by decide +kernel
theorem dX2_dropOldest_28 : decode cX2_dropOldest 28 = .ok (.iinc 2 1, 3) := by decide +kernel
theorem dX2_dropOldest_31 : decode cX2_dropOldest 31 = .ok (.goto (-22), 3) := by decide +kernel
theorem dX2_dropOldest_34 : decode cX2_dropOldest 34 = .ok (.aload_n 0, 1) := by decide +kernel
theorem dX2_dropOldest_35 : decode cX2_dropOldest 35 = .ok (.getfield 11, 3) := by decide +kernel
theorem dX2_dropOldest_38 : decode cX2_dropOldest 38 = .ok (.iconst 3, 1) := by decide +kernel
theorem dX2_dropOldest_39 : decode cX2_dropOldest 39 = .ok (.aload_n 1, 1) := by decide +kernel
theorem dX2_dropOldest_40 : decode cX2_dropOldest 40 = .ok (.aastore, 1) := by decide +kernel
theorem dX2_dropOldest_41 : decode cX2_dropOldest 41 = .ok (.aload_n 0, 1) := by decide +kernel
theorem dX2_dropOldest_42 : decode cX2_dropOldest 42 = .ok (.iconst 3, 1) := by decide +kernel
theorem dX2_dropOldest_43 : decode cX2_dropOldest 43 = .ok (.putfield 18, 3) := by decide +kernel
theorem dX2_dropOldest_46 : decode cX2_dropOldest 46 = .ok (.return_, 1) := by decide +kernel
theorem dX2_bringBack_0 : decode cX2_bringBack 0 = .ok (.aload_n 0, 1) := by decide +kernel
theorem dX2_bringBack_1 : decode cX2_bringBack 1 = .ok (.getfield 18, 3) := by decide +kernel
theorem dX2_bringBack_4 : decode cX2_bringBack 4 = .ok (.ifCond .le 26, 3) := by decide +kernel
theorem dX2_bringBack_7 : decode cX2_bringBack 7 = .ok (.aload_n 0, 1) := by decide +kernel
theorem dX2_bringBack_8 : decode cX2_bringBack 8 = .ok (.dup, 1) := by decide +kernel
theorem dX2_bringBack_9 : decode cX2_bringBack 9 = .ok (.getfield 18, 3) := by decide +kernel
theorem dX2_bringBack_12 : decode cX2_bringBack 12 = .ok (.iconst 1, 1) := by decide +kernel
theorem dX2_bringBack_13 : decode cX2_bringBack 13 = .ok (.isub, 1) := by decide +kernel
theorem dX2_bringBack_14 : decode cX2_bringBack 14 = .ok (.putfield 18, 3) := by decide +kernel
theorem dX2_bringBack_17 : decode cX2_bringBack 17 = .ok (.aload_n 1, 1) := by decide +kernel
theorem dX2_bringBack_18 : decode cX2_bringBack 18 = .ok (.aload_n 0, 1) := by decide +kernel
theorem dX2_bringBack_19 : decode cX2_bringBack 19 = .ok (.getfield 11, 3) := by decide +kernel
theorem dX2_bringBack_22 : decode cX2_bringBack 22 = .ok (.aload_n 0, 1) := by decide +kernel
theorem dX2_bringBack_23 : decode cX2_bringBack 23 = .ok (.getfield 18, 3) := by decide +kernel
theorem dX2_bringBack_26 : decode cX2_bringBack 26 = .ok (.aaload, 1) := by decide +kernel
theorem dX2_bringBack_27 : decode cX2_bringBack 27 = .ok (.invokevirtual 25, 3) := by decide +kernel
theorem dX2_bringBack_30 : decode cX2_bringBack 30 = .ok (.return_, 1) := by decide +kernel
theorem dX3_init_0 : decode cX3_init 0 = .ok (.aload_n 0, 1) := by decide +kernel
theorem dX3_init_1 : decode cX3_init 1 = .ok (.invokespecial 3, 3) := by decide +kernel
theorem dX3_init_4 : decode cX3_init 4 = .ok (.aload_n 0, 1) := by decide +kernel
theorem dX3_init_5 : decode cX3_init 5 = .ok (.bipush 12, 2) := by decide +kernel
theorem dX3_init_7 : decode cX3_init 7 = .ok (.newarray .int, 2) := by decide +kernel
theorem dX3_init_9 : decode cX3_init 9 = .ok (.putfield 9, 3) := by decide +kernel
theorem dX3_init_12 : decode cX3_init 12 = .ok (.return_, 1) := by decide +kernel
theorem dX3_begin_0 : decode cX3_begin 0 = .ok (.aload_n 0, 1) := by decide +kernel
theorem dX3_begin_1 : decode cX3_begin 1 = .ok (.iconst 0, 1) := by decide +kernel
theorem dX3_begin_2 : decode cX3_begin 2 = .ok (.putfield 15, 3) := by decide +kernel
theorem dX3_begin_5 : decode cX3_begin 5 = .ok (.aload_n 0, 1) := by decide +kernel
theorem dX3_begin_6 : decode cX3_begin 6 = .ok (.iload_n 1, 1) := by decide +kernel
theorem dX3_begin_7 : decode cX3_begin 7 = .ok (.putfield 19, 3) := by decide +kernel
theorem dX3_begin_10 : decode cX3_begin 10 = .ok (.aload_n 0, 1) := by decide +kernel
theorem dX3_begin_11 : decode cX3_begin 11 = .ok (.iload_n 2, 1) := by decide +kernel
theorem dX3_begin_12 : decode cX3_begin 12 = .ok (.putfield 22, 3) := by decide +kernel
theorem dX3_begin_15 : decode cX3_begin 15 = .ok (.aload_n 0, 1) := by decide +kernel
theorem dX3_begin_16 : decode cX3_begin 16 = .ok (.iconst 0, 1) := by decide +kernel
theorem dX3_begin_17 : decode cX3_begin 17 = .ok (.putfield 25, 3) := by decide +kernel
theorem dX3_begin_20 : decode cX3_begin 20 = .ok (.aload_n 0, 1) := by decide +kernel
theorem dX3_begin_21 : decode cX3_begin 21 = .ok (.iconst 0, 1) := by decide +kernel
theorem dX3_begin_22 : decode cX3_begin 22 = .ok (.putfield 28, 3) := by decide +kernel
theorem dX3_begin_25 : decode cX3_begin 25 = .ok (.aload_n 0, 1) := by decide +kernel
theorem dX3_begin_26 : decode cX3_begin 26 = .ok (.iconst 0, 1) := by decide +kernel
theorem dX3_begin_27 : decode cX3_begin 27 = .ok (.putfield 31, 3) := by decide +kernel
theorem dX3_begin_30 : decode cX3_begin 30 = .ok (.aload_n 0, 1) := by decide +kernel
theorem dX3_begin_31 : decode cX3_begin 31 = .ok (.iconst 0, 1) := by decide +kernel
theorem dX3_begin_32 : decode cX3_begin 32 = .ok (.putfield 34, 3) := by decide +kernel
theorem dX3_begin_35 : decode cX3_begin 35 = .ok (.aload_n 0, 1) := by decide +kernel
theorem dX3_begin_36 : decode cX3_begin 36 = .ok (.iconst 0, 1) := by decide +kernel
theorem dX3_begin_37 : decode cX3_begin 37 = .ok (.putfield 37, 3) := by decide +kernel
theorem dX3_begin_40 : decode cX3_begin 40 = .ok (.return_, 1) := by decide +kernel
theorem dX3_copyFrom_0 : decode cX3_copyFrom 0 = .ok (.aload_n 1, 1) := by decide +kernel
theorem dX3_copyFrom_1 : decode cX3_copyFrom 1 = .ok (.getfield 9, 3) := by decide +kernel
theorem dX3_copyFrom_4 : decode cX3_copyFrom 4 = .ok (.iconst 0, 1) := by decide +kernel
theorem dX3_copyFrom_5 : decode cX3_copyFrom 5 = .ok (.aload_n 0, 1) := by decide +kernel
theorem dX3_copyFrom_6 : decode cX3_copyFrom 6 = .ok (.getfield 9, 3) := by decide +kernel
theorem dX3_copyFrom_9 : decode cX3_copyFrom 9 = .ok (.iconst 0, 1) := by decide +kernel
theorem dX3_copyFrom_10 : decode cX3_copyFrom 10 = .ok (.bipush 12, 2) := by decide +kernel
theorem dX3_copyFrom_12 : decode cX3_copyFrom 12 = .ok (.invokestatic 41, 3) := by decide +kernel
theorem dX3_copyFrom_15 : decode cX3_copyFrom 15 = .ok (.aload_n 0, 1) := by decide +kernel
theorem dX3_copyFrom_16 : decode cX3_copyFrom 16 = .ok (.aload_n 1, 1) := by decide +kernel
theorem dX3_copyFrom_17 : decode cX3_copyFrom 17 = .ok (.getfield 15, 3) := by decide +kernel
theorem dX3_copyFrom_20 : decode cX3_copyFrom 20 = .ok (.putfield 15, 3) := by decide +kernel
theorem dX3_copyFrom_23 : decode cX3_copyFrom 23 = .ok (.aload_n 0, 1) := by decide +kernel
theorem dX3_copyFrom_24 : decode cX3_copyFrom 24 = .ok (.aload_n 1, 1) := by decide +kernel
theorem dX3_copyFrom_25 : decode cX3_copyFrom 25 = .ok (.getfield 19, 3) := by decide +kernel
theorem dX3_copyFrom_28 : decode cX3_copyFrom 28 = .ok (.putfield 19, 3) := by decide +kernel
theorem dX3_copyFrom_31 : decode cX3_copyFrom 31 = .ok (.aload_n 0, 1) := by decide +kernel
theorem dX3_copyFrom_32 : decode cX3_copyFrom 32 = .ok (.aload_n 1, 1) := by decide +kernel
theorem dX3_copyFrom_33 : decode cX3_copyFrom 33 = .ok (.getfield 22, 3) := by decide +kernel
theorem dX3_copyFrom_36 : decode cX3_copyFrom 36 = .ok (.putfield 22, 3) := by decide +kernel
theorem dX3_copyFrom_39 : decode cX3_copyFrom 39 = .ok (.aload_n 0, 1) := by decide +kernel
theorem dX3_copyFrom_40 : decode cX3_copyFrom 40 = .ok (.aload_n 1, 1) := by decide +kernel
theorem dX3_copyFrom_41 : decode cX3_copyFrom 41 = .ok (.getfield 25, 3) := by decide +kernel
theorem dX3_copyFrom_44 : decode cX3_copyFrom 44 = .ok (.putfield 25, 3) := by decide +kernel
theorem dX3_copyFrom_47 : decode cX3_copyFrom 47 = .ok (.aload_n 0, 1) := by decide +kernel
theorem dX3_copyFrom_48 : decode cX3_copyFrom 48 = .ok (.aload_n 1, 1) := by decide +kernel
theorem dX3_copyFrom_49 : decode cX3_copyFrom 49 = .ok (.getfield 28, 3) := by decide +kernel
theorem dX3_copyFrom_52 : decode cX3_copyFrom 52 = .ok (.putfield 28, 3) := by decide +kernel
theorem dX3_copyFrom_55 : decode cX3_copyFrom 55 = .ok (.aload_n 0, 1) := by decide +kernel
theorem dX3_copyFrom_56 : decode cX3_copyFrom 56 = .ok (.aload_n 1, 1) := by decide +kernel
theorem dX3_copyFrom_57 : decode cX3_copyFrom 57 = .ok (.getfield 31, 3) := by decide +kernel
theorem dX3_copyFrom_60 : decode cX3_copyFrom 60 = .ok (.putfield 31, 3) := by decide +kernel
theorem dX3_copyFrom_63 : decode cX3_copyFrom 63 = .ok (.aload_n 0, 1) := by decide +kernel
theorem dX3_copyFrom_64 : decode cX3_copyFrom 64 = .ok (.aload_n 1, 1) := by decide +kernel
theorem dX3_copyFrom_65 : decode cX3_copyFrom 65 = .ok (.getfield 34, 3) := by decide +kernel
theorem dX3_copyFrom_68 : decode cX3_copyFrom 68 = .ok (.putfield 34, 3) := by decide +kernel
theorem dX3_copyFrom_71 : decode cX3_copyFrom 71 = .ok (.aload_n 0, 1) := by decide +kernel
theorem dX3_copyFrom_72 : decode cX3_copyFrom 72 = .ok (.aload_n 1, 1) := by decide +kernel
theorem dX3_copyFrom_73 : decode cX3_copyFrom 73 = .ok (.getfield 37, 3) := by decide +kernel
theorem dX3_copyFrom_76 : decode cX3_copyFrom 76 = .ok (.putfield 37, 3) := by decide +kernel
theorem dX3_copyFrom_79 : decode cX3_copyFrom 79 = .ok (.return_, 1) := by decide +kernel
theorem dX3_isOpen_0 : decode cX3_isOpen 0 = .ok (.aload_n 0, 1) := by decide +kernel
theorem dX3_isOpen_1 : decode cX3_isOpen 1 = .ok (.getfield 15, 3) := by decide +kernel
theorem dX3_isOpen_4 : decode cX3_isOpen 4 = .ok (.ifCond .ne 7, 3) := by decide +kernel
theorem dX3_isOpen_7 : decode cX3_isOpen 7 = .ok (.iconst 1, 1) := by decide +kernel
theorem dX3_isOpen_8 : decode cX3_isOpen 8 = .ok (.goto 4, 3) := by decide +kernel
theorem dX3_isOpen_11 : decode cX3_isOpen 11 = .ok (.iconst 0, 1) := by decide +kernel
theorem dX3_isOpen_12 : decode cX3_isOpen 12 = .ok (.ireturn, 1) := by decide +kernel
theorem dX3_isOpenWidow_0 : decode cX3_isOpenWidow 0 = .ok (.aload_n 0, 1) := by decide +kernel
theorem dX3_isOpenWidow_1 : decode cX3_isOpenWidow 1 = .ok (.getfield 15, 3) := by decide +kernel
theorem dX3_isOpenWidow_4 : decode cX3_isOpenWidow 4 = .ok (.ifCond .ne 14, 3) := by decide +kernel
theorem dX3_isOpenWidow_7 : decode cX3_isOpenWidow 7 = .ok (.aload_n 0, 1) := by decide +kernel
theorem dX3_isOpenWidow_8 : decode cX3_isOpenWidow 8 = .ok (.getfield 31, 3) := by decide +kernel
theorem dX3_isOpenWidow_11 : decode cX3_isOpenWidow 11 = .ok (.ifCond .le 7, 3) := by decide +kernel
theorem dX3_isOpenWidow_14 : decode cX3_isOpenWidow 14 = .ok (.iconst 1, 1) := by decide +kernel
theorem dX3_isOpenWidow_15 : decode cX3_isOpenWidow 15 = .ok (.goto 4, 3) := by decide +kernel
theorem dX3_isOpenWidow_18 : decode cX3_isOpenWidow 18 = .ok (.iconst 0, 1) := by decide +kernel
theorem dX3_isOpenWidow_19 : decode cX3_isOpenWidow 19 = .ok (.ireturn, 1) := by decide +kernel
theorem dX3_paysRent_0 : decode cX3_paysRent 0 = .ok (.aload_n 0, 1) := by decide +kernel
theorem dX3_paysRent_1 : decode cX3_paysRent 1 = .ok (.getfield 15, 3) := by decide +kernel
theorem dX3_paysRent_4 : decode cX3_paysRent 4 = .ok (.ifCond .ne 14, 3) := by decide +kernel
theorem dX3_paysRent_7 : decode cX3_paysRent 7 = .ok (.aload_n 0, 1) := by decide +kernel
theorem dX3_paysRent_8 : decode cX3_paysRent 8 = .ok (.getfield 31, 3) := by decide +kernel
theorem dX3_paysRent_11 : decode cX3_paysRent 11 = .ok (.ifCond .ne 7, 3) := by decide +kernel
theorem dX3_paysRent_14 : decode cX3_paysRent 14 = .ok (.iconst 1, 1) := by decide +kernel
theorem dX3_paysRent_15 : decode cX3_paysRent 15 = .ok (.goto 4, 3) := by decide +kernel
theorem dX3_paysRent_18 : decode cX3_paysRent 18 = .ok (.iconst 0, 1) := by decide +kernel
theorem dX3_paysRent_19 : decode cX3_paysRent 19 = .ok (.ireturn, 1) := by decide +kernel
theorem dX3_hasWrite_0 : decode cX3_hasWrite 0 = .ok (.aload_n 0, 1) := by decide +kernel
theorem dX3_hasWrite_1 : decode cX3_hasWrite 1 = .ok (.getfield 28, 3) := by decide +kernel
theorem dX3_hasWrite_4 : decode cX3_hasWrite 4 = .ok (.iload_n 1, 1) := by decide +kernel
theorem dX3_hasWrite_5 : decode cX3_hasWrite 5 = .ok (.ishr, 1) := by decide +kernel
theorem dX3_hasWrite_6 : decode cX3_hasWrite 6 = .ok (.iconst 1, 1) := by decide +kernel
theorem dX3_hasWrite_7 : decode cX3_hasWrite 7 = .ok (.iand, 1) := by decide +kernel
theorem dX3_hasWrite_8 : decode cX3_hasWrite 8 = .ok (.ifCond .eq 7, 3) := by decide +kernel
theorem dX3_hasWrite_11 : decode cX3_hasWrite 11 = .ok (.iconst 1, 1) := by decide +kernel
theorem dX3_hasWrite_12 : decode cX3_hasWrite 12 = .ok (.goto 4, 3) := by decide +kernel
theorem dX3_hasWrite_15 : decode cX3_hasWrite 15 = .ok (.iconst 0, 1) := by decide +kernel
theorem dX3_hasWrite_16 : decode cX3_hasWrite 16 = .ok (.ireturn, 1) := by decide +kernel
theorem dX3_putWrite_0 : decode cX3_putWrite 0 = .ok (.aload_n 0, 1) := by decide +kernel
theorem dX3_putWrite_1 : decode cX3_putWrite 1 = .ok (.getfield 9, 3) := by decide +kernel
theorem dX3_putWrite_4 : decode cX3_putWrite 4 = .ok (.iload_n 1, 1) := by decide +kernel
theorem dX3_putWrite_5 : decode cX3_putWrite 5 = .ok (.iload_n 2, 1) := by decide +kernel
theorem dX3_putWrite_6 : decode cX3_putWrite 6 = .ok (.iastore, 1) := by decide +kernel
theorem dX3_putWrite_7 : decode cX3_putWrite 7 = .ok (.aload_n 0, 1) := by decide +kernel
theorem dX3_putWrite_8 : decode cX3_putWrite 8 = .ok (.dup, 1) := by decide +kernel
theorem dX3_putWrite_9 : decode cX3_putWrite 9 = .ok (.getfield 28, 3) := by decide +kernel
theorem dX3_putWrite_12 : decode cX3_putWrite 12 = .ok (.iconst 1, 1) := by decide +kernel
theorem dX3_putWrite_13 : decode cX3_putWrite 13 = .ok (.iload_n 1, 1) := by decide +kernel
theorem dX3_putWrite_14 : decode cX3_putWrite 14 = .ok (.ishl, 1) := by decide +kernel
theorem dX3_putWrite_15 : decode cX3_putWrite 15 = .ok (.ior, 1) := by decide +kernel
theorem dX3_putWrite_16 : decode cX3_putWrite 16 = .ok (.putfield 28, 3) := by decide +kernel
theorem dX3_putWrite_19 : decode cX3_putWrite 19 = .ok (.return_, 1) := by decide +kernel
theorem dX3_numberOfWrites_0 : decode cX3_numberOfWrites 0 = .ok (.aload_n 0, 1) := by decide +kernel
theorem dX3_numberOfWrites_1 : decode cX3_numberOfWrites 1 = .ok (.getfield 28, 3) := by decide +kernel
theorem dX3_numberOfWrites_4 : decode cX3_numberOfWrites 4 = .ok (.invokestatic 47, 3) := by decide +kernel
theorem dX3_numberOfWrites_7 : decode cX3_numberOfWrites 7 = .ok (.ireturn, 1) := by decide +kernel
theorem dX4_init_0 : decode cX4_init 0 = .ok (.aload_n 0, 1) := by decide +kernel
theorem dX4_init_1 : decode cX4_init 1 = .ok (.invokespecial 3, 3) := by decide +kernel
theorem dX4_init_4 : decode cX4_init 4 = .ok (.aload_n 0, 1) := by decide +kernel
theorem dX4_init_5 : decode cX4_init 5 = .ok (.bipush 12, 2) := by decide +kernel
theorem dX4_init_7 : decode cX4_init 7 = .ok (.anewarray 9, 3) := by decide +kernel
theorem dX4_init_10 : decode cX4_init 10 = .ok (.putfield 11, 3) := by decide +kernel
theorem dX4_init_13 : decode cX4_init 13 = .ok (.aload_n 0, 1) := by decide +kernel
theorem dX4_init_14 : decode cX4_init 14 = .ok (.bipush 40, 2) := by decide +kernel
theorem dX4_init_16 : decode cX4_init 16 = .ok (.anewarray 17, 3) := by decide +kernel
theorem dX4_init_19 : decode cX4_init 19 = .ok (.putfield 19, 3) := by decide +kernel
theorem dX4_init_22 : decode cX4_init 22 = .ok (.aload_n 0, 1) := by decide +kernel
theorem dX4_init_23 : decode cX4_init 23 = .ok (.bipush 40, 2) := by decide +kernel
theorem dX4_init_25 : decode cX4_init 25 = .ok (.anewarray 23, 3) := by decide +kernel
theorem dX4_init_28 : decode cX4_init 28 = .ok (.putfield 25, 3) := by decide +kernel
theorem dX4_init_31 : decode cX4_init 31 = .ok (.aload_n 0, 1) := by decide +kernel
theorem dX4_init_32 : decode cX4_init 32 = .ok (.iconst 4, 1) := by decide +kernel
theorem dX4_init_33 : decode cX4_init 33 = .ok (.putfield 29, 3) := by decide +kernel
theorem dX4_init_36 : decode cX4_init 36 = .ok (.aload_n 0, 1) := by decide +kernel
theorem dX4_init_37 : decode cX4_init 37 = .ok (.bipush 40, 2) := by decide +kernel
theorem dX4_init_39 : decode cX4_init 39 = .ok (.newarray .int, 2) := by decide +kernel
theorem dX4_init_41 : decode cX4_init 41 = .ok (.putfield 33, 3) := by decide +kernel
theorem dX4_init_44 : decode cX4_init 44 = .ok (.iconst 0, 1) := by decide +kernel
theorem dX4_init_45 : decode cX4_init 45 = .ok (.istore_n 1, 1) := by decide +kernel
theorem dX4_init_46 : decode cX4_init 46 = .ok (.iload_n 1, 1) := by decide +kernel
theorem dX4_init_47 : decode cX4_init 47 = .ok (.bipush 12, 2) := by decide +kernel
theorem dX4_init_49 : decode cX4_init 49 = .ok (.if_icmp .ge 22, 3) := by decide +kernel
theorem dX4_init_52 : decode cX4_init 52 = .ok (.aload_n 0, 1) := by decide +kernel
theorem dX4_init_53 : decode cX4_init 53 = .ok (.getfield 11, 3) := by decide +kernel
theorem dX4_init_56 : decode cX4_init 56 = .ok (.iload_n 1, 1) := by decide +kernel
theorem dX4_init_57 : decode cX4_init 57 = .ok (.new 9, 3) := by decide +kernel
theorem dX4_init_60 : decode cX4_init 60 = .ok (.dup, 1) := by decide +kernel
theorem dX4_init_61 : decode cX4_init 61 = .ok (.invokespecial 37, 3) := by decide +kernel
theorem dX4_init_64 : decode cX4_init 64 = .ok (.aastore, 1) := by decide +kernel
theorem dX4_init_65 : decode cX4_init 65 = .ok (.iinc 1 1, 3) := by decide +kernel
theorem dX4_init_68 : decode cX4_init 68 = .ok (.goto (-22), 3) := by decide +kernel
theorem dX4_init_71 : decode cX4_init 71 = .ok (.iconst 0, 1) := by decide +kernel
theorem dX4_init_72 : decode cX4_init 72 = .ok (.istore_n 1, 1) := by decide +kernel
theorem dX4_init_73 : decode cX4_init 73 = .ok (.iload_n 1, 1) := by decide +kernel
theorem dX4_init_74 : decode cX4_init 74 = .ok (.bipush 40, 2) := by decide +kernel
theorem dX4_init_76 : decode cX4_init 76 = .ok (.if_icmp .ge 35, 3) := by decide +kernel
theorem dX4_init_79 : decode cX4_init 79 = .ok (.aload_n 0, 1) := by decide +kernel
theorem dX4_init_80 : decode cX4_init 80 = .ok (.getfield 19, 3) := by decide +kernel
theorem dX4_init_83 : decode cX4_init 83 = .ok (.iload_n 1, 1) := by decide +kernel
theorem dX4_init_84 : decode cX4_init 84 = .ok (.new 17, 3) := by decide +kernel
theorem dX4_init_87 : decode cX4_init 87 = .ok (.dup, 1) := by decide +kernel
theorem dX4_init_88 : decode cX4_init 88 = .ok (.invokespecial 38, 3) := by decide +kernel
theorem dX4_init_91 : decode cX4_init 91 = .ok (.aastore, 1) := by decide +kernel
theorem dX4_init_92 : decode cX4_init 92 = .ok (.aload_n 0, 1) := by decide +kernel
theorem dX4_init_93 : decode cX4_init 93 = .ok (.getfield 25, 3) := by decide +kernel
theorem dX4_init_96 : decode cX4_init 96 = .ok (.iload_n 1, 1) := by decide +kernel
theorem dX4_init_97 : decode cX4_init 97 = .ok (.new 23, 3) := by decide +kernel
theorem dX4_init_100 : decode cX4_init 100 = .ok (.dup, 1) := by decide +kernel
theorem dX4_init_101 : decode cX4_init 101 = .ok (.invokespecial 39, 3) := by decide +kernel
theorem dX4_init_104 : decode cX4_init 104 = .ok (.aastore, 1) := by decide +kernel
theorem dX4_init_105 : decode cX4_init 105 = .ok (.iinc 1 1, 3) := by decide +kernel
theorem dX4_init_108 : decode cX4_init 108 = .ok (.goto (-35), 3) := by decide +kernel
theorem dX4_init_111 : decode cX4_init 111 = .ok (.return_, 1) := by decide +kernel
theorem dX4_copyFrom_0 : decode cX4_copyFrom 0 = .ok (.iconst 0, 1) := by decide +kernel
theorem dX4_copyFrom_1 : decode cX4_copyFrom 1 = .ok (.istore_n 2, 1) := by decide +kernel
theorem dX4_copyFrom_2 : decode cX4_copyFrom 2 = .ok (.iload_n 2, 1) := by decide +kernel
theorem dX4_copyFrom_3 : decode cX4_copyFrom 3 = .ok (.bipush 12, 2) := by decide +kernel
theorem dX4_copyFrom_5 : decode cX4_copyFrom 5 = .ok (.if_icmp .ge 24, 3) := by decide +kernel
theorem dX4_copyFrom_8 : decode cX4_copyFrom 8 = .ok (.aload_n 0, 1) := by decide +kernel
theorem dX4_copyFrom_9 : decode cX4_copyFrom 9 = .ok (.getfield 11, 3) := by decide +kernel
theorem dX4_copyFrom_12 : decode cX4_copyFrom 12 = .ok (.iload_n 2, 1) := by decide +kernel
theorem dX4_copyFrom_13 : decode cX4_copyFrom 13 = .ok (.aaload, 1) := by decide +kernel
theorem dX4_copyFrom_14 : decode cX4_copyFrom 14 = .ok (.aload_n 1, 1) := by decide +kernel
theorem dX4_copyFrom_15 : decode cX4_copyFrom 15 = .ok (.getfield 11, 3) := by decide +kernel
theorem dX4_copyFrom_18 : decode cX4_copyFrom 18 = .ok (.iload_n 2, 1) := by decide +kernel
theorem dX4_copyFrom_19 : decode cX4_copyFrom 19 = .ok (.aaload, 1) := by decide +kernel
theorem dX4_copyFrom_20 : decode cX4_copyFrom 20 = .ok (.invokevirtual 40, 3) := by decide +kernel
theorem dX4_copyFrom_23 : decode cX4_copyFrom 23 = .ok (.iinc 2 1, 3) := by decide +kernel
theorem dX4_copyFrom_26 : decode cX4_copyFrom 26 = .ok (.goto (-24), 3) := by decide +kernel
theorem dX4_copyFrom_29 : decode cX4_copyFrom 29 = .ok (.iconst 0, 1) := by decide +kernel
theorem dX4_copyFrom_30 : decode cX4_copyFrom 30 = .ok (.istore_n 2, 1) := by decide +kernel
theorem dX4_copyFrom_31 : decode cX4_copyFrom 31 = .ok (.iload_n 2, 1) := by decide +kernel
theorem dX4_copyFrom_32 : decode cX4_copyFrom 32 = .ok (.aload_n 1, 1) := by decide +kernel
theorem dX4_copyFrom_33 : decode cX4_copyFrom 33 = .ok (.getfield 44, 3) := by decide +kernel
theorem dX4_copyFrom_36 : decode cX4_copyFrom 36 = .ok (.if_icmp .ge 24, 3) := by decide +kernel
theorem dX4_copyFrom_39 : decode cX4_copyFrom 39 = .ok (.aload_n 0, 1) := by decide +kernel
theorem dX4_copyFrom_40 : decode cX4_copyFrom 40 = .ok (.getfield 19, 3) := by decide +kernel
theorem dX4_copyFrom_43 : decode cX4_copyFrom 43 = .ok (.iload_n 2, 1) := by decide +kernel
theorem dX4_copyFrom_44 : decode cX4_copyFrom 44 = .ok (.aaload, 1) := by decide +kernel
theorem dX4_copyFrom_45 : decode cX4_copyFrom 45 = .ok (.aload_n 1, 1) := by decide +kernel
theorem dX4_copyFrom_46 : decode cX4_copyFrom 46 = .ok (.getfield 19, 3) := by decide +kernel
theorem dX4_copyFrom_49 : decode cX4_copyFrom 49 = .ok (.iload_n 2, 1) := by decide +kernel
theorem dX4_copyFrom_50 : decode cX4_copyFrom 50 = .ok (.aaload, 1) := by decide +kernel
theorem dX4_copyFrom_51 : decode cX4_copyFrom 51 = .ok (.invokevirtual 47, 3) := by decide +kernel
theorem dX4_copyFrom_54 : decode cX4_copyFrom 54 = .ok (.iinc 2 1, 3) := by decide +kernel
theorem dX4_copyFrom_57 : decode cX4_copyFrom 57 = .ok (.goto (-26), 3) := by decide +kernel
theorem dX4_copyFrom_60 : decode cX4_copyFrom 60 = .ok (.iconst 0, 1) := by decide +kernel
theorem dX4_copyFrom_61 : decode cX4_copyFrom 61 = .ok (.istore_n 2, 1) := by decide +kernel
theorem dX4_copyFrom_62 : decode cX4_copyFrom 62 = .ok (.iload_n 2, 1) := by decide +kernel
theorem dX4_copyFrom_63 : decode cX4_copyFrom 63 = .ok (.aload_n 1, 1) := by decide +kernel
theorem dX4_copyFrom_64 : decode cX4_copyFrom 64 = .ok (.getfield 50, 3) := by decide +kernel
theorem dX4_copyFrom_67 : decode cX4_copyFrom 67 = .ok (.if_icmp .ge 24, 3) := by decide +kernel
theorem dX4_copyFrom_70 : decode cX4_copyFrom 70 = .ok (.aload_n 0, 1) := by decide +kernel
theorem dX4_copyFrom_71 : decode cX4_copyFrom 71 = .ok (.getfield 25, 3) := by decide +kernel
theorem dX4_copyFrom_74 : decode cX4_copyFrom 74 = .ok (.iload_n 2, 1) := by decide +kernel
theorem dX4_copyFrom_75 : decode cX4_copyFrom 75 = .ok (.aaload, 1) := by decide +kernel
theorem dX4_copyFrom_76 : decode cX4_copyFrom 76 = .ok (.aload_n 1, 1) := by decide +kernel
theorem dX4_copyFrom_77 : decode cX4_copyFrom 77 = .ok (.getfield 25, 3) := by decide +kernel
theorem dX4_copyFrom_80 : decode cX4_copyFrom 80 = .ok (.iload_n 2, 1) := by decide +kernel
theorem dX4_copyFrom_81 : decode cX4_copyFrom 81 = .ok (.aaload, 1) := by decide +kernel
theorem dX4_copyFrom_82 : decode cX4_copyFrom 82 = .ok (.invokevirtual 53, 3) := by decide +kernel
theorem dX4_copyFrom_85 : decode cX4_copyFrom 85 = .ok (.iinc 2 1, 3) := by decide +kernel
theorem dX4_copyFrom_88 : decode cX4_copyFrom 88 = .ok (.goto (-26), 3) := by decide +kernel
theorem dX4_copyFrom_91 : decode cX4_copyFrom 91 = .ok (.aload_n 0, 1) := by decide +kernel
theorem dX4_copyFrom_92 : decode cX4_copyFrom 92 = .ok (.aload_n 1, 1) := by decide +kernel
theorem dX4_copyFrom_93 : decode cX4_copyFrom 93 = .ok (.getfield 56, 3) := by decide +kernel
theorem dX4_copyFrom_96 : decode cX4_copyFrom 96 = .ok (.putfield 56, 3) := by decide +kernel
theorem dX4_copyFrom_99 : decode cX4_copyFrom 99 = .ok (.aload_n 0, 1) := by decide +kernel
theorem dX4_copyFrom_100 : decode cX4_copyFrom 100 = .ok (.aload_n 1, 1) := by decide +kernel
theorem dX4_copyFrom_101 : decode cX4_copyFrom 101 = .ok (.getfield 59, 3) := by decide +kernel
theorem dX4_copyFrom_104 : decode cX4_copyFrom 104 = .ok (.putfield 59, 3) := by decide +kernel
theorem dX4_copyFrom_107 : decode cX4_copyFrom 107 = .ok (.aload_n 0, 1) := by decide +kernel
theorem dX4_copyFrom_108 : decode cX4_copyFrom 108 = .ok (.aload_n 1, 1) := by decide +kernel
theorem dX4_copyFrom_109 : decode cX4_copyFrom 109 = .ok (.getfield 29, 3) := by decide +kernel
theorem dX4_copyFrom_112 : decode cX4_copyFrom 112 = .ok (.putfield 29, 3) := by decide +kernel
theorem dX4_copyFrom_115 : decode cX4_copyFrom 115 = .ok (.aload_n 0, 1) := by decide +kernel
theorem dX4_copyFrom_116 : decode cX4_copyFrom 116 = .ok (.aload_n 1, 1) := by decide +kernel
theorem dX4_copyFrom_117 : decode cX4_copyFrom 117 = .ok (.getfield 44, 3) := by decide +kernel
theorem dX4_copyFrom_120 : decode cX4_copyFrom 120 = .ok (.putfield 44, 3) := by decide +kernel
theorem dX4_copyFrom_123 : decode cX4_copyFrom 123 = .ok (.aload_n 0, 1) := by decide +kernel
theorem dX4_copyFrom_124 : decode cX4_copyFrom 124 = .ok (.aload_n 1, 1) := by decide +kernel
theorem dX4_copyFrom_125 : decode cX4_copyFrom 125 = .ok (.getfield 50, 3) := by decide +kernel
theorem dX4_copyFrom_128 : decode cX4_copyFrom 128 = .ok (.putfield 50, 3) := by decide +kernel
theorem dX4_copyFrom_131 : decode cX4_copyFrom 131 = .ok (.aload_n 0, 1) := by decide +kernel
theorem dX4_copyFrom_132 : decode cX4_copyFrom 132 = .ok (.aload_n 1, 1) := by decide +kernel
theorem dX4_copyFrom_133 : decode cX4_copyFrom 133 = .ok (.getfield 62, 3) := by decide +kernel
theorem dX4_copyFrom_136 : decode cX4_copyFrom 136 = .ok (.putfield 62, 3) := by decide +kernel
theorem dX4_copyFrom_139 : decode cX4_copyFrom 139 = .ok (.aload_n 0, 1) := by decide +kernel
theorem dX4_copyFrom_140 : decode cX4_copyFrom 140 = .ok (.aload_n 1, 1) := by decide +kernel
theorem dX4_copyFrom_141 : decode cX4_copyFrom 141 = .ok (.getfield 65, 3) := by decide +kernel
theorem dX4_copyFrom_144 : decode cX4_copyFrom 144 = .ok (.putfield 65, 3) := by decide +kernel
theorem dX4_copyFrom_147 : decode cX4_copyFrom 147 = .ok (.return_, 1) := by decide +kernel
theorem dX4_hasReader_0 : decode cX4_hasReader 0 = .ok (.iload_n 1, 1) := by decide +kernel
theorem dX4_hasReader_1 : decode cX4_hasReader 1 = .ok (.ifCond .lt 15, 3) := by decide +kernel
theorem dX4_hasReader_4 : decode cX4_hasReader 4 = .ok (.iload_n 1, 1) := by decide +kernel
theorem dX4_hasReader_5 : decode cX4_hasReader 5 = .ok (.aload_n 0, 1) := by decide +kernel
theorem dX4_hasReader_6 : decode cX4_hasReader 6 = .ok (.getfield 44, 3) := by decide +kernel
theorem dX4_hasReader_9 : decode cX4_hasReader 9 = .ok (.if_icmp .ge 7, 3) := by decide +kernel
theorem dX4_hasReader_12 : decode cX4_hasReader 12 = .ok (.iconst 1, 1) := by decide +kernel
theorem dX4_hasReader_13 : decode cX4_hasReader 13 = .ok (.goto 4, 3) := by decide +kernel
theorem dX4_hasReader_16 : decode cX4_hasReader 16 = .ok (.iconst 0, 1) := by decide +kernel
theorem dX4_hasReader_17 : decode cX4_hasReader 17 = .ok (.ireturn, 1) := by decide +kernel
theorem dX4_addReader_0 : decode cX4_addReader 0 = .ok (.aload_n 0, 1) := by decide +kernel
theorem dX4_addReader_1 : decode cX4_addReader 1 = .ok (.getfield 44, 3) := by decide +kernel
theorem dX4_addReader_4 : decode cX4_addReader 4 = .ok (.istore_n 2, 1) := by decide +kernel
theorem dX4_addReader_5 : decode cX4_addReader 5 = .ok (.aload_n 0, 1) := by decide +kernel
theorem dX4_addReader_6 : decode cX4_addReader 6 = .ok (.getfield 19, 3) := by decide +kernel
theorem dX4_addReader_9 : decode cX4_addReader 9 = .ok (.iload_n 2, 1) := by decide +kernel
theorem dX4_addReader_10 : decode cX4_addReader 10 = .ok (.aaload, 1) := by decide +kernel
theorem dX4_addReader_11 : decode cX4_addReader 11 = .ok (.aload_n 0, 1) := by decide +kernel
theorem dX4_addReader_12 : decode cX4_addReader 12 = .ok (.getfield 56, 3) := by decide +kernel
theorem dX4_addReader_15 : decode cX4_addReader 15 = .ok (.iload_n 1, 1) := by decide +kernel
theorem dX4_addReader_16 : decode cX4_addReader 16 = .ok (.invokevirtual 69, 3) := by decide +kernel
theorem dX4_addReader_19 : decode cX4_addReader 19 = .ok (.aload_n 0, 1) := by decide +kernel
theorem dX4_addReader_20 : decode cX4_addReader 20 = .ok (.dup, 1) := by decide +kernel
theorem dX4_addReader_21 : decode cX4_addReader 21 = .ok (.getfield 44, 3) := by decide +kernel
theorem dX4_addReader_24 : decode cX4_addReader 24 = .ok (.iconst 1, 1) := by decide +kernel
theorem dX4_addReader_25 : decode cX4_addReader 25 = .ok (.iadd, 1) := by decide +kernel
theorem dX4_addReader_26 : decode cX4_addReader 26 = .ok (.putfield 44, 3) := by decide +kernel
theorem dX4_addReader_29 : decode cX4_addReader 29 = .ok (.iload_n 2, 1) := by decide +kernel
theorem dX4_addReader_30 : decode cX4_addReader 30 = .ok (.ireturn, 1) := by decide +kernel
theorem dX4_readersIn_0 : decode cX4_readersIn 0 = .ok (.iconst 0, 1) := by decide +kernel
theorem dX4_readersIn_1 : decode cX4_readersIn 1 = .ok (.istore_n 2, 1) := by decide +kernel
theorem dX4_readersIn_2 : decode cX4_readersIn 2 = .ok (.iconst 0, 1) := by decide +kernel
theorem dX4_readersIn_3 : decode cX4_readersIn 3 = .ok (.istore_n 3, 1) := by decide +kernel
theorem dX4_readersIn_4 : decode cX4_readersIn 4 = .ok (.iload_n 3, 1) := by decide +kernel
theorem dX4_readersIn_5 : decode cX4_readersIn 5 = .ok (.aload_n 0, 1) := by decide +kernel
theorem dX4_readersIn_6 : decode cX4_readersIn 6 = .ok (.getfield 44, 3) := by decide +kernel
theorem dX4_readersIn_9 : decode cX4_readersIn 9 = .ok (.if_icmp .ge 25, 3) := by decide +kernel
theorem dX4_readersIn_12 : decode cX4_readersIn 12 = .ok (.aload_n 0, 1) := by decide +kernel
theorem dX4_readersIn_13 : decode cX4_readersIn 13 = .ok (.getfield 19, 3) := by decide +kernel
theorem dX4_readersIn_16 : decode cX4_readersIn 16 = .ok (.iload_n 3, 1) := by decide +kernel
theorem dX4_readersIn_17 : decode cX4_readersIn 17 = .ok (.aaload, 1) := by decide +kernel
theorem dX4_readersIn_18 : decode cX4_readersIn 18 = .ok (.getfield 73, 3) := by decide +kernel
theorem dX4_readersIn_21 : decode cX4_readersIn 21 = .ok (.iload_n 1, 1) := by decide +kernel
theorem dX4_readersIn_22 : decode cX4_readersIn 22 = .ok (.if_icmp .ne 6, 3) := by decide +kernel
theorem dX4_readersIn_25 : decode cX4_readersIn 25 = .ok (.iinc 2 1, 3) := by decide +kernel
theorem dX4_readersIn_28 : decode cX4_readersIn 28 = .ok (.iinc 3 1, 3) := by decide +kernel
theorem dX4_readersIn_31 : decode cX4_readersIn 31 = .ok (.goto (-27), 3) := by decide +kernel
theorem dX4_readersIn_34 : decode cX4_readersIn 34 = .ok (.iload_n 2, 1) := by decide +kernel
theorem dX4_readersIn_35 : decode cX4_readersIn 35 = .ok (.ireturn, 1) := by decide +kernel
theorem dX4_openWidows_0 : decode cX4_openWidows 0 = .ok (.iconst 0, 1) := by decide +kernel
theorem dX4_openWidows_1 : decode cX4_openWidows 1 = .ok (.istore_n 1, 1) := by decide +kernel
theorem dX4_openWidows_2 : decode cX4_openWidows 2 = .ok (.iconst 0, 1) := by decide +kernel
theorem dX4_openWidows_3 : decode cX4_openWidows 3 = .ok (.istore_n 2, 1) := by decide +kernel
theorem dX4_openWidows_4 : decode cX4_openWidows 4 = .ok (.iload_n 2, 1) := by decide +kernel
theorem dX4_openWidows_5 : decode cX4_openWidows 5 = .ok (.aload_n 0, 1) := by decide +kernel
theorem dX4_openWidows_6 : decode cX4_openWidows 6 = .ok (.getfield 44, 3) := by decide +kernel
theorem dX4_openWidows_9 : decode cX4_openWidows 9 = .ok (.if_icmp .ge 24, 3) := by decide +kernel
theorem dX4_openWidows_12 : decode cX4_openWidows 12 = .ok (.aload_n 0, 1) := by decide +kernel
theorem dX4_openWidows_13 : decode cX4_openWidows 13 = .ok (.getfield 19, 3) := by decide +kernel
theorem dX4_openWidows_16 : decode cX4_openWidows 16 = .ok (.iload_n 2, 1) := by decide +kernel
theorem dX4_openWidows_17 : decode cX4_openWidows 17 = .ok (.aaload, 1) := by decide +kernel
theorem dX4_openWidows_18 : decode cX4_openWidows 18 = .ok (.invokevirtual 76, 3) := by decide +kernel
theorem dX4_openWidows_21 : decode cX4_openWidows 21 = .ok (.ifCond .eq 6, 3) := by decide +kernel
theorem dX4_openWidows_24 : decode cX4_openWidows 24 = .ok (.iinc 1 1, 3) := by decide +kernel
theorem dX4_openWidows_27 : decode cX4_openWidows 27 = .ok (.iinc 2 1, 3) := by decide +kernel
theorem dX4_openWidows_30 : decode cX4_openWidows 30 = .ok (.goto (-26), 3) := by decide +kernel
theorem dX4_openWidows_33 : decode cX4_openWidows 33 = .ok (.iload_n 1, 1) := by decide +kernel
theorem dX4_openWidows_34 : decode cX4_openWidows 34 = .ok (.ireturn, 1) := by decide +kernel
theorem dX4_coinsPaid_0 : decode cX4_coinsPaid 0 = .ok (.iconst 0, 1) := by decide +kernel
theorem dX4_coinsPaid_1 : decode cX4_coinsPaid 1 = .ok (.istore_n 1, 1) := by decide +kernel
theorem dX4_coinsPaid_2 : decode cX4_coinsPaid 2 = .ok (.iconst 0, 1) := by decide +kernel
theorem dX4_coinsPaid_3 : decode cX4_coinsPaid 3 = .ok (.istore_n 2, 1) := by decide +kernel
theorem dX4_coinsPaid_4 : decode cX4_coinsPaid 4 = .ok (.iload_n 2, 1) := by decide +kernel
theorem dX4_coinsPaid_5 : decode cX4_coinsPaid 5 = .ok (.aload_n 0, 1) := by decide +kernel
theorem dX4_coinsPaid_6 : decode cX4_coinsPaid 6 = .ok (.getfield 44, 3) := by decide +kernel
theorem dX4_coinsPaid_9 : decode cX4_coinsPaid 9 = .ok (.if_icmp .ge 21, 3) := by decide +kernel
theorem dX4_coinsPaid_12 : decode cX4_coinsPaid 12 = .ok (.iload_n 1, 1) := by decide +kernel
theorem dX4_coinsPaid_13 : decode cX4_coinsPaid 13 = .ok (.aload_n 0, 1) := by decide +kernel
theorem dX4_coinsPaid_14 : decode cX4_coinsPaid 14 = .ok (.getfield 19, 3) := by decide +kernel
theorem dX4_coinsPaid_17 : decode cX4_coinsPaid 17 = .ok (.iload_n 2, 1) := by decide +kernel
theorem dX4_coinsPaid_18 : decode cX4_coinsPaid 18 = .ok (.aaload, 1) := by decide +kernel
theorem dX4_coinsPaid_19 : decode cX4_coinsPaid 19 = .ok (.getfield 80, 3) := by decide +kernel
theorem dX4_coinsPaid_22 : decode cX4_coinsPaid 22 = .ok (.iadd, 1) := by decide +kernel
theorem dX4_coinsPaid_23 : decode cX4_coinsPaid 23 = .ok (.istore_n 1, 1) := by decide +kernel
theorem dX4_coinsPaid_24 : decode cX4_coinsPaid 24 = .ok (.iinc 2 1, 3) := by decide +kernel
theorem dX4_coinsPaid_27 : decode cX4_coinsPaid 27 = .ok (.goto (-23), 3) := by decide +kernel
theorem dX4_coinsPaid_30 : decode cX4_coinsPaid 30 = .ok (.iload_n 1, 1) := by decide +kernel
theorem dX4_coinsPaid_31 : decode cX4_coinsPaid 31 = .ok (.ireturn, 1) := by decide +kernel
theorem dX4_writersOf_0 : decode cX4_writersOf 0 = .ok (.iconst 0, 1) := by decide +kernel
theorem dX4_writersOf_1 : decode cX4_writersOf 1 = .ok (.istore_n 2, 1) := by decide +kernel
theorem dX4_writersOf_2 : decode cX4_writersOf 2 = .ok (.iconst 0, 1) := by decide +kernel
theorem dX4_writersOf_3 : decode cX4_writersOf 3 = .ok (.istore_n 3, 1) := by decide +kernel
theorem dX4_writersOf_4 : decode cX4_writersOf 4 = .ok (.iload_n 3, 1) := by decide +kernel
theorem dX4_writersOf_5 : decode cX4_writersOf 5 = .ok (.aload_n 0, 1) := by decide +kernel
theorem dX4_writersOf_6 : decode cX4_writersOf 6 = .ok (.getfield 44, 3) := by decide +kernel
theorem dX4_writersOf_9 : decode cX4_writersOf 9 = .ok (.if_icmp .ge 37, 3) := by decide +kernel
theorem dX4_writersOf_12 : decode cX4_writersOf 12 = .ok (.aload_n 0, 1) := by decide +kernel
theorem dX4_writersOf_13 : decode cX4_writersOf 13 = .ok (.getfield 19, 3) := by decide +kernel
theorem dX4_writersOf_16 : decode cX4_writersOf 16 = .ok (.iload_n 3, 1) := by decide +kernel
theorem dX4_writersOf_17 : decode cX4_writersOf 17 = .ok (.aaload, 1) := by decide +kernel
theorem dX4_writersOf_18 : decode cX4_writersOf 18 = .ok (.invokevirtual 83, 3) := by decide +kernel
theorem dX4_writersOf_21 : decode cX4_writersOf 21 = .ok (.ifCond .eq 19, 3) := by decide +kernel
theorem dX4_writersOf_24 : decode cX4_writersOf 24 = .ok (.aload_n 0, 1) := by decide +kernel
theorem dX4_writersOf_25 : decode cX4_writersOf 25 = .ok (.getfield 19, 3) := by decide +kernel
theorem dX4_writersOf_28 : decode cX4_writersOf 28 = .ok (.iload_n 3, 1) := by decide +kernel
theorem dX4_writersOf_29 : decode cX4_writersOf 29 = .ok (.aaload, 1) := by decide +kernel
theorem dX4_writersOf_30 : decode cX4_writersOf 30 = .ok (.iload_n 1, 1) := by decide +kernel
theorem dX4_writersOf_31 : decode cX4_writersOf 31 = .ok (.invokevirtual 86, 3) := by decide +kernel
theorem dX4_writersOf_34 : decode cX4_writersOf 34 = .ok (.ifCond .eq 6, 3) := by decide +kernel
theorem dX4_writersOf_37 : decode cX4_writersOf 37 = .ok (.iinc 2 1, 3) := by decide +kernel
theorem dX4_writersOf_40 : decode cX4_writersOf 40 = .ok (.iinc 3 1, 3) := by decide +kernel
theorem dX4_writersOf_43 : decode cX4_writersOf 43 = .ok (.goto (-39), 3) := by decide +kernel
theorem dX4_writersOf_46 : decode cX4_writersOf 46 = .ok (.iload_n 2, 1) := by decide +kernel
theorem dX4_writersOf_47 : decode cX4_writersOf 47 = .ok (.ireturn, 1) := by decide +kernel
theorem dX4_seersOf_0 : decode cX4_seersOf 0 = .ok (.iconst 0, 1) := by decide +kernel
theorem dX4_seersOf_1 : decode cX4_seersOf 1 = .ok (.istore_n 3, 1) := by decide +kernel
theorem dX4_seersOf_2 : decode cX4_seersOf 2 = .ok (.iconst 0, 1) := by decide +kernel
theorem dX4_seersOf_3 : decode cX4_seersOf 3 = .ok (.istore 4, 2) := by decide +kernel
theorem dX4_seersOf_5 : decode cX4_seersOf 5 = .ok (.iload 4, 2) := by decide +kernel
theorem dX4_seersOf_7 : decode cX4_seersOf 7 = .ok (.aload_n 0, 1) := by decide +kernel
theorem dX4_seersOf_8 : decode cX4_seersOf 8 = .ok (.getfield 44, 3) := by decide +kernel
theorem dX4_seersOf_11 : decode cX4_seersOf 11 = .ok (.if_icmp .ge 42, 3) := by decide +kernel
theorem dX4_seersOf_14 : decode cX4_seersOf 14 = .ok (.aload_n 0, 1) := by decide +kernel
theorem dX4_seersOf_15 : decode cX4_seersOf 15 = .ok (.getfield 19, 3) := by decide +kernel
theorem dX4_seersOf_18 : decode cX4_seersOf 18 = .ok (.iload 4, 2) := by decide +kernel
theorem dX4_seersOf_20 : decode cX4_seersOf 20 = .ok (.aaload, 1) := by decide +kernel
theorem dX4_seersOf_21 : decode cX4_seersOf 21 = .ok (.astore 5, 2) := by decide +kernel
theorem dX4_seersOf_23 : decode cX4_seersOf 23 = .ok (.aload 5, 2) := by decide +kernel
theorem dX4_seersOf_25 : decode cX4_seersOf 25 = .ok (.invokevirtual 83, 3) := by decide +kernel
theorem dX4_seersOf_28 : decode cX4_seersOf 28 = .ok (.ifCond .eq 19, 3) := by decide +kernel
theorem dX4_seersOf_31 : decode cX4_seersOf 31 = .ok (.aload_n 1, 1) := by decide +kernel
theorem dX4_seersOf_32 : decode cX4_seersOf 32 = .ok (.aload 5, 2) := by decide +kernel
theorem dX4_seersOf_34 : decode cX4_seersOf 34 = .ok (.getfield 90, 3) := by decide +kernel
theorem dX4_seersOf_37 : decode cX4_seersOf 37 = .ok (.invokevirtual 91, 3) := by decide +kernel
theorem dX4_seersOf_40 : decode cX4_seersOf 40 = .ok (.iload_n 2, 1) := by decide +kernel
theorem dX4_seersOf_41 : decode cX4_seersOf 41 = .ok (.if_icmp .ne 6, 3) := by decide +kernel
theorem dX4_seersOf_44 : decode cX4_seersOf 44 = .ok (.iinc 3 1, 3) := by decide +kernel
theorem dX4_seersOf_47 : decode cX4_seersOf 47 = .ok (.iinc 4 1, 3) := by decide +kernel
theorem dX4_seersOf_50 : decode cX4_seersOf 50 = .ok (.goto (-45), 3) := by decide +kernel
theorem dX4_seersOf_53 : decode cX4_seersOf 53 = .ok (.iload_n 3, 1) := by decide +kernel
theorem dX4_seersOf_54 : decode cX4_seersOf 54 = .ok (.ireturn, 1) := by decide +kernel
theorem dX4_payersOf_0 : decode cX4_payersOf 0 = .ok (.iconst 0, 1) := by decide +kernel
theorem dX4_payersOf_1 : decode cX4_payersOf 1 = .ok (.istore_n 3, 1) := by decide +kernel
theorem dX4_payersOf_2 : decode cX4_payersOf 2 = .ok (.iconst 0, 1) := by decide +kernel
theorem dX4_payersOf_3 : decode cX4_payersOf 3 = .ok (.istore 4, 2) := by decide +kernel
theorem dX4_payersOf_5 : decode cX4_payersOf 5 = .ok (.iload 4, 2) := by decide +kernel
theorem dX4_payersOf_7 : decode cX4_payersOf 7 = .ok (.aload_n 0, 1) := by decide +kernel
theorem dX4_payersOf_8 : decode cX4_payersOf 8 = .ok (.getfield 44, 3) := by decide +kernel
theorem dX4_payersOf_11 : decode cX4_payersOf 11 = .ok (.if_icmp .ge 42, 3) := by decide +kernel
theorem dX4_payersOf_14 : decode cX4_payersOf 14 = .ok (.aload_n 0, 1) := by decide +kernel
theorem dX4_payersOf_15 : decode cX4_payersOf 15 = .ok (.getfield 19, 3) := by decide +kernel
theorem dX4_payersOf_18 : decode cX4_payersOf 18 = .ok (.iload 4, 2) := by decide +kernel
theorem dX4_payersOf_20 : decode cX4_payersOf 20 = .ok (.aaload, 1) := by decide +kernel
theorem dX4_payersOf_21 : decode cX4_payersOf 21 = .ok (.astore 5, 2) := by decide +kernel
theorem dX4_payersOf_23 : decode cX4_payersOf 23 = .ok (.aload 5, 2) := by decide +kernel
theorem dX4_payersOf_25 : decode cX4_payersOf 25 = .ok (.invokevirtual 95, 3) := by decide +kernel
theorem dX4_payersOf_28 : decode cX4_payersOf 28 = .ok (.ifCond .eq 19, 3) := by decide +kernel
theorem dX4_payersOf_31 : decode cX4_payersOf 31 = .ok (.aload_n 1, 1) := by decide +kernel
theorem dX4_payersOf_32 : decode cX4_payersOf 32 = .ok (.aload 5, 2) := by decide +kernel
theorem dX4_payersOf_34 : decode cX4_payersOf 34 = .ok (.getfield 90, 3) := by decide +kernel
theorem dX4_payersOf_37 : decode cX4_payersOf 37 = .ok (.invokevirtual 91, 3) := by decide +kernel
theorem dX4_payersOf_40 : decode cX4_payersOf 40 = .ok (.iload_n 2, 1) := by decide +kernel
theorem dX4_payersOf_41 : decode cX4_payersOf 41 = .ok (.if_icmp .ne 6, 3) := by decide +kernel
theorem dX4_payersOf_44 : decode cX4_payersOf 44 = .ok (.iinc 3 1, 3) := by decide +kernel
theorem dX4_payersOf_47 : decode cX4_payersOf 47 = .ok (.iinc 4 1, 3) := by decide +kernel
theorem dX4_payersOf_50 : decode cX4_payersOf 50 = .ok (.goto (-45), 3) := by decide +kernel
theorem dX4_payersOf_53 : decode cX4_payersOf 53 = .ok (.iload_n 3, 1) := by decide +kernel
theorem dX4_payersOf_54 : decode cX4_payersOf 54 = .ok (.ireturn, 1) := by decide +kernel
theorem dX4_placesSeen_0 : decode cX4_placesSeen 0 = .ok (.iconst 0, 1) := by decide +kernel
theorem dX4_placesSeen_1 : decode cX4_placesSeen 1 = .ok (.istore_n 3, 1) := by decide +kernel
theorem dX4_placesSeen_2 : decode cX4_placesSeen 2 = .ok (.iconst 0, 1) := by decide +kernel
theorem dX4_placesSeen_3 : decode cX4_placesSeen 3 = .ok (.istore 4, 2) := by decide +kernel
theorem dX4_placesSeen_5 : decode cX4_placesSeen 5 = .ok (.iload 4, 2) := by decide +kernel
theorem dX4_placesSeen_7 : decode cX4_placesSeen 7 = .ok (.aload_n 0, 1) := by decide +kernel
theorem dX4_placesSeen_8 : decode cX4_placesSeen 8 = .ok (.getfield 44, 3) := by decide +kernel
theorem dX4_placesSeen_11 : decode cX4_placesSeen 11 = .ok (.if_icmp .ge 57, 3) := by decide +kernel
theorem dX4_placesSeen_14 : decode cX4_placesSeen 14 = .ok (.iload 4, 2) := by decide +kernel
theorem dX4_placesSeen_16 : decode cX4_placesSeen 16 = .ok (.iload_n 2, 1) := by decide +kernel
theorem dX4_placesSeen_17 : decode cX4_placesSeen 17 = .ok (.if_icmp .eq 45, 3) := by decide +kernel
theorem dX4_placesSeen_20 : decode cX4_placesSeen 20 = .ok (.aload_n 0, 1) := by decide +kernel
theorem dX4_placesSeen_21 : decode cX4_placesSeen 21 = .ok (.getfield 19, 3) := by decide +kernel
theorem dX4_placesSeen_24 : decode cX4_placesSeen 24 = .ok (.iload 4, 2) := by decide +kernel
theorem dX4_placesSeen_26 : decode cX4_placesSeen 26 = .ok (.aaload, 1) := by decide +kernel
theorem dX4_placesSeen_27 : decode cX4_placesSeen 27 = .ok (.invokevirtual 83, 3) := by decide +kernel
theorem dX4_placesSeen_30 : decode cX4_placesSeen 30 = .ok (.ifCond .eq 32, 3) := by decide +kernel
theorem dX4_placesSeen_33 : decode cX4_placesSeen 33 = .ok (.aload_n 1, 1) := by decide +kernel
theorem dX4_placesSeen_34 : decode cX4_placesSeen 34 = .ok (.aload_n 0, 1) := by decide +kernel
theorem dX4_placesSeen_35 : decode cX4_placesSeen 35 = .ok (.getfield 19, 3) := by decide +kernel
theorem dX4_placesSeen_38 : decode cX4_placesSeen 38 = .ok (.iload 4, 2) := by decide +kernel
theorem dX4_placesSeen_40 : decode cX4_placesSeen 40 = .ok (.aaload, 1) := by decide +kernel
theorem dX4_placesSeen_41 : decode cX4_placesSeen 41 = .ok (.getfield 90, 3) := by decide +kernel
theorem dX4_placesSeen_44 : decode cX4_placesSeen 44 = .ok (.invokevirtual 91, 3) := by decide +kernel
theorem dX4_placesSeen_47 : decode cX4_placesSeen 47 = .ok (.istore 5, 2) := by decide +kernel
theorem dX4_placesSeen_49 : decode cX4_placesSeen 49 = .ok (.iload 5, 2) := by decide +kernel
theorem dX4_placesSeen_51 : decode cX4_placesSeen 51 = .ok (.iconst (-1), 1) := by decide +kernel
theorem dX4_placesSeen_52 : decode cX4_placesSeen 52 = .ok (.if_icmp .eq 10, 3) := by decide +kernel
theorem dX4_placesSeen_55 : decode cX4_placesSeen 55 = .ok (.iload_n 3, 1) := by decide +kernel
theorem dX4_placesSeen_56 : decode cX4_placesSeen 56 = .ok (.iconst 1, 1) := by decide +kernel
theorem dX4_placesSeen_57 : decode cX4_placesSeen 57 = .ok (.iload 5, 2) := by decide +kernel
theorem dX4_placesSeen_59 : decode cX4_placesSeen 59 = .ok (.ishl, 1) := by decide +kernel
theorem dX4_placesSeen_60 : decode cX4_placesSeen 60 = .ok (.ior, 1) := by decide +kernel
theorem dX4_placesSeen_61 : decode cX4_placesSeen 61 = .ok (.istore_n 3, 1) := by decide +kernel
theorem dX4_placesSeen_62 : decode cX4_placesSeen 62 = .ok (.iinc 4 1, 3) := by decide +kernel
theorem dX4_placesSeen_65 : decode cX4_placesSeen 65 = .ok (.goto (-60), 3) := by decide +kernel
theorem dX4_placesSeen_68 : decode cX4_placesSeen 68 = .ok (.iload_n 3, 1) := by decide +kernel
theorem dX4_placesSeen_69 : decode cX4_placesSeen 69 = .ok (.ireturn, 1) := by decide +kernel
theorem dX4_oldVersions_0 : decode cX4_oldVersions 0 = .ok (.iconst 0, 1) := by decide +kernel
theorem dX4_oldVersions_1 : decode cX4_oldVersions 1 = .ok (.istore_n 1, 1) := by decide +kernel
theorem dX4_oldVersions_2 : decode cX4_oldVersions 2 = .ok (.iconst 0, 1) := by decide +kernel
theorem dX4_oldVersions_3 : decode cX4_oldVersions 3 = .ok (.istore_n 2, 1) := by decide +kernel
theorem dX4_oldVersions_4 : decode cX4_oldVersions 4 = .ok (.iload_n 2, 1) := by decide +kernel
theorem dX4_oldVersions_5 : decode cX4_oldVersions 5 = .ok (.bipush 12, 2) := by decide +kernel
theorem dX4_oldVersions_7 : decode cX4_oldVersions 7 = .ok (.if_icmp .ge 23, 3) := by decide +kernel
theorem dX4_oldVersions_10 : decode cX4_oldVersions 10 = .ok (.iload_n 1, 1) := by decide +kernel
theorem dX4_oldVersions_11 : decode cX4_oldVersions 11 = .ok (.aload_n 0, 1) := by decide +kernel
theorem dX4_oldVersions_12 : decode cX4_oldVersions 12 = .ok (.getfield 11, 3) := by decide +kernel
theorem dX4_oldVersions_15 : decode cX4_oldVersions 15 = .ok (.iload_n 2, 1) := by decide +kernel
theorem dX4_oldVersions_16 : decode cX4_oldVersions 16 = .ok (.aaload, 1) := by decide +kernel
theorem dX4_oldVersions_17 : decode cX4_oldVersions 17 = .ok (.getfield 98, 3) := by decide +kernel
theorem dX4_oldVersions_20 : decode cX4_oldVersions 20 = .ok (.iconst 1, 1) := by decide +kernel
theorem dX4_oldVersions_21 : decode cX4_oldVersions 21 = .ok (.isub, 1) := by decide +kernel
theorem dX4_oldVersions_22 : decode cX4_oldVersions 22 = .ok (.iadd, 1) := by decide +kernel
theorem dX4_oldVersions_23 : decode cX4_oldVersions 23 = .ok (.istore_n 1, 1) := by decide +kernel
theorem dX4_oldVersions_24 : decode cX4_oldVersions 24 = .ok (.iinc 2 1, 3) := by decide +kernel
theorem dX4_oldVersions_27 : decode cX4_oldVersions 27 = .ok (.goto (-23), 3) := by decide +kernel
theorem dX4_oldVersions_30 : decode cX4_oldVersions 30 = .ok (.iload_n 1, 1) := by decide +kernel
theorem dX4_oldVersions_31 : decode cX4_oldVersions 31 = .ok (.ireturn, 1) := by decide +kernel
theorem dX4_oldVersionsSeenBy_0 : decode cX4_oldVersionsSeenBy 0 = .ok (.iconst 0, 1) := by decide +kernel
theorem dX4_oldVersionsSeenBy_1 : decode cX4_oldVersionsSeenBy 1 = .ok (.istore_n 2, 1) := by decide +kernel
theorem dX4_oldVersionsSeenBy_2 : decode cX4_oldVersionsSeenBy 2 = .ok (.iconst 0, 1) := by decide +kernel
theorem dX4_oldVersionsSeenBy_3 : decode cX4_oldVersionsSeenBy 3 = .ok (.istore_n 3, 1) := by decide +kernel
theorem dX4_oldVersionsSeenBy_4 : decode cX4_oldVersionsSeenBy 4 = .ok (.iload_n 3, 1) := by decide +kernel
theorem dX4_oldVersionsSeenBy_5 : decode cX4_oldVersionsSeenBy 5 = .ok (.bipush 12, 2) := by decide +kernel
theorem dX4_oldVersionsSeenBy_7 : decode cX4_oldVersionsSeenBy 7 = .ok (.if_icmp .ge 28, 3) := by decide +kernel
theorem dX4_oldVersionsSeenBy_10 : decode cX4_oldVersionsSeenBy 10 = .ok (.aload_n 0, 1) := by decide +kernel
theorem dX4_oldVersionsSeenBy_11 : decode cX4_oldVersionsSeenBy 11 = .ok (.getfield 11, 3) := by decide +kernel
theorem dX4_oldVersionsSeenBy_14 : decode cX4_oldVersionsSeenBy 14 = .ok (.iload_n 3, 1) := by decide +kernel
theorem dX4_oldVersionsSeenBy_15 : decode cX4_oldVersionsSeenBy 15 = .ok (.aaload, 1) := by decide +kernel
theorem dX4_oldVersionsSeenBy_16 : decode cX4_oldVersionsSeenBy 16 = .ok (.aload_n 1, 1) := by decide +kernel
theorem dX4_oldVersionsSeenBy_17 : decode cX4_oldVersionsSeenBy 17 = .ok (.getfield 90, 3) := by decide +kernel
theorem dX4_oldVersionsSeenBy_20 : decode cX4_oldVersionsSeenBy 20 = .ok (.invokevirtual 91, 3) := by decide +kernel
theorem dX4_oldVersionsSeenBy_23 : decode cX4_oldVersionsSeenBy 23 = .ok (.ifCond .le 6, 3) := by decide +kernel
theorem dX4_oldVersionsSeenBy_26 : decode cX4_oldVersionsSeenBy 26 = .ok (.iinc 2 1, 3) := by decide +kernel
theorem dX4_oldVersionsSeenBy_29 : decode cX4_oldVersionsSeenBy 29 = .ok (.iinc 3 1, 3) := by decide +kernel
theorem dX4_oldVersionsSeenBy_32 : decode cX4_oldVersionsSeenBy 32 = .ok (.goto (-28), 3) := by decide +kernel
theorem dX4_oldVersionsSeenBy_35 : decode cX4_oldVersionsSeenBy 35 = .ok (.iload_n 2, 1) := by decide +kernel
theorem dX4_oldVersionsSeenBy_36 : decode cX4_oldVersionsSeenBy 36 = .ok (.ireturn, 1) := by decide +kernel
theorem dX4_sumSeenBy_0 : decode cX4_sumSeenBy 0 = .ok (.iconst 0, 1) := by decide +kernel
theorem dX4_sumSeenBy_1 : decode cX4_sumSeenBy 1 = .ok (.istore_n 2, 1) := by decide +kernel
theorem dX4_sumSeenBy_2 : decode cX4_sumSeenBy 2 = .ok (.iconst 0, 1) := by decide +kernel
theorem dX4_sumSeenBy_3 : decode cX4_sumSeenBy 3 = .ok (.istore_n 3, 1) := by decide +kernel
theorem dX4_sumSeenBy_4 : decode cX4_sumSeenBy 4 = .ok (.iload_n 3, 1) := by decide +kernel
theorem dX4_sumSeenBy_5 : decode cX4_sumSeenBy 5 = .ok (.bipush 12, 2) := by decide +kernel
theorem dX4_sumSeenBy_7 : decode cX4_sumSeenBy 7 = .ok (.if_icmp .ge 25, 3) := by decide +kernel
theorem dX4_sumSeenBy_10 : decode cX4_sumSeenBy 10 = .ok (.iload_n 2, 1) := by decide +kernel
theorem dX4_sumSeenBy_11 : decode cX4_sumSeenBy 11 = .ok (.aload_n 0, 1) := by decide +kernel
theorem dX4_sumSeenBy_12 : decode cX4_sumSeenBy 12 = .ok (.getfield 11, 3) := by decide +kernel
theorem dX4_sumSeenBy_15 : decode cX4_sumSeenBy 15 = .ok (.iload_n 3, 1) := by decide +kernel
theorem dX4_sumSeenBy_16 : decode cX4_sumSeenBy 16 = .ok (.aaload, 1) := by decide +kernel
theorem dX4_sumSeenBy_17 : decode cX4_sumSeenBy 17 = .ok (.aload_n 1, 1) := by decide +kernel
theorem dX4_sumSeenBy_18 : decode cX4_sumSeenBy 18 = .ok (.getfield 90, 3) := by decide +kernel
theorem dX4_sumSeenBy_21 : decode cX4_sumSeenBy 21 = .ok (.invokevirtual 101, 3) := by decide +kernel
theorem dX4_sumSeenBy_24 : decode cX4_sumSeenBy 24 = .ok (.iadd, 1) := by decide +kernel
theorem dX4_sumSeenBy_25 : decode cX4_sumSeenBy 25 = .ok (.istore_n 2, 1) := by decide +kernel
theorem dX4_sumSeenBy_26 : decode cX4_sumSeenBy 26 = .ok (.iinc 3 1, 3) := by decide +kernel
theorem dX4_sumSeenBy_29 : decode cX4_sumSeenBy 29 = .ok (.goto (-25), 3) := by decide +kernel
theorem dX4_sumSeenBy_32 : decode cX4_sumSeenBy 32 = .ok (.iload_n 2, 1) := by decide +kernel
theorem dX4_sumSeenBy_33 : decode cX4_sumSeenBy 33 = .ok (.ireturn, 1) := by decide +kernel
theorem dX4_removeUnseen_0 : decode cX4_removeUnseen 0 = .ok (.iconst 0, 1) := by decide +kernel
theorem dX4_removeUnseen_1 : decode cX4_removeUnseen 1 = .ok (.istore_n 1, 1) := by decide +kernel
theorem dX4_removeUnseen_2 : decode cX4_removeUnseen 2 = .ok (.iconst 0, 1) := by decide +kernel
theorem dX4_removeUnseen_3 : decode cX4_removeUnseen 3 = .ok (.istore_n 2, 1) := by decide +kernel
theorem dX4_removeUnseen_4 : decode cX4_removeUnseen 4 = .ok (.iload_n 2, 1) := by decide +kernel
theorem dX4_removeUnseen_5 : decode cX4_removeUnseen 5 = .ok (.bipush 12, 2) := by decide +kernel
theorem dX4_removeUnseen_7 : decode cX4_removeUnseen 7 = .ok (.if_icmp .ge 32, 3) := by decide +kernel
theorem dX4_removeUnseen_10 : decode cX4_removeUnseen 10 = .ok (.iload_n 1, 1) := by decide +kernel
theorem dX4_removeUnseen_11 : decode cX4_removeUnseen 11 = .ok (.aload_n 0, 1) := by decide +kernel
theorem dX4_removeUnseen_12 : decode cX4_removeUnseen 12 = .ok (.getfield 11, 3) := by decide +kernel
theorem dX4_removeUnseen_15 : decode cX4_removeUnseen 15 = .ok (.iload_n 2, 1) := by decide +kernel
theorem dX4_removeUnseen_16 : decode cX4_removeUnseen 16 = .ok (.aaload, 1) := by decide +kernel
theorem dX4_removeUnseen_17 : decode cX4_removeUnseen 17 = .ok (.aload_n 0, 1) := by decide +kernel
theorem dX4_removeUnseen_18 : decode cX4_removeUnseen 18 = .ok (.aload_n 0, 1) := by decide +kernel
theorem dX4_removeUnseen_19 : decode cX4_removeUnseen 19 = .ok (.getfield 11, 3) := by decide +kernel
theorem dX4_removeUnseen_22 : decode cX4_removeUnseen 22 = .ok (.iload_n 2, 1) := by decide +kernel
theorem dX4_removeUnseen_23 : decode cX4_removeUnseen 23 = .ok (.aaload, 1) := by decide +kernel
theorem dX4_removeUnseen_24 : decode cX4_removeUnseen 24 = .ok (.iconst (-1), 1) := by decide +kernel
theorem dX4_removeUnseen_25 : decode cX4_removeUnseen 25 = .ok (.invokevirtual 104, 3) := by decide +kernel
theorem dX4_removeUnseen_28 : decode cX4_removeUnseen 28 = .ok (.invokevirtual 108, 3) := by decide +kernel
theorem dX4_removeUnseen_31 : decode cX4_removeUnseen 31 = .ok (.iadd, 1) := by decide +kernel
theorem dX4_removeUnseen_32 : decode cX4_removeUnseen 32 = .ok (.istore_n 1, 1) := by decide +kernel
theorem dX4_removeUnseen_33 : decode cX4_removeUnseen 33 = .ok (.iinc 2 1, 3) := by decide +kernel
theorem dX4_removeUnseen_36 : decode cX4_removeUnseen 36 = .ok (.goto (-32), 3) := by decide +kernel
theorem dX4_removeUnseen_39 : decode cX4_removeUnseen 39 = .ok (.aload_n 0, 1) := by decide +kernel
theorem dX4_removeUnseen_40 : decode cX4_removeUnseen 40 = .ok (.dup, 1) := by decide +kernel
theorem dX4_removeUnseen_41 : decode cX4_removeUnseen 41 = .ok (.getfield 62, 3) := by decide +kernel
theorem dX4_removeUnseen_44 : decode cX4_removeUnseen 44 = .ok (.iload_n 1, 1) := by decide +kernel
theorem dX4_removeUnseen_45 : decode cX4_removeUnseen 45 = .ok (.iadd, 1) := by decide +kernel
theorem dX4_removeUnseen_46 : decode cX4_removeUnseen 46 = .ok (.putfield 62, 3) := by decide +kernel
theorem dX4_removeUnseen_49 : decode cX4_removeUnseen 49 = .ok (.iload_n 1, 1) := by decide +kernel
theorem dX4_removeUnseen_50 : decode cX4_removeUnseen 50 = .ok (.ireturn, 1) := by decide +kernel
theorem dX4_shareOf_0 : decode cX4_shareOf 0 = .ok (.iload_n 2, 1) := by decide +kernel
theorem dX4_shareOf_1 : decode cX4_shareOf 1 = .ok (.ifCond .gt 5, 3) := by decide +kernel
theorem dX4_shareOf_4 : decode cX4_shareOf 4 = .ok (.iconst 0, 1) := by decide +kernel
theorem dX4_shareOf_5 : decode cX4_shareOf 5 = .ok (.ireturn, 1) := by decide +kernel
theorem dX4_shareOf_6 : decode cX4_shareOf 6 = .ok (.aload_n 0, 1) := by decide +kernel
theorem dX4_shareOf_7 : decode cX4_shareOf 7 = .ok (.aload_n 1, 1) := by decide +kernel
theorem dX4_shareOf_8 : decode cX4_shareOf 8 = .ok (.iload_n 2, 1) := by decide +kernel
theorem dX4_shareOf_9 : decode cX4_shareOf 9 = .ok (.invokevirtual 111, 3) := by decide +kernel
theorem dX4_shareOf_12 : decode cX4_shareOf 12 = .ok (.istore_n 3, 1) := by decide +kernel
theorem dX4_shareOf_13 : decode cX4_shareOf 13 = .ok (.iload_n 3, 1) := by decide +kernel
theorem dX4_shareOf_14 : decode cX4_shareOf 14 = .ok (.ifCond .ne 7, 3) := by decide +kernel
theorem dX4_shareOf_17 : decode cX4_shareOf 17 = .ok (.iconst 0, 1) := by decide +kernel
theorem dX4_shareOf_18 : decode cX4_shareOf 18 = .ok (.goto 13, 3) := by decide +kernel
theorem dX4_shareOf_21 : decode cX4_shareOf 21 = .ok (.aload_n 0, 1) := by decide +kernel
theorem dX4_shareOf_22 : decode cX4_shareOf 22 = .ok (.getfield 29, 3) := by decide +kernel
theorem dX4_shareOf_25 : decode cX4_shareOf 25 = .ok (.iload_n 3, 1) := by decide +kernel
theorem dX4_shareOf_26 : decode cX4_shareOf 26 = .ok (.iadd, 1) := by decide +kernel
theorem dX4_shareOf_27 : decode cX4_shareOf 27 = .ok (.iconst 1, 1) := by decide +kernel
theorem dX4_shareOf_28 : decode cX4_shareOf 28 = .ok (.isub, 1) := by decide +kernel
theorem dX4_shareOf_29 : decode cX4_shareOf 29 = .ok (.iload_n 3, 1) := by decide +kernel
theorem dX4_shareOf_30 : decode cX4_shareOf 30 = .ok (.idiv, 1) := by decide +kernel
theorem dX4_shareOf_31 : decode cX4_shareOf 31 = .ok (.ireturn, 1) := by decide +kernel
theorem dX4_dueOf_0 : decode cX4_dueOf 0 = .ok (.aload_n 1, 1) := by decide +kernel
theorem dX4_dueOf_1 : decode cX4_dueOf 1 = .ok (.invokevirtual 95, 3) := by decide +kernel
theorem dX4_dueOf_4 : decode cX4_dueOf 4 = .ok (.ifCond .ne 5, 3) := by decide +kernel
theorem dX4_dueOf_7 : decode cX4_dueOf 7 = .ok (.iconst 0, 1) := by decide +kernel
theorem dX4_dueOf_8 : decode cX4_dueOf 8 = .ok (.ireturn, 1) := by decide +kernel
theorem dX4_dueOf_9 : decode cX4_dueOf 9 = .ok (.iconst 0, 1) := by decide +kernel
theorem dX4_dueOf_10 : decode cX4_dueOf 10 = .ok (.istore_n 2, 1) := by decide +kernel
theorem dX4_dueOf_11 : decode cX4_dueOf 11 = .ok (.iconst 0, 1) := by decide +kernel
theorem dX4_dueOf_12 : decode cX4_dueOf 12 = .ok (.istore_n 3, 1) := by decide +kernel
theorem dX4_dueOf_13 : decode cX4_dueOf 13 = .ok (.iload_n 3, 1) := by decide +kernel
theorem dX4_dueOf_14 : decode cX4_dueOf 14 = .ok (.bipush 12, 2) := by decide +kernel
theorem dX4_dueOf_16 : decode cX4_dueOf 16 = .ok (.if_icmp .ge 35, 3) := by decide +kernel
theorem dX4_dueOf_19 : decode cX4_dueOf 19 = .ok (.iload_n 2, 1) := by decide +kernel
theorem dX4_dueOf_20 : decode cX4_dueOf 20 = .ok (.aload_n 0, 1) := by decide +kernel
theorem dX4_dueOf_21 : decode cX4_dueOf 21 = .ok (.aload_n 0, 1) := by decide +kernel
theorem dX4_dueOf_22 : decode cX4_dueOf 22 = .ok (.getfield 11, 3) := by decide +kernel
theorem dX4_dueOf_25 : decode cX4_dueOf 25 = .ok (.iload_n 3, 1) := by decide +kernel
theorem dX4_dueOf_26 : decode cX4_dueOf 26 = .ok (.aaload, 1) := by decide +kernel
theorem dX4_dueOf_27 : decode cX4_dueOf 27 = .ok (.aload_n 0, 1) := by decide +kernel
theorem dX4_dueOf_28 : decode cX4_dueOf 28 = .ok (.getfield 11, 3) := by decide +kernel
theorem dX4_dueOf_31 : decode cX4_dueOf 31 = .ok (.iload_n 3, 1) := by decide +kernel
theorem dX4_dueOf_32 : decode cX4_dueOf 32 = .ok (.aaload, 1) := by decide +kernel
theorem dX4_dueOf_33 : decode cX4_dueOf 33 = .ok (.aload_n 1, 1) := by decide +kernel
theorem dX4_dueOf_34 : decode cX4_dueOf 34 = .ok (.getfield 90, 3) := by decide +kernel
theorem dX4_dueOf_37 : decode cX4_dueOf 37 = .ok (.invokevirtual 91, 3) := by decide +kernel
theorem dX4_dueOf_40 : decode cX4_dueOf 40 = .ok (.invokevirtual 114, 3) := by decide +kernel
theorem dX4_dueOf_43 : decode cX4_dueOf 43 = .ok (.iadd, 1) := by decide +kernel
theorem dX4_dueOf_44 : decode cX4_dueOf 44 = .ok (.istore_n 2, 1) := by decide +kernel
theorem dX4_dueOf_45 : decode cX4_dueOf 45 = .ok (.iinc 3 1, 3) := by decide +kernel
theorem dX4_dueOf_48 : decode cX4_dueOf 48 = .ok (.goto (-35), 3) := by decide +kernel
theorem dX4_dueOf_51 : decode cX4_dueOf 51 = .ok (.iload_n 2, 1) := by decide +kernel
theorem dX4_dueOf_52 : decode cX4_dueOf 52 = .ok (.ireturn, 1) := by decide +kernel
theorem dX4_tellDues_0 : decode cX4_tellDues 0 = .ok (.iconst 0, 1) := by decide +kernel
theorem dX4_tellDues_1 : decode cX4_tellDues 1 = .ok (.istore_n 1, 1) := by decide +kernel
theorem dX4_tellDues_2 : decode cX4_tellDues 2 = .ok (.iload_n 1, 1) := by decide +kernel
theorem dX4_tellDues_3 : decode cX4_tellDues 3 = .ok (.aload_n 0, 1) := by decide +kernel
theorem dX4_tellDues_4 : decode cX4_tellDues 4 = .ok (.getfield 44, 3) := by decide +kernel
theorem dX4_tellDues_7 : decode cX4_tellDues 7 = .ok (.if_icmp .ge 25, 3) := by decide +kernel
theorem dX4_tellDues_10 : decode cX4_tellDues 10 = .ok (.aload_n 0, 1) := by decide +kernel
theorem dX4_tellDues_11 : decode cX4_tellDues 11 = .ok (.getfield 33, 3) := by decide +kernel
theorem dX4_tellDues_14 : decode cX4_tellDues 14 = .ok (.iload_n 1, 1) := by decide +kernel
theorem dX4_tellDues_15 : decode cX4_tellDues 15 = .ok (.aload_n 0, 1) := by decide +kernel
theorem dX4_tellDues_16 : decode cX4_tellDues 16 = .ok (.aload_n 0, 1) := by decide +kernel
theorem dX4_tellDues_17 : decode cX4_tellDues 17 = .ok (.getfield 19, 3) := by decide +kernel
theorem dX4_tellDues_20 : decode cX4_tellDues 20 = .ok (.iload_n 1, 1) := by decide +kernel
theorem dX4_tellDues_21 : decode cX4_tellDues 21 = .ok (.aaload, 1) := by decide +kernel
theorem dX4_tellDues_22 : decode cX4_tellDues 22 = .ok (.invokevirtual 117, 3) := by decide +kernel
theorem dX4_tellDues_25 : decode cX4_tellDues 25 = .ok (.iastore, 1) := by decide +kernel
theorem dX4_tellDues_26 : decode cX4_tellDues 26 = .ok (.iinc 1 1, 3) := by decide +kernel
theorem dX4_tellDues_29 : decode cX4_tellDues 29 = .ok (.goto (-27), 3) := by decide +kernel
theorem dX4_tellDues_32 : decode cX4_tellDues 32 = .ok (.return_, 1) := by decide +kernel
theorem dX4_letTicksPass_0 : decode cX4_letTicksPass 0 = .ok (.iconst 1, 1) := by decide +kernel
theorem dX4_letTicksPass_1 : decode cX4_letTicksPass 1 = .ok (.istore_n 3, 1) := by decide +kernel
theorem dX4_letTicksPass_2 : decode cX4_letTicksPass 2 = .ok (.iconst 0, 1) := by decide +kernel
theorem dX4_letTicksPass_3 : decode cX4_letTicksPass 3 = .ok (.istore 4, 2) := by decide +kernel
theorem dX4_letTicksPass_5 : decode cX4_letTicksPass 5 = .ok (.iload 4, 2) := by decide +kernel
theorem dX4_letTicksPass_7 : decode cX4_letTicksPass 7 = .ok (.iload_n 1, 1) := by decide +kernel
theorem dX4_letTicksPass_8 : decode cX4_letTicksPass 8 = .ok (.if_icmp .ge 86, 3) := by decide +kernel
theorem dX4_letTicksPass_11 : decode cX4_letTicksPass 11 = .ok (.iload_n 3, 1) := by decide +kernel
theorem dX4_letTicksPass_12 : decode cX4_letTicksPass 12 = .ok (.ifCond .eq 7, 3) := by decide +kernel
theorem dX4_letTicksPass_15 : decode cX4_letTicksPass 15 = .ok (.aload_n 0, 1) := by decide +kernel
theorem dX4_letTicksPass_16 : decode cX4_letTicksPass 16 = .ok (.invokevirtual 121, 3) := by decide +kernel
theorem dX4_letTicksPass_19 : decode cX4_letTicksPass 19 = .ok (.aload_n 0, 1) := by decide +kernel
theorem dX4_letTicksPass_20 : decode cX4_letTicksPass 20 = .ok (.invokevirtual 124, 3) := by decide +kernel
theorem dX4_letTicksPass_23 : decode cX4_letTicksPass 23 = .ok (.istore 5, 2) := by decide +kernel
theorem dX4_letTicksPass_25 : decode cX4_letTicksPass 25 = .ok (.aload_n 0, 1) := by decide +kernel
theorem dX4_letTicksPass_26 : decode cX4_letTicksPass 26 = .ok (.invokevirtual 127, 3) := by decide +kernel
theorem dX4_letTicksPass_29 : decode cX4_letTicksPass 29 = .ok (.istore 6, 2) := by decide +kernel
theorem dX4_letTicksPass_31 : decode cX4_letTicksPass 31 = .ok (.iload 5, 2) := by decide +kernel
theorem dX4_letTicksPass_33 : decode cX4_letTicksPass 33 = .ok (.ifCond .eq 8, 3) := by decide +kernel
theorem dX4_letTicksPass_36 : decode cX4_letTicksPass 36 = .ok (.aload_n 0, 1) := by decide +kernel
theorem dX4_letTicksPass_37 : decode cX4_letTicksPass 37 = .ok (.invokevirtual 130, 3) := by decide +kernel
theorem dX4_letTicksPass_40 : decode cX4_letTicksPass 40 = .ok (.pop, 1) := by decide +kernel
theorem dX4_letTicksPass_41 : decode cX4_letTicksPass 41 = .ok (.iload 5, 2) := by decide +kernel
theorem dX4_letTicksPass_43 : decode cX4_letTicksPass 43 = .ok (.ifCond .ne 8, 3) := by decide +kernel
theorem dX4_letTicksPass_46 : decode cX4_letTicksPass 46 = .ok (.iload 6, 2) := by decide +kernel
theorem dX4_letTicksPass_48 : decode cX4_letTicksPass 48 = .ok (.ifCond .eq 7, 3) := by decide +kernel
theorem dX4_letTicksPass_51 : decode cX4_letTicksPass 51 = .ok (.iconst 1, 1) := by decide +kernel
theorem dX4_letTicksPass_52 : decode cX4_letTicksPass 52 = .ok (.goto 4, 3) := by decide +kernel
theorem dX4_letTicksPass_55 : decode cX4_letTicksPass 55 = .ok (.iconst 0, 1) := by decide +kernel
theorem dX4_letTicksPass_56 : decode cX4_letTicksPass 56 = .ok (.istore_n 3, 1) := by decide +kernel
theorem dX4_letTicksPass_57 : decode cX4_letTicksPass 57 = .ok (.aload_n 0, 1) := by decide +kernel
theorem dX4_letTicksPass_58 : decode cX4_letTicksPass 58 = .ok (.dup, 1) := by decide +kernel
theorem dX4_letTicksPass_59 : decode cX4_letTicksPass 59 = .ok (.getfield 59, 3) := by decide +kernel
theorem dX4_letTicksPass_62 : decode cX4_letTicksPass 62 = .ok (.iconst 1, 1) := by decide +kernel
theorem dX4_letTicksPass_63 : decode cX4_letTicksPass 63 = .ok (.iadd, 1) := by decide +kernel
theorem dX4_letTicksPass_64 : decode cX4_letTicksPass 64 = .ok (.putfield 59, 3) := by decide +kernel
theorem dX4_letTicksPass_67 : decode cX4_letTicksPass 67 = .ok (.aload_n 0, 1) := by decide +kernel
theorem dX4_letTicksPass_68 : decode cX4_letTicksPass 68 = .ok (.iload_n 2, 1) := by decide +kernel
theorem dX4_letTicksPass_69 : decode cX4_letTicksPass 69 = .ok (.invokevirtual 134, 3) := by decide +kernel
theorem dX4_letTicksPass_72 : decode cX4_letTicksPass 72 = .ok (.ifCond .eq 16, 3) := by decide +kernel
theorem dX4_letTicksPass_75 : decode cX4_letTicksPass 75 = .ok (.aload_n 0, 1) := by decide +kernel
theorem dX4_letTicksPass_76 : decode cX4_letTicksPass 76 = .ok (.getfield 19, 3) := by decide +kernel
theorem dX4_letTicksPass_79 : decode cX4_letTicksPass 79 = .ok (.iload_n 2, 1) := by decide +kernel
theorem dX4_letTicksPass_80 : decode cX4_letTicksPass 80 = .ok (.aaload, 1) := by decide +kernel
theorem dX4_letTicksPass_81 : decode cX4_letTicksPass 81 = .ok (.invokevirtual 83, 3) := by decide +kernel
theorem dX4_letTicksPass_84 : decode cX4_letTicksPass 84 = .ok (.ifCond .ne 4, 3) := by decide +kernel
theorem dX4_letTicksPass_87 : decode cX4_letTicksPass 87 = .ok (.return_, 1) := by decide +kernel
theorem dX4_letTicksPass_88 : decode cX4_letTicksPass 88 = .ok (.iinc 4 1, 3) := by decide +kernel
theorem dX4_letTicksPass_91 : decode cX4_letTicksPass 91 = .ok (.goto (-86), 3) := by decide +kernel
theorem dX4_letTicksPass_94 : decode cX4_letTicksPass 94 = .ok (.return_, 1) := by decide +kernel
theorem dX4_takeDues_0 : decode cX4_takeDues 0 = .ok (.iconst 0, 1) := by decide +kernel
theorem dX4_takeDues_1 : decode cX4_takeDues 1 = .ok (.istore_n 1, 1) := by decide +kernel
theorem dX4_takeDues_2 : decode cX4_takeDues 2 = .ok (.iconst 0, 1) := by decide +kernel
theorem dX4_takeDues_3 : decode cX4_takeDues 3 = .ok (.istore_n 2, 1) := by decide +kernel
theorem dX4_takeDues_4 : decode cX4_takeDues 4 = .ok (.iload_n 2, 1) := by decide +kernel
theorem dX4_takeDues_5 : decode cX4_takeDues 5 = .ok (.aload_n 0, 1) := by decide +kernel
theorem dX4_takeDues_6 : decode cX4_takeDues 6 = .ok (.getfield 44, 3) := by decide +kernel
theorem dX4_takeDues_9 : decode cX4_takeDues 9 = .ok (.if_icmp .ge 76, 3) := by decide +kernel
theorem dX4_takeDues_12 : decode cX4_takeDues 12 = .ok (.aload_n 0, 1) := by decide +kernel
theorem dX4_takeDues_13 : decode cX4_takeDues 13 = .ok (.getfield 19, 3) := by decide +kernel
theorem dX4_takeDues_16 : decode cX4_takeDues 16 = .ok (.iload_n 2, 1) := by decide +kernel
theorem dX4_takeDues_17 : decode cX4_takeDues 17 = .ok (.aaload, 1) := by decide +kernel
theorem dX4_takeDues_18 : decode cX4_takeDues 18 = .ok (.astore_n 3, 1) := by decide +kernel
theorem dX4_takeDues_19 : decode cX4_takeDues 19 = .ok (.aload_n 3, 1) := by decide +kernel
theorem dX4_takeDues_20 : decode cX4_takeDues 20 = .ok (.invokevirtual 95, 3) := by decide +kernel
theorem dX4_takeDues_23 : decode cX4_takeDues 23 = .ok (.ifCond .eq 56, 3) := by decide +kernel
theorem dX4_takeDues_26 : decode cX4_takeDues 26 = .ok (.aload_n 3, 1) := by decide +kernel
theorem dX4_takeDues_27 : decode cX4_takeDues 27 = .ok (.getfield 137, 3) := by decide +kernel
theorem dX4_takeDues_30 : decode cX4_takeDues 30 = .ok (.aload_n 0, 1) := by decide +kernel
theorem dX4_takeDues_31 : decode cX4_takeDues 31 = .ok (.getfield 33, 3) := by decide +kernel
theorem dX4_takeDues_34 : decode cX4_takeDues 34 = .ok (.iload_n 2, 1) := by decide +kernel
theorem dX4_takeDues_35 : decode cX4_takeDues 35 = .ok (.iaload, 1) := by decide +kernel
theorem dX4_takeDues_36 : decode cX4_takeDues 36 = .ok (.if_icmp .lt 36, 3) := by decide +kernel
theorem dX4_takeDues_39 : decode cX4_takeDues 39 = .ok (.aload_n 3, 1) := by decide +kernel
theorem dX4_takeDues_40 : decode cX4_takeDues 40 = .ok (.dup, 1) := by decide +kernel
theorem dX4_takeDues_41 : decode cX4_takeDues 41 = .ok (.getfield 137, 3) := by decide +kernel
theorem dX4_takeDues_44 : decode cX4_takeDues 44 = .ok (.aload_n 0, 1) := by decide +kernel
theorem dX4_takeDues_45 : decode cX4_takeDues 45 = .ok (.getfield 33, 3) := by decide +kernel
theorem dX4_takeDues_48 : decode cX4_takeDues 48 = .ok (.iload_n 2, 1) := by decide +kernel
theorem dX4_takeDues_49 : decode cX4_takeDues 49 = .ok (.iaload, 1) := by decide +kernel
theorem dX4_takeDues_50 : decode cX4_takeDues 50 = .ok (.isub, 1) := by decide +kernel
theorem dX4_takeDues_51 : decode cX4_takeDues 51 = .ok (.putfield 137, 3) := by decide +kernel
theorem dX4_takeDues_54 : decode cX4_takeDues 54 = .ok (.aload_n 3, 1) := by decide +kernel
theorem dX4_takeDues_55 : decode cX4_takeDues 55 = .ok (.dup, 1) := by decide +kernel
theorem dX4_takeDues_56 : decode cX4_takeDues 56 = .ok (.getfield 80, 3) := by decide +kernel
theorem dX4_takeDues_59 : decode cX4_takeDues 59 = .ok (.aload_n 0, 1) := by decide +kernel
theorem dX4_takeDues_60 : decode cX4_takeDues 60 = .ok (.getfield 33, 3) := by decide +kernel
theorem dX4_takeDues_63 : decode cX4_takeDues 63 = .ok (.iload_n 2, 1) := by decide +kernel
theorem dX4_takeDues_64 : decode cX4_takeDues 64 = .ok (.iaload, 1) := by decide +kernel
theorem dX4_takeDues_65 : decode cX4_takeDues 65 = .ok (.iadd, 1) := by decide +kernel
theorem dX4_takeDues_66 : decode cX4_takeDues 66 = .ok (.putfield 80, 3) := by decide +kernel
theorem dX4_takeDues_69 : decode cX4_takeDues 69 = .ok (.goto 10, 3) := by decide +kernel
theorem dX4_takeDues_72 : decode cX4_takeDues 72 = .ok (.aload_n 3, 1) := by decide +kernel
theorem dX4_takeDues_73 : decode cX4_takeDues 73 = .ok (.iconst 3, 1) := by decide +kernel
theorem dX4_takeDues_74 : decode cX4_takeDues 74 = .ok (.putfield 73, 3) := by decide +kernel
theorem dX4_takeDues_77 : decode cX4_takeDues 77 = .ok (.iconst 1, 1) := by decide +kernel
theorem dX4_takeDues_78 : decode cX4_takeDues 78 = .ok (.istore_n 1, 1) := by decide +kernel
theorem dX4_takeDues_79 : decode cX4_takeDues 79 = .ok (.iinc 2 1, 3) := by decide +kernel
theorem dX4_takeDues_82 : decode cX4_takeDues 82 = .ok (.goto (-78), 3) := by decide +kernel
theorem dX4_takeDues_85 : decode cX4_takeDues 85 = .ok (.iload_n 1, 1) := by decide +kernel
theorem dX4_takeDues_86 : decode cX4_takeDues 86 = .ok (.ireturn, 1) := by decide +kernel
theorem dX4_shortenTerms_0 : decode cX4_shortenTerms 0 = .ok (.iconst 0, 1) := by decide +kernel
theorem dX4_shortenTerms_1 : decode cX4_shortenTerms 1 = .ok (.istore_n 1, 1) := by decide +kernel
theorem dX4_shortenTerms_2 : decode cX4_shortenTerms 2 = .ok (.iconst 0, 1) := by decide +kernel
theorem dX4_shortenTerms_3 : decode cX4_shortenTerms 3 = .ok (.istore_n 2, 1) := by decide +kernel
theorem dX4_shortenTerms_4 : decode cX4_shortenTerms 4 = .ok (.iload_n 2, 1) := by decide +kernel
theorem dX4_shortenTerms_5 : decode cX4_shortenTerms 5 = .ok (.aload_n 0, 1) := by decide +kernel
theorem dX4_shortenTerms_6 : decode cX4_shortenTerms 6 = .ok (.getfield 44, 3) := by decide +kernel
theorem dX4_shortenTerms_9 : decode cX4_shortenTerms 9 = .ok (.if_icmp .ge 50, 3) := by decide +kernel
theorem dX4_shortenTerms_12 : decode cX4_shortenTerms 12 = .ok (.aload_n 0, 1) := by decide +kernel
theorem dX4_shortenTerms_13 : decode cX4_shortenTerms 13 = .ok (.getfield 19, 3) := by decide +kernel
theorem dX4_shortenTerms_16 : decode cX4_shortenTerms 16 = .ok (.iload_n 2, 1) := by decide +kernel
theorem dX4_shortenTerms_17 : decode cX4_shortenTerms 17 = .ok (.aaload, 1) := by decide +kernel
theorem dX4_shortenTerms_18 : decode cX4_shortenTerms 18 = .ok (.astore_n 3, 1) := by decide +kernel
theorem dX4_shortenTerms_19 : decode cX4_shortenTerms 19 = .ok (.aload_n 3, 1) := by decide +kernel
theorem dX4_shortenTerms_20 : decode cX4_shortenTerms 20 = .ok (.invokevirtual 76, 3) := by decide +kernel
theorem dX4_shortenTerms_23 : decode cX4_shortenTerms 23 = .ok (.ifCond .eq 30, 3) := by decide +kernel
theorem dX4_shortenTerms_26 : decode cX4_shortenTerms 26 = .ok (.aload_n 3, 1) := by decide +kernel
theorem dX4_shortenTerms_27 : decode cX4_shortenTerms 27 = .ok (.dup, 1) := by decide +kernel
theorem dX4_shortenTerms_28 : decode cX4_shortenTerms 28 = .ok (.getfield 140, 3) := by decide +kernel
theorem dX4_shortenTerms_31 : decode cX4_shortenTerms 31 = .ok (.iconst 1, 1) := by decide +kernel
theorem dX4_shortenTerms_32 : decode cX4_shortenTerms 32 = .ok (.isub, 1) := by decide +kernel
theorem dX4_shortenTerms_33 : decode cX4_shortenTerms 33 = .ok (.putfield 140, 3) := by decide +kernel
theorem dX4_shortenTerms_36 : decode cX4_shortenTerms 36 = .ok (.iload_n 1, 1) := by decide +kernel
theorem dX4_shortenTerms_37 : decode cX4_shortenTerms 37 = .ok (.ifCond .ne 10, 3) := by decide +kernel
theorem dX4_shortenTerms_40 : decode cX4_shortenTerms 40 = .ok (.aload_n 3, 1) := by decide +kernel
theorem dX4_shortenTerms_41 : decode cX4_shortenTerms 41 = .ok (.getfield 140, 3) := by decide +kernel
theorem dX4_shortenTerms_44 : decode cX4_shortenTerms 44 = .ok (.ifCond .ne 7, 3) := by decide +kernel
theorem dX4_shortenTerms_47 : decode cX4_shortenTerms 47 = .ok (.iconst 1, 1) := by decide +kernel
theorem dX4_shortenTerms_48 : decode cX4_shortenTerms 48 = .ok (.goto 4, 3) := by decide +kernel
theorem dX4_shortenTerms_51 : decode cX4_shortenTerms 51 = .ok (.iconst 0, 1) := by decide +kernel
theorem dX4_shortenTerms_52 : decode cX4_shortenTerms 52 = .ok (.istore_n 1, 1) := by decide +kernel
theorem dX4_shortenTerms_53 : decode cX4_shortenTerms 53 = .ok (.iinc 2 1, 3) := by decide +kernel
theorem dX4_shortenTerms_56 : decode cX4_shortenTerms 56 = .ok (.goto (-52), 3) := by decide +kernel
theorem dX4_shortenTerms_59 : decode cX4_shortenTerms 59 = .ok (.iload_n 1, 1) := by decide +kernel
theorem dX4_shortenTerms_60 : decode cX4_shortenTerms 60 = .ok (.ireturn, 1) := by decide +kernel
theorem dX4_hasConflict_0 : decode cX4_hasConflict 0 = .ok (.iconst 0, 1) := by decide +kernel
theorem dX4_hasConflict_1 : decode cX4_hasConflict 1 = .ok (.istore_n 2, 1) := by decide +kernel
theorem dX4_hasConflict_2 : decode cX4_hasConflict 2 = .ok (.iload_n 2, 1) := by decide +kernel
theorem dX4_hasConflict_3 : decode cX4_hasConflict 3 = .ok (.bipush 12, 2) := by decide +kernel
theorem dX4_hasConflict_5 : decode cX4_hasConflict 5 = .ok (.if_icmp .ge 37, 3) := by decide +kernel
theorem dX4_hasConflict_8 : decode cX4_hasConflict 8 = .ok (.aload_n 1, 1) := by decide +kernel
theorem dX4_hasConflict_9 : decode cX4_hasConflict 9 = .ok (.iload_n 2, 1) := by decide +kernel
theorem dX4_hasConflict_10 : decode cX4_hasConflict 10 = .ok (.invokevirtual 86, 3) := by decide +kernel
theorem dX4_hasConflict_13 : decode cX4_hasConflict 13 = .ok (.ifCond .eq 23, 3) := by decide +kernel
theorem dX4_hasConflict_16 : decode cX4_hasConflict 16 = .ok (.aload_n 0, 1) := by decide +kernel
theorem dX4_hasConflict_17 : decode cX4_hasConflict 17 = .ok (.getfield 11, 3) := by decide +kernel
theorem dX4_hasConflict_20 : decode cX4_hasConflict 20 = .ok (.iload_n 2, 1) := by decide +kernel
theorem dX4_hasConflict_21 : decode cX4_hasConflict 21 = .ok (.aaload, 1) := by decide +kernel
theorem dX4_hasConflict_22 : decode cX4_hasConflict 22 = .ok (.getfield 143, 3) := by decide +kernel
theorem dX4_hasConflict_25 : decode cX4_hasConflict 25 = .ok (.iconst 0, 1) := by decide +kernel
theorem dX4_hasConflict_26 : decode cX4_hasConflict 26 = .ok (.iaload, 1) := by decide +kernel
theorem dX4_hasConflict_27 : decode cX4_hasConflict 27 = .ok (.aload_n 1, 1) := by decide +kernel
theorem dX4_hasConflict_28 : decode cX4_hasConflict 28 = .ok (.getfield 90, 3) := by decide +kernel
theorem dX4_hasConflict_31 : decode cX4_hasConflict 31 = .ok (.if_icmp .le 5, 3) := by decide +kernel
theorem dX4_hasConflict_34 : decode cX4_hasConflict 34 = .ok (.iconst 1, 1) := by decide +kernel
theorem dX4_hasConflict_35 : decode cX4_hasConflict 35 = .ok (.ireturn, 1) := by decide +kernel
theorem dX4_hasConflict_36 : decode cX4_hasConflict 36 = .ok (.iinc 2 1, 3) := by decide +kernel
theorem dX4_hasConflict_39 : decode cX4_hasConflict 39 = .ok (.goto (-37), 3) := by decide +kernel
theorem dX4_hasConflict_42 : decode cX4_hasConflict 42 = .ok (.iconst 0, 1) := by decide +kernel
theorem dX4_hasConflict_43 : decode cX4_hasConflict 43 = .ok (.ireturn, 1) := by decide +kernel
theorem dX4_skewsOf_0 : decode cX4_skewsOf 0 = .ok (.iconst 0, 1) := by decide +kernel
theorem dX4_skewsOf_1 : decode cX4_skewsOf 1 = .ok (.istore_n 2, 1) := by decide +kernel
theorem dX4_skewsOf_2 : decode cX4_skewsOf 2 = .ok (.iconst 0, 1) := by decide +kernel
theorem dX4_skewsOf_3 : decode cX4_skewsOf 3 = .ok (.istore_n 3, 1) := by decide +kernel
theorem dX4_skewsOf_4 : decode cX4_skewsOf 4 = .ok (.iload_n 3, 1) := by decide +kernel
theorem dX4_skewsOf_5 : decode cX4_skewsOf 5 = .ok (.aload_n 0, 1) := by decide +kernel
theorem dX4_skewsOf_6 : decode cX4_skewsOf 6 = .ok (.getfield 50, 3) := by decide +kernel
theorem dX4_skewsOf_9 : decode cX4_skewsOf 9 = .ok (.if_icmp .ge 25, 3) := by decide +kernel
theorem dX4_skewsOf_12 : decode cX4_skewsOf 12 = .ok (.aload_n 0, 1) := by decide +kernel
theorem dX4_skewsOf_13 : decode cX4_skewsOf 13 = .ok (.getfield 25, 3) := by decide +kernel
theorem dX4_skewsOf_16 : decode cX4_skewsOf 16 = .ok (.iload_n 3, 1) := by decide +kernel
theorem dX4_skewsOf_17 : decode cX4_skewsOf 17 = .ok (.aaload, 1) := by decide +kernel
theorem dX4_skewsOf_18 : decode cX4_skewsOf 18 = .ok (.aload_n 1, 1) := by decide +kernel
theorem dX4_skewsOf_19 : decode cX4_skewsOf 19 = .ok (.invokevirtual 146, 3) := by decide +kernel
theorem dX4_skewsOf_22 : decode cX4_skewsOf 22 = .ok (.ifCond .eq 6, 3) := by decide +kernel
theorem dX4_skewsOf_25 : decode cX4_skewsOf 25 = .ok (.iinc 2 1, 3) := by decide +kernel
theorem dX4_skewsOf_28 : decode cX4_skewsOf 28 = .ok (.iinc 3 1, 3) := by decide +kernel
theorem dX4_skewsOf_31 : decode cX4_skewsOf 31 = .ok (.goto (-27), 3) := by decide +kernel
theorem dX4_skewsOf_34 : decode cX4_skewsOf 34 = .ok (.iload_n 2, 1) := by decide +kernel
theorem dX4_skewsOf_35 : decode cX4_skewsOf 35 = .ok (.ireturn, 1) := by decide +kernel
theorem dX4_pairsInSkew_0 : decode cX4_pairsInSkew 0 = .ok (.iconst 0, 1) := by decide +kernel
theorem dX4_pairsInSkew_1 : decode cX4_pairsInSkew 1 = .ok (.istore_n 1, 1) := by decide +kernel
theorem dX4_pairsInSkew_2 : decode cX4_pairsInSkew 2 = .ok (.iconst 0, 1) := by decide +kernel
theorem dX4_pairsInSkew_3 : decode cX4_pairsInSkew 3 = .ok (.istore_n 2, 1) := by decide +kernel
theorem dX4_pairsInSkew_4 : decode cX4_pairsInSkew 4 = .ok (.iload_n 2, 1) := by decide +kernel
theorem dX4_pairsInSkew_5 : decode cX4_pairsInSkew 5 = .ok (.aload_n 0, 1) := by decide +kernel
theorem dX4_pairsInSkew_6 : decode cX4_pairsInSkew 6 = .ok (.getfield 50, 3) := by decide +kernel
theorem dX4_pairsInSkew_9 : decode cX4_pairsInSkew 9 = .ok (.if_icmp .ge 21, 3) := by decide +kernel
theorem dX4_pairsInSkew_12 : decode cX4_pairsInSkew 12 = .ok (.iload_n 1, 1) := by decide +kernel
theorem dX4_pairsInSkew_13 : decode cX4_pairsInSkew 13 = .ok (.aload_n 0, 1) := by decide +kernel
theorem dX4_pairsInSkew_14 : decode cX4_pairsInSkew 14 = .ok (.getfield 25, 3) := by decide +kernel
theorem dX4_pairsInSkew_17 : decode cX4_pairsInSkew 17 = .ok (.iload_n 2, 1) := by decide +kernel
theorem dX4_pairsInSkew_18 : decode cX4_pairsInSkew 18 = .ok (.aaload, 1) := by decide +kernel
theorem dX4_pairsInSkew_19 : decode cX4_pairsInSkew 19 = .ok (.getfield 150, 3) := by decide +kernel
theorem dX4_pairsInSkew_22 : decode cX4_pairsInSkew 22 = .ok (.iadd, 1) := by decide +kernel
theorem dX4_pairsInSkew_23 : decode cX4_pairsInSkew 23 = .ok (.istore_n 1, 1) := by decide +kernel
theorem dX4_pairsInSkew_24 : decode cX4_pairsInSkew 24 = .ok (.iinc 2 1, 3) := by decide +kernel
theorem dX4_pairsInSkew_27 : decode cX4_pairsInSkew 27 = .ok (.goto (-23), 3) := by decide +kernel
theorem dX4_pairsInSkew_30 : decode cX4_pairsInSkew 30 = .ok (.iload_n 1, 1) := by decide +kernel
theorem dX4_pairsInSkew_31 : decode cX4_pairsInSkew 31 = .ok (.ireturn, 1) := by decide +kernel
theorem dX4_oldVersionsWithout_0 : decode cX4_oldVersionsWithout 0 = .ok (.iconst 0, 1) := by decide +kernel
theorem dX4_oldVersionsWithout_1 : decode cX4_oldVersionsWithout 1 = .ok (.istore_n 2, 1) := by decide +kernel
theorem dX4_oldVersionsWithout_2 : decode cX4_oldVersionsWithout 2 = .ok (.iconst 0, 1) := by decide +kernel
theorem dX4_oldVersionsWithout_3 : decode cX4_oldVersionsWithout 3 = .ok (.istore_n 3, 1) := by decide +kernel
theorem dX4_oldVersionsWithout_4 : decode cX4_oldVersionsWithout 4 = .ok (.iload_n 3, 1) := by decide +kernel
theorem dX4_oldVersionsWithout_5 : decode cX4_oldVersionsWithout 5 = .ok (.bipush 12, 2) := by decide +kernel
theorem dX4_oldVersionsWithout_7 : decode cX4_oldVersionsWithout 7 = .ok (.if_icmp .ge 55, 3) := by decide +kernel
theorem dX4_oldVersionsWithout_10 : decode cX4_oldVersionsWithout 10 = .ok (.aload_n 0, 1) := by decide +kernel
theorem dX4_oldVersionsWithout_11 : decode cX4_oldVersionsWithout 11 = .ok (.aload_n 0, 1) := by decide +kernel
theorem dX4_oldVersionsWithout_12 : decode cX4_oldVersionsWithout 12 = .ok (.getfield 11, 3) := by decide +kernel
theorem dX4_oldVersionsWithout_15 : decode cX4_oldVersionsWithout 15 = .ok (.iload_n 3, 1) := by decide +kernel
theorem dX4_oldVersionsWithout_16 : decode cX4_oldVersionsWithout 16 = .ok (.aaload, 1) := by decide +kernel
theorem dX4_oldVersionsWithout_17 : decode cX4_oldVersionsWithout 17 = .ok (.iload_n 1, 1) := by decide +kernel
theorem dX4_oldVersionsWithout_18 : decode cX4_oldVersionsWithout 18 = .ok (.invokevirtual 104, 3) := by decide +kernel
theorem dX4_oldVersionsWithout_21 : decode cX4_oldVersionsWithout 21 = .ok (.istore 4, 2) := by decide +kernel
theorem dX4_oldVersionsWithout_23 : decode cX4_oldVersionsWithout 23 = .ok (.aload_n 0, 1) := by decide +kernel
theorem dX4_oldVersionsWithout_24 : decode cX4_oldVersionsWithout 24 = .ok (.getfield 19, 3) := by decide +kernel
theorem dX4_oldVersionsWithout_27 : decode cX4_oldVersionsWithout 27 = .ok (.iload_n 1, 1) := by decide +kernel
theorem dX4_oldVersionsWithout_28 : decode cX4_oldVersionsWithout 28 = .ok (.aaload, 1) := by decide +kernel
theorem dX4_oldVersionsWithout_29 : decode cX4_oldVersionsWithout 29 = .ok (.iload_n 3, 1) := by decide +kernel
theorem dX4_oldVersionsWithout_30 : decode cX4_oldVersionsWithout 30 = .ok (.invokevirtual 86, 3) := by decide +kernel
theorem dX4_oldVersionsWithout_33 : decode cX4_oldVersionsWithout 33 = .ok (.istore 5, 2) := by decide +kernel
theorem dX4_oldVersionsWithout_35 : decode cX4_oldVersionsWithout 35 = .ok (.iload_n 2, 1) := by decide +kernel
theorem dX4_oldVersionsWithout_36 : decode cX4_oldVersionsWithout 36 = .ok (.iload 5, 2) := by decide +kernel
theorem dX4_oldVersionsWithout_38 : decode cX4_oldVersionsWithout 38 = .ok (.ifCond .eq 8, 3) := by decide +kernel
theorem dX4_oldVersionsWithout_41 : decode cX4_oldVersionsWithout 41 = .ok (.iload 4, 2) := by decide +kernel
theorem dX4_oldVersionsWithout_43 : decode cX4_oldVersionsWithout 43 = .ok (.goto 8, 3) := by decide +kernel
theorem dX4_oldVersionsWithout_46 : decode cX4_oldVersionsWithout 46 = .ok (.iload 4, 2) := by decide +kernel
theorem dX4_oldVersionsWithout_48 : decode cX4_oldVersionsWithout 48 = .ok (.bipush (-2), 2) := by decide +kernel
theorem dX4_oldVersionsWithout_50 : decode cX4_oldVersionsWithout 50 = .ok (.iand, 1) := by decide +kernel
theorem dX4_oldVersionsWithout_51 : decode cX4_oldVersionsWithout 51 = .ok (.invokestatic 153, 3) := by decide +kernel
theorem dX4_oldVersionsWithout_54 : decode cX4_oldVersionsWithout 54 = .ok (.iadd, 1) := by decide +kernel
theorem dX4_oldVersionsWithout_55 : decode cX4_oldVersionsWithout 55 = .ok (.istore_n 2, 1) := by decide +kernel
theorem dX4_oldVersionsWithout_56 : decode cX4_oldVersionsWithout 56 = .ok (.iinc 3 1, 3) := by decide +kernel
theorem dX4_oldVersionsWithout_59 : decode cX4_oldVersionsWithout 59 = .ok (.goto (-55), 3) := by decide +kernel
theorem dX4_oldVersionsWithout_62 : decode cX4_oldVersionsWithout 62 = .ok (.iload_n 2, 1) := by decide +kernel
theorem dX4_oldVersionsWithout_63 : decode cX4_oldVersionsWithout 63 = .ok (.ireturn, 1) := by decide +kernel
theorem dX4_land_0 : decode cX4_land 0 = .ok (.aload_n 0, 1) := by decide +kernel
theorem dX4_land_1 : decode cX4_land 1 = .ok (.getfield 19, 3) := by decide +kernel
theorem dX4_land_4 : decode cX4_land 4 = .ok (.iload_n 1, 1) := by decide +kernel
theorem dX4_land_5 : decode cX4_land 5 = .ok (.aaload, 1) := by decide +kernel
theorem dX4_land_6 : decode cX4_land 6 = .ok (.astore_n 2, 1) := by decide +kernel
theorem dX4_land_7 : decode cX4_land 7 = .ok (.aload_n 2, 1) := by decide +kernel
theorem dX4_land_8 : decode cX4_land 8 = .ok (.getfield 158, 3) := by decide +kernel
theorem dX4_land_11 : decode cX4_land 11 = .ok (.ifCond .eq 23, 3) := by decide +kernel
theorem dX4_land_14 : decode cX4_land 14 = .ok (.aload_n 0, 1) := by decide +kernel
theorem dX4_land_15 : decode cX4_land 15 = .ok (.iload_n 1, 1) := by decide +kernel
theorem dX4_land_16 : decode cX4_land 16 = .ok (.invokevirtual 161, 3) := by decide +kernel
theorem dX4_land_19 : decode cX4_land 19 = .ok (.aload_n 0, 1) := by decide +kernel
theorem dX4_land_20 : decode cX4_land 20 = .ok (.dup, 1) := by decide +kernel
theorem dX4_land_21 : decode cX4_land 21 = .ok (.getfield 56, 3) := by decide +kernel
theorem dX4_land_24 : decode cX4_land 24 = .ok (.iconst 1, 1) := by decide +kernel
theorem dX4_land_25 : decode cX4_land 25 = .ok (.iadd, 1) := by decide +kernel
theorem dX4_land_26 : decode cX4_land 26 = .ok (.putfield 56, 3) := by decide +kernel
theorem dX4_land_29 : decode cX4_land 29 = .ok (.aload_n 0, 1) := by decide +kernel
theorem dX4_land_30 : decode cX4_land 30 = .ok (.aload_n 2, 1) := by decide +kernel
theorem dX4_land_31 : decode cX4_land 31 = .ok (.invokevirtual 165, 3) := by decide +kernel
theorem dX4_land_34 : decode cX4_land 34 = .ok (.aload_n 2, 1) := by decide +kernel
theorem dX4_land_35 : decode cX4_land 35 = .ok (.iconst 1, 1) := by decide +kernel
theorem dX4_land_36 : decode cX4_land 36 = .ok (.putfield 73, 3) := by decide +kernel
theorem dX4_land_39 : decode cX4_land 39 = .ok (.aload_n 0, 1) := by decide +kernel
theorem dX4_land_40 : decode cX4_land 40 = .ok (.invokevirtual 130, 3) := by decide +kernel
theorem dX4_land_43 : decode cX4_land 43 = .ok (.pop, 1) := by decide +kernel
theorem dX4_land_44 : decode cX4_land 44 = .ok (.return_, 1) := by decide +kernel
theorem dX4_noteCommit_0 : decode cX4_noteCommit 0 = .ok (.aload_n 0, 1) := by decide +kernel
theorem dX4_noteCommit_1 : decode cX4_noteCommit 1 = .ok (.getfield 50, 3) := by decide +kernel
theorem dX4_noteCommit_4 : decode cX4_noteCommit 4 = .ok (.bipush 40, 2) := by decide +kernel
theorem dX4_noteCommit_6 : decode cX4_noteCommit 6 = .ok (.if_icmp .lt 4, 3) := by decide +kernel
theorem dX4_noteCommit_9 : decode cX4_noteCommit 9 = .ok (.return_, 1) := by decide +kernel
theorem dX4_noteCommit_10 : decode cX4_noteCommit 10 = .ok (.aload_n 0, 1) := by decide +kernel
theorem dX4_noteCommit_11 : decode cX4_noteCommit 11 = .ok (.getfield 19, 3) := by decide +kernel
theorem dX4_noteCommit_14 : decode cX4_noteCommit 14 = .ok (.iload_n 1, 1) := by decide +kernel
theorem dX4_noteCommit_15 : decode cX4_noteCommit 15 = .ok (.aaload, 1) := by decide +kernel
theorem dX4_noteCommit_16 : decode cX4_noteCommit 16 = .ok (.astore_n 2, 1) := by decide +kernel
theorem dX4_noteCommit_17 : decode cX4_noteCommit 17 = .ok (.aload_n 0, 1) := by decide +kernel
theorem dX4_noteCommit_18 : decode cX4_noteCommit 18 = .ok (.getfield 25, 3) := by decide +kernel
theorem dX4_noteCommit_21 : decode cX4_noteCommit 21 = .ok (.aload_n 0, 1) := by decide +kernel
theorem dX4_noteCommit_22 : decode cX4_noteCommit 22 = .ok (.getfield 50, 3) := by decide +kernel
theorem dX4_noteCommit_25 : decode cX4_noteCommit 25 = .ok (.aaload, 1) := by decide +kernel
theorem dX4_noteCommit_26 : decode cX4_noteCommit 26 = .ok (.astore_n 3, 1) := by decide +kernel
theorem dX4_noteCommit_27 : decode cX4_noteCommit 27 = .ok (.aload_n 3, 1) := by decide +kernel
theorem dX4_noteCommit_28 : decode cX4_noteCommit 28 = .ok (.iload_n 1, 1) := by decide +kernel
theorem dX4_noteCommit_29 : decode cX4_noteCommit 29 = .ok (.putfield 168, 3) := by decide +kernel
theorem dX4_noteCommit_32 : decode cX4_noteCommit 32 = .ok (.aload_n 3, 1) := by decide +kernel
theorem dX4_noteCommit_33 : decode cX4_noteCommit 33 = .ok (.aload_n 2, 1) := by decide +kernel
theorem dX4_noteCommit_34 : decode cX4_noteCommit 34 = .ok (.getfield 90, 3) := by decide +kernel
theorem dX4_noteCommit_37 : decode cX4_noteCommit 37 = .ok (.putfield 171, 3) := by decide +kernel
theorem dX4_noteCommit_40 : decode cX4_noteCommit 40 = .ok (.aload_n 3, 1) := by decide +kernel
theorem dX4_noteCommit_41 : decode cX4_noteCommit 41 = .ok (.aload_n 0, 1) := by decide +kernel
theorem dX4_noteCommit_42 : decode cX4_noteCommit 42 = .ok (.getfield 56, 3) := by decide +kernel
theorem dX4_noteCommit_45 : decode cX4_noteCommit 45 = .ok (.iconst 1, 1) := by decide +kernel
theorem dX4_noteCommit_46 : decode cX4_noteCommit 46 = .ok (.iadd, 1) := by decide +kernel
theorem dX4_noteCommit_47 : decode cX4_noteCommit 47 = .ok (.putfield 174, 3) := by decide +kernel
theorem dX4_noteCommit_50 : decode cX4_noteCommit 50 = .ok (.aload_n 3, 1) := by decide +kernel
theorem dX4_noteCommit_51 : decode cX4_noteCommit 51 = .ok (.aload_n 2, 1) := by decide +kernel
theorem dX4_noteCommit_52 : decode cX4_noteCommit 52 = .ok (.getfield 158, 3) := by decide +kernel
theorem dX4_noteCommit_55 : decode cX4_noteCommit 55 = .ok (.putfield 177, 3) := by decide +kernel
theorem dX4_noteCommit_58 : decode cX4_noteCommit 58 = .ok (.aload_n 3, 1) := by decide +kernel
theorem dX4_noteCommit_59 : decode cX4_noteCommit 59 = .ok (.aload_n 2, 1) := by decide +kernel
theorem dX4_noteCommit_60 : decode cX4_noteCommit 60 = .ok (.getfield 178, 3) := by decide +kernel
theorem dX4_noteCommit_63 : decode cX4_noteCommit 63 = .ok (.putfield 181, 3) := by decide +kernel
theorem dX4_noteCommit_66 : decode cX4_noteCommit 66 = .ok (.aload_n 3, 1) := by decide +kernel
theorem dX4_noteCommit_67 : decode cX4_noteCommit 67 = .ok (.aload_n 0, 1) := by decide +kernel
theorem dX4_noteCommit_68 : decode cX4_noteCommit 68 = .ok (.aload_n 2, 1) := by decide +kernel
theorem dX4_noteCommit_69 : decode cX4_noteCommit 69 = .ok (.invokevirtual 182, 3) := by decide +kernel
theorem dX4_noteCommit_72 : decode cX4_noteCommit 72 = .ok (.putfield 150, 3) := by decide +kernel
theorem dX4_noteCommit_75 : decode cX4_noteCommit 75 = .ok (.aload_n 0, 1) := by decide +kernel
theorem dX4_noteCommit_76 : decode cX4_noteCommit 76 = .ok (.dup, 1) := by decide +kernel
theorem dX4_noteCommit_77 : decode cX4_noteCommit 77 = .ok (.getfield 50, 3) := by decide +kernel
theorem dX4_noteCommit_80 : decode cX4_noteCommit 80 = .ok (.iconst 1, 1) := by decide +kernel
theorem dX4_noteCommit_81 : decode cX4_noteCommit 81 = .ok (.iadd, 1) := by decide +kernel
theorem dX4_noteCommit_82 : decode cX4_noteCommit 82 = .ok (.putfield 50, 3) := by decide +kernel
theorem dX4_noteCommit_85 : decode cX4_noteCommit 85 = .ok (.return_, 1) := by decide +kernel
theorem dX4_pushWrites_0 : decode cX4_pushWrites 0 = .ok (.iconst 0, 1) := by decide +kernel
theorem dX4_pushWrites_1 : decode cX4_pushWrites 1 = .ok (.istore_n 2, 1) := by decide +kernel
theorem dX4_pushWrites_2 : decode cX4_pushWrites 2 = .ok (.iload_n 2, 1) := by decide +kernel
theorem dX4_pushWrites_3 : decode cX4_pushWrites 3 = .ok (.bipush 12, 2) := by decide +kernel
theorem dX4_pushWrites_5 : decode cX4_pushWrites 5 = .ok (.if_icmp .ge 36, 3) := by decide +kernel
theorem dX4_pushWrites_8 : decode cX4_pushWrites 8 = .ok (.aload_n 1, 1) := by decide +kernel
theorem dX4_pushWrites_9 : decode cX4_pushWrites 9 = .ok (.iload_n 2, 1) := by decide +kernel
theorem dX4_pushWrites_10 : decode cX4_pushWrites 10 = .ok (.invokevirtual 86, 3) := by decide +kernel
theorem dX4_pushWrites_13 : decode cX4_pushWrites 13 = .ok (.ifCond .eq 22, 3) := by decide +kernel
theorem dX4_pushWrites_16 : decode cX4_pushWrites 16 = .ok (.aload_n 0, 1) := by decide +kernel
theorem dX4_pushWrites_17 : decode cX4_pushWrites 17 = .ok (.getfield 11, 3) := by decide +kernel
theorem dX4_pushWrites_20 : decode cX4_pushWrites 20 = .ok (.iload_n 2, 1) := by decide +kernel
theorem dX4_pushWrites_21 : decode cX4_pushWrites 21 = .ok (.aaload, 1) := by decide +kernel
theorem dX4_pushWrites_22 : decode cX4_pushWrites 22 = .ok (.aload_n 1, 1) := by decide +kernel
theorem dX4_pushWrites_23 : decode cX4_pushWrites 23 = .ok (.getfield 185, 3) := by decide +kernel
theorem dX4_pushWrites_26 : decode cX4_pushWrites 26 = .ok (.iload_n 2, 1) := by decide +kernel
theorem dX4_pushWrites_27 : decode cX4_pushWrites 27 = .ok (.iaload, 1) := by decide +kernel
theorem dX4_pushWrites_28 : decode cX4_pushWrites 28 = .ok (.aload_n 0, 1) := by decide +kernel
theorem dX4_pushWrites_29 : decode cX4_pushWrites 29 = .ok (.getfield 56, 3) := by decide +kernel
theorem dX4_pushWrites_32 : decode cX4_pushWrites 32 = .ok (.invokevirtual 188, 3) := by decide +kernel
theorem dX4_pushWrites_35 : decode cX4_pushWrites 35 = .ok (.iinc 2 1, 3) := by decide +kernel
theorem dX4_pushWrites_38 : decode cX4_pushWrites 38 = .ok (.goto (-36), 3) := by decide +kernel
theorem dX4_pushWrites_41 : decode cX4_pushWrites 41 = .ok (.return_, 1) := by decide +kernel
theorem dX5_init_0 : decode cX5_init 0 = .ok (.aload_n 0, 1) := by decide +kernel
theorem dX5_init_1 : decode cX5_init 1 = .ok (.invokespecial 3, 3) := by decide +kernel
theorem dX5_init_4 : decode cX5_init 4 = .ok (.aload_n 0, 1) := by decide +kernel
theorem dX5_init_5 : decode cX5_init 5 = .ok (.bipush 60, 2) := by decide +kernel
theorem dX5_init_7 : decode cX5_init 7 = .ok (.newarray .char, 2) := by decide +kernel
theorem dX5_init_9 : decode cX5_init 9 = .ok (.putfield 9, 3) := by decide +kernel
theorem dX5_init_12 : decode cX5_init 12 = .ok (.aload_n 0, 1) := by decide +kernel
theorem dX5_init_13 : decode cX5_init 13 = .ok (.bipush 16, 2) := by decide +kernel
theorem dX5_init_15 : decode cX5_init 15 = .ok (.newarray .int, 2) := by decide +kernel
theorem dX5_init_17 : decode cX5_init 17 = .ok (.putfield 15, 3) := by decide +kernel
theorem dX5_init_20 : decode cX5_init 20 = .ok (.aload_n 0, 1) := by decide +kernel
theorem dX5_init_21 : decode cX5_init 21 = .ok (.bipush 16, 2) := by decide +kernel
theorem dX5_init_23 : decode cX5_init 23 = .ok (.newarray .int, 2) := by decide +kernel
theorem dX5_init_25 : decode cX5_init 25 = .ok (.putfield 19, 3) := by decide +kernel
theorem dX5_init_28 : decode cX5_init 28 = .ok (.return_, 1) := by decide +kernel
theorem dX6_init_0 : decode cX6_init 0 = .ok (.aload_n 0, 1) := by decide +kernel
theorem dX6_init_1 : decode cX6_init 1 = .ok (.invokespecial 3, 3) := by decide +kernel
theorem dX6_init_4 : decode cX6_init 4 = .ok (.aload_n 0, 1) := by decide +kernel
theorem dX6_init_5 : decode cX6_init 5 = .ok (.new 9, 3) := by decide +kernel
theorem dX6_init_8 : decode cX6_init 8 = .ok (.dup, 1) := by decide +kernel
theorem dX6_init_9 : decode cX6_init 9 = .ok (.invokespecial 11, 3) := by decide +kernel
theorem dX6_init_12 : decode cX6_init 12 = .ok (.putfield 12, 3) := by decide +kernel
theorem dX6_init_15 : decode cX6_init 15 = .ok (.aload_n 0, 1) := by decide +kernel
theorem dX6_init_16 : decode cX6_init 16 = .ok (.new 9, 3) := by decide +kernel
theorem dX6_init_19 : decode cX6_init 19 = .ok (.dup, 1) := by decide +kernel
theorem dX6_init_20 : decode cX6_init 20 = .ok (.invokespecial 11, 3) := by decide +kernel
theorem dX6_init_23 : decode cX6_init 23 = .ok (.putfield 16, 3) := by decide +kernel
theorem dX6_init_26 : decode cX6_init 26 = .ok (.aload_n 0, 1) := by decide +kernel
