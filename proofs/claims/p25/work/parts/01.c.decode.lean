theorem dX6_init_27 : decode cX6_init 27 = .ok (.new 9, 3) := by decide +kernel
theorem dX6_init_30 : decode cX6_init 30 = .ok (.dup, 1) := by decide +kernel
theorem dX6_init_31 : decode cX6_init 31 = .ok (.invokespecial 11, 3) := by decide +kernel
theorem dX6_init_34 : decode cX6_init 34 = .ok (.putfield 19, 3) := by decide +kernel
theorem dX6_init_37 : decode cX6_init 37 = .ok (.aload_n 0, 1) := by decide +kernel
theorem dX6_init_38 : decode cX6_init 38 = .ok (.new 22, 3) := by decide +kernel
theorem dX6_init_41 : decode cX6_init 41 = .ok (.dup, 1) := by decide +kernel
theorem dX6_init_42 : decode cX6_init 42 = .ok (.invokespecial 24, 3) := by decide +kernel
theorem dX6_init_45 : decode cX6_init 45 = .ok (.putfield 25, 3) := by decide +kernel
theorem dX6_init_48 : decode cX6_init 48 = .ok (.aload_n 0, 1) := by decide +kernel
theorem dX6_init_49 : decode cX6_init 49 = .ok (.new 29, 3) := by decide +kernel
theorem dX6_init_52 : decode cX6_init 52 = .ok (.dup, 1) := by decide +kernel
theorem dX6_init_53 : decode cX6_init 53 = .ok (.invokespecial 31, 3) := by decide +kernel
theorem dX6_init_56 : decode cX6_init 56 = .ok (.putfield 32, 3) := by decide +kernel
theorem dX6_init_59 : decode cX6_init 59 = .ok (.return_, 1) := by decide +kernel
theorem dX6_open_0 : decode cX6_open 0 = .ok (.iload_n 1, 1) := by decide +kernel
theorem dX6_open_1 : decode cX6_open 1 = .ok (.ifCond .lt 10, 3) := by decide +kernel
theorem dX6_open_4 : decode cX6_open 4 = .ok (.iload_n 1, 1) := by decide +kernel
theorem dX6_open_5 : decode cX6_open 5 = .ok (.sipush 9999, 3) := by decide +kernel
theorem dX6_open_8 : decode cX6_open 8 = .ok (.if_icmp .le 6, 3) := by decide +kernel
theorem dX6_open_11 : decode cX6_open 11 = .ok (.bipush (-2), 2) := by decide +kernel
theorem dX6_open_13 : decode cX6_open 13 = .ok (.ireturn, 1) := by decide +kernel
theorem dX6_open_14 : decode cX6_open 14 = .ok (.aload_n 0, 1) := by decide +kernel
theorem dX6_open_15 : decode cX6_open 15 = .ok (.getfield 12, 3) := by decide +kernel
theorem dX6_open_18 : decode cX6_open 18 = .ok (.getfield 36, 3) := by decide +kernel
theorem dX6_open_21 : decode cX6_open 21 = .ok (.bipush 40, 2) := by decide +kernel
theorem dX6_open_23 : decode cX6_open 23 = .ok (.if_icmp .ge 16, 3) := by decide +kernel
theorem dX6_open_26 : decode cX6_open 26 = .ok (.aload_n 0, 1) := by decide +kernel
theorem dX6_open_27 : decode cX6_open 27 = .ok (.getfield 12, 3) := by decide +kernel
theorem dX6_open_30 : decode cX6_open 30 = .ok (.iconst 0, 1) := by decide +kernel
theorem dX6_open_31 : decode cX6_open 31 = .ok (.invokevirtual 40, 3) := by decide +kernel
theorem dX6_open_34 : decode cX6_open 34 = .ok (.bipush 8, 2) := by decide +kernel
theorem dX6_open_36 : decode cX6_open 36 = .ok (.if_icmp .lt 6, 3) := by decide +kernel
theorem dX6_open_39 : decode cX6_open 39 = .ok (.bipush (-3), 2) := by decide +kernel
theorem dX6_open_41 : decode cX6_open 41 = .ok (.ireturn, 1) := by decide +kernel
theorem dX6_open_42 : decode cX6_open 42 = .ok (.aload_n 0, 1) := by decide +kernel
theorem dX6_open_43 : decode cX6_open 43 = .ok (.getfield 25, 3) := by decide +kernel
theorem dX6_open_46 : decode cX6_open 46 = .ok (.aload_n 0, 1) := by decide +kernel
theorem dX6_open_47 : decode cX6_open 47 = .ok (.getfield 12, 3) := by decide +kernel
theorem dX6_open_50 : decode cX6_open 50 = .ok (.invokevirtual 44, 3) := by decide +kernel
theorem dX6_open_53 : decode cX6_open 53 = .ok (.aload_n 0, 1) := by decide +kernel
theorem dX6_open_54 : decode cX6_open 54 = .ok (.getfield 12, 3) := by decide +kernel
theorem dX6_open_57 : decode cX6_open 57 = .ok (.iload_n 1, 1) := by decide +kernel
theorem dX6_open_58 : decode cX6_open 58 = .ok (.invokevirtual 48, 3) := by decide +kernel
theorem dX6_open_61 : decode cX6_open 61 = .ok (.ireturn, 1) := by decide +kernel
theorem dX6_pay_0 : decode cX6_pay 0 = .ok (.aload_n 0, 1) := by decide +kernel
theorem dX6_pay_1 : decode cX6_pay 1 = .ok (.getfield 12, 3) := by decide +kernel
theorem dX6_pay_4 : decode cX6_pay 4 = .ok (.iload_n 1, 1) := by decide +kernel
theorem dX6_pay_5 : decode cX6_pay 5 = .ok (.invokevirtual 51, 3) := by decide +kernel
theorem dX6_pay_8 : decode cX6_pay 8 = .ok (.ifCond .ne 5, 3) := by decide +kernel
theorem dX6_pay_11 : decode cX6_pay 11 = .ok (.iconst (-1), 1) := by decide +kernel
theorem dX6_pay_12 : decode cX6_pay 12 = .ok (.ireturn, 1) := by decide +kernel
theorem dX6_pay_13 : decode cX6_pay 13 = .ok (.iload_n 2, 1) := by decide +kernel
theorem dX6_pay_14 : decode cX6_pay 14 = .ok (.iconst 1, 1) := by decide +kernel
theorem dX6_pay_15 : decode cX6_pay 15 = .ok (.if_icmp .lt 10, 3) := by decide +kernel
theorem dX6_pay_18 : decode cX6_pay 18 = .ok (.iload_n 2, 1) := by decide +kernel
theorem dX6_pay_19 : decode cX6_pay 19 = .ok (.sipush 9999, 3) := by decide +kernel
theorem dX6_pay_22 : decode cX6_pay 22 = .ok (.if_icmp .le 6, 3) := by decide +kernel
theorem dX6_pay_25 : decode cX6_pay 25 = .ok (.bipush (-2), 2) := by decide +kernel
theorem dX6_pay_27 : decode cX6_pay 27 = .ok (.ireturn, 1) := by decide +kernel
theorem dX6_pay_28 : decode cX6_pay 28 = .ok (.aload_n 0, 1) := by decide +kernel
theorem dX6_pay_29 : decode cX6_pay 29 = .ok (.getfield 12, 3) := by decide +kernel
theorem dX6_pay_32 : decode cX6_pay 32 = .ok (.getfield 55, 3) := by decide +kernel
theorem dX6_pay_35 : decode cX6_pay 35 = .ok (.iload_n 1, 1) := by decide +kernel
theorem dX6_pay_36 : decode cX6_pay 36 = .ok (.aaload, 1) := by decide +kernel
theorem dX6_pay_37 : decode cX6_pay 37 = .ok (.astore_n 3, 1) := by decide +kernel
theorem dX6_pay_38 : decode cX6_pay 38 = .ok (.aload_n 3, 1) := by decide +kernel
theorem dX6_pay_39 : decode cX6_pay 39 = .ok (.invokevirtual 59, 3) := by decide +kernel
theorem dX6_pay_42 : decode cX6_pay 42 = .ok (.ifCond .ne 6, 3) := by decide +kernel
theorem dX6_pay_45 : decode cX6_pay 45 = .ok (.bipush (-4), 2) := by decide +kernel
theorem dX6_pay_47 : decode cX6_pay 47 = .ok (.ireturn, 1) := by decide +kernel
theorem dX6_pay_48 : decode cX6_pay 48 = .ok (.aload_n 3, 1) := by decide +kernel
theorem dX6_pay_49 : decode cX6_pay 49 = .ok (.getfield 65, 3) := by decide +kernel
theorem dX6_pay_52 : decode cX6_pay 52 = .ok (.iload_n 2, 1) := by decide +kernel
theorem dX6_pay_53 : decode cX6_pay 53 = .ok (.iadd, 1) := by decide +kernel
theorem dX6_pay_54 : decode cX6_pay 54 = .ok (.sipush 9999, 3) := by decide +kernel
theorem dX6_pay_57 : decode cX6_pay 57 = .ok (.if_icmp .le 6, 3) := by decide +kernel
theorem dX6_pay_60 : decode cX6_pay 60 = .ok (.bipush (-3), 2) := by decide +kernel
theorem dX6_pay_62 : decode cX6_pay 62 = .ok (.ireturn, 1) := by decide +kernel
theorem dX6_pay_63 : decode cX6_pay 63 = .ok (.aload_n 0, 1) := by decide +kernel
theorem dX6_pay_64 : decode cX6_pay 64 = .ok (.getfield 25, 3) := by decide +kernel
theorem dX6_pay_67 : decode cX6_pay 67 = .ok (.aload_n 0, 1) := by decide +kernel
theorem dX6_pay_68 : decode cX6_pay 68 = .ok (.getfield 12, 3) := by decide +kernel
theorem dX6_pay_71 : decode cX6_pay 71 = .ok (.invokevirtual 44, 3) := by decide +kernel
theorem dX6_pay_74 : decode cX6_pay 74 = .ok (.aload_n 3, 1) := by decide +kernel
theorem dX6_pay_75 : decode cX6_pay 75 = .ok (.dup, 1) := by decide +kernel
theorem dX6_pay_76 : decode cX6_pay 76 = .ok (.getfield 65, 3) := by decide +kernel
theorem dX6_pay_79 : decode cX6_pay 79 = .ok (.iload_n 2, 1) := by decide +kernel
theorem dX6_pay_80 : decode cX6_pay 80 = .ok (.iadd, 1) := by decide +kernel
theorem dX6_pay_81 : decode cX6_pay 81 = .ok (.putfield 65, 3) := by decide +kernel
theorem dX6_pay_84 : decode cX6_pay 84 = .ok (.aload_n 3, 1) := by decide +kernel
theorem dX6_pay_85 : decode cX6_pay 85 = .ok (.getfield 65, 3) := by decide +kernel
theorem dX6_pay_88 : decode cX6_pay 88 = .ok (.ireturn, 1) := by decide +kernel
theorem dX6_widow_0 : decode cX6_widow 0 = .ok (.aload_n 0, 1) := by decide +kernel
theorem dX6_widow_1 : decode cX6_widow 1 = .ok (.getfield 12, 3) := by decide +kernel
theorem dX6_widow_4 : decode cX6_widow 4 = .ok (.iload_n 1, 1) := by decide +kernel
theorem dX6_widow_5 : decode cX6_widow 5 = .ok (.invokevirtual 51, 3) := by decide +kernel
theorem dX6_widow_8 : decode cX6_widow 8 = .ok (.ifCond .ne 5, 3) := by decide +kernel
theorem dX6_widow_11 : decode cX6_widow 11 = .ok (.iconst (-1), 1) := by decide +kernel
theorem dX6_widow_12 : decode cX6_widow 12 = .ok (.ireturn, 1) := by decide +kernel
theorem dX6_widow_13 : decode cX6_widow 13 = .ok (.iload_n 2, 1) := by decide +kernel
theorem dX6_widow_14 : decode cX6_widow 14 = .ok (.iconst 1, 1) := by decide +kernel
theorem dX6_widow_15 : decode cX6_widow 15 = .ok (.if_icmp .lt 9, 3) := by decide +kernel
theorem dX6_widow_18 : decode cX6_widow 18 = .ok (.iload_n 2, 1) := by decide +kernel
theorem dX6_widow_19 : decode cX6_widow 19 = .ok (.bipush 20, 2) := by decide +kernel
theorem dX6_widow_21 : decode cX6_widow 21 = .ok (.if_icmp .le 6, 3) := by decide +kernel
theorem dX6_widow_24 : decode cX6_widow 24 = .ok (.bipush (-2), 2) := by decide +kernel
theorem dX6_widow_26 : decode cX6_widow 26 = .ok (.ireturn, 1) := by decide +kernel
theorem dX6_widow_27 : decode cX6_widow 27 = .ok (.aload_n 0, 1) := by decide +kernel
theorem dX6_widow_28 : decode cX6_widow 28 = .ok (.getfield 12, 3) := by decide +kernel
theorem dX6_widow_31 : decode cX6_widow 31 = .ok (.getfield 55, 3) := by decide +kernel
theorem dX6_widow_34 : decode cX6_widow 34 = .ok (.iload_n 1, 1) := by decide +kernel
theorem dX6_widow_35 : decode cX6_widow 35 = .ok (.aaload, 1) := by decide +kernel
theorem dX6_widow_36 : decode cX6_widow 36 = .ok (.astore_n 3, 1) := by decide +kernel
theorem dX6_widow_37 : decode cX6_widow 37 = .ok (.aload_n 3, 1) := by decide +kernel
theorem dX6_widow_38 : decode cX6_widow 38 = .ok (.invokevirtual 59, 3) := by decide +kernel
theorem dX6_widow_41 : decode cX6_widow 41 = .ok (.ifCond .eq 10, 3) := by decide +kernel
theorem dX6_widow_44 : decode cX6_widow 44 = .ok (.aload_n 3, 1) := by decide +kernel
theorem dX6_widow_45 : decode cX6_widow 45 = .ok (.getfield 68, 3) := by decide +kernel
theorem dX6_widow_48 : decode cX6_widow 48 = .ok (.ifCond .eq 6, 3) := by decide +kernel
theorem dX6_widow_51 : decode cX6_widow 51 = .ok (.bipush (-4), 2) := by decide +kernel
theorem dX6_widow_53 : decode cX6_widow 53 = .ok (.ireturn, 1) := by decide +kernel
theorem dX6_widow_54 : decode cX6_widow 54 = .ok (.aload_n 0, 1) := by decide +kernel
theorem dX6_widow_55 : decode cX6_widow 55 = .ok (.getfield 25, 3) := by decide +kernel
theorem dX6_widow_58 : decode cX6_widow 58 = .ok (.aload_n 0, 1) := by decide +kernel
theorem dX6_widow_59 : decode cX6_widow 59 = .ok (.getfield 12, 3) := by decide +kernel
theorem dX6_widow_62 : decode cX6_widow 62 = .ok (.invokevirtual 44, 3) := by decide +kernel
theorem dX6_widow_65 : decode cX6_widow 65 = .ok (.aload_n 0, 1) := by decide +kernel
theorem dX6_widow_66 : decode cX6_widow 66 = .ok (.getfield 12, 3) := by decide +kernel
theorem dX6_widow_69 : decode cX6_widow 69 = .ok (.aload_n 3, 1) := by decide +kernel
theorem dX6_widow_70 : decode cX6_widow 70 = .ok (.invokevirtual 72, 3) := by decide +kernel
theorem dX6_widow_73 : decode cX6_widow 73 = .ok (.istore 4, 2) := by decide +kernel
theorem dX6_widow_75 : decode cX6_widow 75 = .ok (.aload_n 3, 1) := by decide +kernel
theorem dX6_widow_76 : decode cX6_widow 76 = .ok (.iconst 1, 1) := by decide +kernel
theorem dX6_widow_77 : decode cX6_widow 77 = .ok (.putfield 68, 3) := by decide +kernel
theorem dX6_widow_80 : decode cX6_widow 80 = .ok (.aload_n 3, 1) := by decide +kernel
theorem dX6_widow_81 : decode cX6_widow 81 = .ok (.iload_n 2, 1) := by decide +kernel
theorem dX6_widow_82 : decode cX6_widow 82 = .ok (.putfield 76, 3) := by decide +kernel
theorem dX6_widow_85 : decode cX6_widow 85 = .ok (.iload 4, 2) := by decide +kernel
theorem dX6_widow_87 : decode cX6_widow 87 = .ok (.ireturn, 1) := by decide +kernel
theorem dX6_close_0 : decode cX6_close 0 = .ok (.aload_n 0, 1) := by decide +kernel
theorem dX6_close_1 : decode cX6_close 1 = .ok (.getfield 12, 3) := by decide +kernel
theorem dX6_close_4 : decode cX6_close 4 = .ok (.iload_n 1, 1) := by decide +kernel
theorem dX6_close_5 : decode cX6_close 5 = .ok (.invokevirtual 51, 3) := by decide +kernel
theorem dX6_close_8 : decode cX6_close 8 = .ok (.ifCond .ne 5, 3) := by decide +kernel
theorem dX6_close_11 : decode cX6_close 11 = .ok (.iconst (-1), 1) := by decide +kernel
theorem dX6_close_12 : decode cX6_close 12 = .ok (.ireturn, 1) := by decide +kernel
theorem dX6_close_13 : decode cX6_close 13 = .ok (.aload_n 0, 1) := by decide +kernel
theorem dX6_close_14 : decode cX6_close 14 = .ok (.getfield 12, 3) := by decide +kernel
theorem dX6_close_17 : decode cX6_close 17 = .ok (.getfield 55, 3) := by decide +kernel
theorem dX6_close_20 : decode cX6_close 20 = .ok (.iload_n 1, 1) := by decide +kernel
theorem dX6_close_21 : decode cX6_close 21 = .ok (.aaload, 1) := by decide +kernel
theorem dX6_close_22 : decode cX6_close 22 = .ok (.astore_n 2, 1) := by decide +kernel
theorem dX6_close_23 : decode cX6_close 23 = .ok (.aload_n 2, 1) := by decide +kernel
theorem dX6_close_24 : decode cX6_close 24 = .ok (.invokevirtual 59, 3) := by decide +kernel
theorem dX6_close_27 : decode cX6_close 27 = .ok (.ifCond .ne 6, 3) := by decide +kernel
theorem dX6_close_30 : decode cX6_close 30 = .ok (.bipush (-4), 2) := by decide +kernel
theorem dX6_close_32 : decode cX6_close 32 = .ok (.ireturn, 1) := by decide +kernel
theorem dX6_close_33 : decode cX6_close 33 = .ok (.aload_n 0, 1) := by decide +kernel
theorem dX6_close_34 : decode cX6_close 34 = .ok (.getfield 25, 3) := by decide +kernel
theorem dX6_close_37 : decode cX6_close 37 = .ok (.aload_n 0, 1) := by decide +kernel
theorem dX6_close_38 : decode cX6_close 38 = .ok (.getfield 12, 3) := by decide +kernel
theorem dX6_close_41 : decode cX6_close 41 = .ok (.invokevirtual 44, 3) := by decide +kernel
theorem dX6_close_44 : decode cX6_close 44 = .ok (.aload_n 2, 1) := by decide +kernel
theorem dX6_close_45 : decode cX6_close 45 = .ok (.iconst 2, 1) := by decide +kernel
theorem dX6_close_46 : decode cX6_close 46 = .ok (.putfield 79, 3) := by decide +kernel
theorem dX6_close_49 : decode cX6_close 49 = .ok (.aload_n 0, 1) := by decide +kernel
theorem dX6_close_50 : decode cX6_close 50 = .ok (.getfield 12, 3) := by decide +kernel
theorem dX6_close_53 : decode cX6_close 53 = .ok (.invokevirtual 82, 3) := by decide +kernel
theorem dX6_close_56 : decode cX6_close 56 = .ok (.ireturn, 1) := by decide +kernel
theorem dX6_setRent_0 : decode cX6_setRent 0 = .ok (.iload_n 1, 1) := by decide +kernel
theorem dX6_setRent_1 : decode cX6_setRent 1 = .ok (.ifCond .lt 9, 3) := by decide +kernel
theorem dX6_setRent_4 : decode cX6_setRent 4 = .ok (.iload_n 1, 1) := by decide +kernel
theorem dX6_setRent_5 : decode cX6_setRent 5 = .ok (.bipush 99, 2) := by decide +kernel
theorem dX6_setRent_7 : decode cX6_setRent 7 = .ok (.if_icmp .le 6, 3) := by decide +kernel
theorem dX6_setRent_10 : decode cX6_setRent 10 = .ok (.bipush (-2), 2) := by decide +kernel
theorem dX6_setRent_12 : decode cX6_setRent 12 = .ok (.ireturn, 1) := by decide +kernel
theorem dX6_setRent_13 : decode cX6_setRent 13 = .ok (.aload_n 0, 1) := by decide +kernel
theorem dX6_setRent_14 : decode cX6_setRent 14 = .ok (.getfield 12, 3) := by decide +kernel
theorem dX6_setRent_17 : decode cX6_setRent 17 = .ok (.getfield 86, 3) := by decide +kernel
theorem dX6_setRent_20 : decode cX6_setRent 20 = .ok (.istore_n 2, 1) := by decide +kernel
theorem dX6_setRent_21 : decode cX6_setRent 21 = .ok (.iload_n 1, 1) := by decide +kernel
theorem dX6_setRent_22 : decode cX6_setRent 22 = .ok (.iload_n 2, 1) := by decide +kernel
theorem dX6_setRent_23 : decode cX6_setRent 23 = .ok (.if_icmp .ne 6, 3) := by decide +kernel
theorem dX6_setRent_26 : decode cX6_setRent 26 = .ok (.bipush (-5), 2) := by decide +kernel
theorem dX6_setRent_28 : decode cX6_setRent 28 = .ok (.ireturn, 1) := by decide +kernel
theorem dX6_setRent_29 : decode cX6_setRent 29 = .ok (.aload_n 0, 1) := by decide +kernel
theorem dX6_setRent_30 : decode cX6_setRent 30 = .ok (.getfield 25, 3) := by decide +kernel
theorem dX6_setRent_33 : decode cX6_setRent 33 = .ok (.aload_n 0, 1) := by decide +kernel
theorem dX6_setRent_34 : decode cX6_setRent 34 = .ok (.getfield 12, 3) := by decide +kernel
theorem dX6_setRent_37 : decode cX6_setRent 37 = .ok (.invokevirtual 44, 3) := by decide +kernel
theorem dX6_setRent_40 : decode cX6_setRent 40 = .ok (.aload_n 0, 1) := by decide +kernel
theorem dX6_setRent_41 : decode cX6_setRent 41 = .ok (.getfield 12, 3) := by decide +kernel
theorem dX6_setRent_44 : decode cX6_setRent 44 = .ok (.iload_n 1, 1) := by decide +kernel
theorem dX6_setRent_45 : decode cX6_setRent 45 = .ok (.putfield 86, 3) := by decide +kernel
theorem dX6_setRent_48 : decode cX6_setRent 48 = .ok (.iload_n 2, 1) := by decide +kernel
theorem dX6_setRent_49 : decode cX6_setRent 49 = .ok (.ireturn, 1) := by decide +kernel
theorem dX6_forbidSkew_0 : decode cX6_forbidSkew 0 = .ok (.iload_n 1, 1) := by decide +kernel
theorem dX6_forbidSkew_1 : decode cX6_forbidSkew 1 = .ok (.aload_n 0, 1) := by decide +kernel
theorem dX6_forbidSkew_2 : decode cX6_forbidSkew 2 = .ok (.getfield 12, 3) := by decide +kernel
theorem dX6_forbidSkew_5 : decode cX6_forbidSkew 5 = .ok (.getfield 89, 3) := by decide +kernel
theorem dX6_forbidSkew_8 : decode cX6_forbidSkew 8 = .ok (.if_icmp .ne 6, 3) := by decide +kernel
theorem dX6_forbidSkew_11 : decode cX6_forbidSkew 11 = .ok (.bipush (-5), 2) := by decide +kernel
theorem dX6_forbidSkew_13 : decode cX6_forbidSkew 13 = .ok (.ireturn, 1) := by decide +kernel
theorem dX6_forbidSkew_14 : decode cX6_forbidSkew 14 = .ok (.aload_n 0, 1) := by decide +kernel
theorem dX6_forbidSkew_15 : decode cX6_forbidSkew 15 = .ok (.getfield 25, 3) := by decide +kernel
theorem dX6_forbidSkew_18 : decode cX6_forbidSkew 18 = .ok (.aload_n 0, 1) := by decide +kernel
theorem dX6_forbidSkew_19 : decode cX6_forbidSkew 19 = .ok (.getfield 12, 3) := by decide +kernel
theorem dX6_forbidSkew_22 : decode cX6_forbidSkew 22 = .ok (.invokevirtual 44, 3) := by decide +kernel
theorem dX6_forbidSkew_25 : decode cX6_forbidSkew 25 = .ok (.aload_n 0, 1) := by decide +kernel
theorem dX6_forbidSkew_26 : decode cX6_forbidSkew 26 = .ok (.getfield 12, 3) := by decide +kernel
theorem dX6_forbidSkew_29 : decode cX6_forbidSkew 29 = .ok (.iload_n 1, 1) := by decide +kernel
theorem dX6_forbidSkew_30 : decode cX6_forbidSkew 30 = .ok (.putfield 89, 3) := by decide +kernel
theorem dX6_forbidSkew_33 : decode cX6_forbidSkew 33 = .ok (.aload_n 0, 1) := by decide +kernel
theorem dX6_forbidSkew_34 : decode cX6_forbidSkew 34 = .ok (.getfield 12, 3) := by decide +kernel
theorem dX6_forbidSkew_37 : decode cX6_forbidSkew 37 = .ok (.invokevirtual 92, 3) := by decide +kernel
theorem dX6_forbidSkew_40 : decode cX6_forbidSkew 40 = .ok (.ireturn, 1) := by decide +kernel
theorem dX6_tick_0 : decode cX6_tick 0 = .ok (.iload_n 1, 1) := by decide +kernel
theorem dX6_tick_1 : decode cX6_tick 1 = .ok (.iconst 1, 1) := by decide +kernel
theorem dX6_tick_2 : decode cX6_tick 2 = .ok (.if_icmp .lt 9, 3) := by decide +kernel
theorem dX6_tick_5 : decode cX6_tick 5 = .ok (.iload_n 1, 1) := by decide +kernel
theorem dX6_tick_6 : decode cX6_tick 6 = .ok (.bipush 60, 2) := by decide +kernel
theorem dX6_tick_8 : decode cX6_tick 8 = .ok (.if_icmp .le 6, 3) := by decide +kernel
theorem dX6_tick_11 : decode cX6_tick 11 = .ok (.bipush (-2), 2) := by decide +kernel
theorem dX6_tick_13 : decode cX6_tick 13 = .ok (.ireturn, 1) := by decide +kernel
theorem dX6_tick_14 : decode cX6_tick 14 = .ok (.aload_n 0, 1) := by decide +kernel
theorem dX6_tick_15 : decode cX6_tick 15 = .ok (.getfield 25, 3) := by decide +kernel
theorem dX6_tick_18 : decode cX6_tick 18 = .ok (.aload_n 0, 1) := by decide +kernel
theorem dX6_tick_19 : decode cX6_tick 19 = .ok (.getfield 12, 3) := by decide +kernel
theorem dX6_tick_22 : decode cX6_tick 22 = .ok (.invokevirtual 44, 3) := by decide +kernel
theorem dX6_tick_25 : decode cX6_tick 25 = .ok (.aload_n 0, 1) := by decide +kernel
theorem dX6_tick_26 : decode cX6_tick 26 = .ok (.getfield 12, 3) := by decide +kernel
theorem dX6_tick_29 : decode cX6_tick 29 = .ok (.iconst 3, 1) := by decide +kernel
theorem dX6_tick_30 : decode cX6_tick 30 = .ok (.invokevirtual 40, 3) := by decide +kernel
theorem dX6_tick_33 : decode cX6_tick 33 = .ok (.istore_n 2, 1) := by decide +kernel
theorem dX6_tick_34 : decode cX6_tick 34 = .ok (.aload_n 0, 1) := by decide +kernel
theorem dX6_tick_35 : decode cX6_tick 35 = .ok (.getfield 12, 3) := by decide +kernel
theorem dX6_tick_38 : decode cX6_tick 38 = .ok (.iload_n 1, 1) := by decide +kernel
theorem dX6_tick_39 : decode cX6_tick 39 = .ok (.iconst (-1), 1) := by decide +kernel
theorem dX6_tick_40 : decode cX6_tick 40 = .ok (.invokevirtual 95, 3) := by decide +kernel
theorem dX6_tick_43 : decode cX6_tick 43 = .ok (.aload_n 0, 1) := by decide +kernel
theorem dX6_tick_44 : decode cX6_tick 44 = .ok (.getfield 12, 3) := by decide +kernel
theorem dX6_tick_47 : decode cX6_tick 47 = .ok (.iconst 3, 1) := by decide +kernel
theorem dX6_tick_48 : decode cX6_tick 48 = .ok (.invokevirtual 40, 3) := by decide +kernel
theorem dX6_tick_51 : decode cX6_tick 51 = .ok (.iload_n 2, 1) := by decide +kernel
theorem dX6_tick_52 : decode cX6_tick 52 = .ok (.isub, 1) := by decide +kernel
theorem dX6_tick_53 : decode cX6_tick 53 = .ok (.ireturn, 1) := by decide +kernel
theorem dX6_read_0 : decode cX6_read 0 = .ok (.aload_n 0, 1) := by decide +kernel
theorem dX6_read_1 : decode cX6_read 1 = .ok (.getfield 12, 3) := by decide +kernel
theorem dX6_read_4 : decode cX6_read 4 = .ok (.iload_n 1, 1) := by decide +kernel
theorem dX6_read_5 : decode cX6_read 5 = .ok (.invokevirtual 51, 3) := by decide +kernel
theorem dX6_read_8 : decode cX6_read 8 = .ok (.ifCond .eq 10, 3) := by decide +kernel
theorem dX6_read_11 : decode cX6_read 11 = .ok (.iload_n 2, 1) := by decide +kernel
theorem dX6_read_12 : decode cX6_read 12 = .ok (.invokestatic 99, 3) := by decide +kernel
theorem dX6_read_15 : decode cX6_read 15 = .ok (.ifCond .ne 5, 3) := by decide +kernel
theorem dX6_read_18 : decode cX6_read 18 = .ok (.iconst (-1), 1) := by decide +kernel
theorem dX6_read_19 : decode cX6_read 19 = .ok (.ireturn, 1) := by decide +kernel
theorem dX6_read_20 : decode cX6_read 20 = .ok (.aload_n 0, 1) := by decide +kernel
theorem dX6_read_21 : decode cX6_read 21 = .ok (.getfield 12, 3) := by decide +kernel
theorem dX6_read_24 : decode cX6_read 24 = .ok (.getfield 55, 3) := by decide +kernel
theorem dX6_read_27 : decode cX6_read 27 = .ok (.iload_n 1, 1) := by decide +kernel
theorem dX6_read_28 : decode cX6_read 28 = .ok (.aaload, 1) := by decide +kernel
theorem dX6_read_29 : decode cX6_read 29 = .ok (.astore_n 3, 1) := by decide +kernel
theorem dX6_read_30 : decode cX6_read 30 = .ok (.aload_n 3, 1) := by decide +kernel
theorem dX6_read_31 : decode cX6_read 31 = .ok (.invokevirtual 59, 3) := by decide +kernel
theorem dX6_read_34 : decode cX6_read 34 = .ok (.ifCond .ne 6, 3) := by decide +kernel
theorem dX6_read_37 : decode cX6_read 37 = .ok (.bipush (-4), 2) := by decide +kernel
theorem dX6_read_39 : decode cX6_read 39 = .ok (.ireturn, 1) := by decide +kernel
theorem dX6_read_40 : decode cX6_read 40 = .ok (.aload_n 0, 1) := by decide +kernel
theorem dX6_read_41 : decode cX6_read 41 = .ok (.getfield 25, 3) := by decide +kernel
theorem dX6_read_44 : decode cX6_read 44 = .ok (.aload_n 0, 1) := by decide +kernel
theorem dX6_read_45 : decode cX6_read 45 = .ok (.getfield 12, 3) := by decide +kernel
theorem dX6_read_48 : decode cX6_read 48 = .ok (.invokevirtual 44, 3) := by decide +kernel
theorem dX6_read_51 : decode cX6_read 51 = .ok (.aload_n 3, 1) := by decide +kernel
theorem dX6_read_52 : decode cX6_read 52 = .ok (.iload_n 2, 1) := by decide +kernel
theorem dX6_read_53 : decode cX6_read 53 = .ok (.invokevirtual 102, 3) := by decide +kernel
theorem dX6_read_56 : decode cX6_read 56 = .ok (.ifCond .eq 10, 3) := by decide +kernel
theorem dX6_read_59 : decode cX6_read 59 = .ok (.aload_n 3, 1) := by decide +kernel
theorem dX6_read_60 : decode cX6_read 60 = .ok (.getfield 105, 3) := by decide +kernel
theorem dX6_read_63 : decode cX6_read 63 = .ok (.iload_n 2, 1) := by decide +kernel
theorem dX6_read_64 : decode cX6_read 64 = .ok (.iaload, 1) := by decide +kernel
theorem dX6_read_65 : decode cX6_read 65 = .ok (.ireturn, 1) := by decide +kernel
theorem dX6_read_66 : decode cX6_read 66 = .ok (.aload_n 3, 1) := by decide +kernel
theorem dX6_read_67 : decode cX6_read 67 = .ok (.dup, 1) := by decide +kernel
theorem dX6_read_68 : decode cX6_read 68 = .ok (.getfield 109, 3) := by decide +kernel
theorem dX6_read_71 : decode cX6_read 71 = .ok (.iconst 1, 1) := by decide +kernel
theorem dX6_read_72 : decode cX6_read 72 = .ok (.iload_n 2, 1) := by decide +kernel
theorem dX6_read_73 : decode cX6_read 73 = .ok (.ishl, 1) := by decide +kernel
theorem dX6_read_74 : decode cX6_read 74 = .ok (.ior, 1) := by decide +kernel
theorem dX6_read_75 : decode cX6_read 75 = .ok (.putfield 109, 3) := by decide +kernel
theorem dX6_read_78 : decode cX6_read 78 = .ok (.aload_n 0, 1) := by decide +kernel
theorem dX6_read_79 : decode cX6_read 79 = .ok (.getfield 12, 3) := by decide +kernel
theorem dX6_read_82 : decode cX6_read 82 = .ok (.getfield 112, 3) := by decide +kernel
theorem dX6_read_85 : decode cX6_read 85 = .ok (.iload_n 2, 1) := by decide +kernel
theorem dX6_read_86 : decode cX6_read 86 = .ok (.aaload, 1) := by decide +kernel
theorem dX6_read_87 : decode cX6_read 87 = .ok (.aload_n 3, 1) := by decide +kernel
theorem dX6_read_88 : decode cX6_read 88 = .ok (.getfield 116, 3) := by decide +kernel
theorem dX6_read_91 : decode cX6_read 91 = .ok (.invokevirtual 119, 3) := by decide +kernel
theorem dX6_read_94 : decode cX6_read 94 = .ok (.ireturn, 1) := by decide +kernel
theorem dX6_write_0 : decode cX6_write 0 = .ok (.aload_n 0, 1) := by decide +kernel
theorem dX6_write_1 : decode cX6_write 1 = .ok (.getfield 12, 3) := by decide +kernel
theorem dX6_write_4 : decode cX6_write 4 = .ok (.iload_n 1, 1) := by decide +kernel
theorem dX6_write_5 : decode cX6_write 5 = .ok (.invokevirtual 51, 3) := by decide +kernel
theorem dX6_write_8 : decode cX6_write 8 = .ok (.ifCond .eq 10, 3) := by decide +kernel
theorem dX6_write_11 : decode cX6_write 11 = .ok (.iload_n 2, 1) := by decide +kernel
theorem dX6_write_12 : decode cX6_write 12 = .ok (.invokestatic 99, 3) := by decide +kernel
theorem dX6_write_15 : decode cX6_write 15 = .ok (.ifCond .ne 5, 3) := by decide +kernel
theorem dX6_write_18 : decode cX6_write 18 = .ok (.iconst (-1), 1) := by decide +kernel
theorem dX6_write_19 : decode cX6_write 19 = .ok (.ireturn, 1) := by decide +kernel
theorem dX6_write_20 : decode cX6_write 20 = .ok (.iload_n 3, 1) := by decide +kernel
theorem dX6_write_21 : decode cX6_write 21 = .ok (.ifCond .lt 10, 3) := by decide +kernel
theorem dX6_write_24 : decode cX6_write 24 = .ok (.iload_n 3, 1) := by decide +kernel
theorem dX6_write_25 : decode cX6_write 25 = .ok (.sipush 9999, 3) := by decide +kernel
theorem dX6_write_28 : decode cX6_write 28 = .ok (.if_icmp .le 6, 3) := by decide +kernel
theorem dX6_write_31 : decode cX6_write 31 = .ok (.bipush (-2), 2) := by decide +kernel
theorem dX6_write_33 : decode cX6_write 33 = .ok (.ireturn, 1) := by decide +kernel
theorem dX6_write_34 : decode cX6_write 34 = .ok (.aload_n 0, 1) := by decide +kernel
theorem dX6_write_35 : decode cX6_write 35 = .ok (.getfield 12, 3) := by decide +kernel
theorem dX6_write_38 : decode cX6_write 38 = .ok (.getfield 55, 3) := by decide +kernel
theorem dX6_write_41 : decode cX6_write 41 = .ok (.iload_n 1, 1) := by decide +kernel
theorem dX6_write_42 : decode cX6_write 42 = .ok (.aaload, 1) := by decide +kernel
theorem dX6_write_43 : decode cX6_write 43 = .ok (.astore 4, 2) := by decide +kernel
theorem dX6_write_45 : decode cX6_write 45 = .ok (.aload 4, 2) := by decide +kernel
theorem dX6_write_47 : decode cX6_write 47 = .ok (.invokevirtual 59, 3) := by decide +kernel
theorem dX6_write_50 : decode cX6_write 50 = .ok (.ifCond .ne 6, 3) := by decide +kernel
theorem dX6_write_53 : decode cX6_write 53 = .ok (.bipush (-4), 2) := by decide +kernel
theorem dX6_write_55 : decode cX6_write 55 = .ok (.ireturn, 1) := by decide +kernel
theorem dX6_write_56 : decode cX6_write 56 = .ok (.aload_n 0, 1) := by decide +kernel
theorem dX6_write_57 : decode cX6_write 57 = .ok (.getfield 25, 3) := by decide +kernel
theorem dX6_write_60 : decode cX6_write 60 = .ok (.aload_n 0, 1) := by decide +kernel
theorem dX6_write_61 : decode cX6_write 61 = .ok (.getfield 12, 3) := by decide +kernel
theorem dX6_write_64 : decode cX6_write 64 = .ok (.invokevirtual 44, 3) := by decide +kernel
theorem dX6_write_67 : decode cX6_write 67 = .ok (.aload 4, 2) := by decide +kernel
theorem dX6_write_69 : decode cX6_write 69 = .ok (.iload_n 2, 1) := by decide +kernel
theorem dX6_write_70 : decode cX6_write 70 = .ok (.iload_n 3, 1) := by decide +kernel
theorem dX6_write_71 : decode cX6_write 71 = .ok (.invokevirtual 124, 3) := by decide +kernel
theorem dX6_write_74 : decode cX6_write 74 = .ok (.aload 4, 2) := by decide +kernel
theorem dX6_write_76 : decode cX6_write 76 = .ok (.invokevirtual 127, 3) := by decide +kernel
theorem dX6_write_79 : decode cX6_write 79 = .ok (.ireturn, 1) := by decide +kernel
theorem dX6_commit_0 : decode cX6_commit 0 = .ok (.aload_n 0, 1) := by decide +kernel
theorem dX6_commit_1 : decode cX6_commit 1 = .ok (.getfield 12, 3) := by decide +kernel
theorem dX6_commit_4 : decode cX6_commit 4 = .ok (.iload_n 1, 1) := by decide +kernel
theorem dX6_commit_5 : decode cX6_commit 5 = .ok (.invokevirtual 51, 3) := by decide +kernel
theorem dX6_commit_8 : decode cX6_commit 8 = .ok (.ifCond .ne 5, 3) := by decide +kernel
theorem dX6_commit_11 : decode cX6_commit 11 = .ok (.iconst (-1), 1) := by decide +kernel
theorem dX6_commit_12 : decode cX6_commit 12 = .ok (.ireturn, 1) := by decide +kernel
theorem dX6_commit_13 : decode cX6_commit 13 = .ok (.aload_n 0, 1) := by decide +kernel
theorem dX6_commit_14 : decode cX6_commit 14 = .ok (.getfield 12, 3) := by decide +kernel
theorem dX6_commit_17 : decode cX6_commit 17 = .ok (.getfield 55, 3) := by decide +kernel
theorem dX6_commit_20 : decode cX6_commit 20 = .ok (.iload_n 1, 1) := by decide +kernel
theorem dX6_commit_21 : decode cX6_commit 21 = .ok (.aaload, 1) := by decide +kernel
theorem dX6_commit_22 : decode cX6_commit 22 = .ok (.astore_n 2, 1) := by decide +kernel
theorem dX6_commit_23 : decode cX6_commit 23 = .ok (.aload_n 2, 1) := by decide +kernel
theorem dX6_commit_24 : decode cX6_commit 24 = .ok (.invokevirtual 59, 3) := by decide +kernel
theorem dX6_commit_27 : decode cX6_commit 27 = .ok (.ifCond .ne 6, 3) := by decide +kernel
theorem dX6_commit_30 : decode cX6_commit 30 = .ok (.bipush (-4), 2) := by decide +kernel
theorem dX6_commit_32 : decode cX6_commit 32 = .ok (.ireturn, 1) := by decide +kernel
theorem dX6_commit_33 : decode cX6_commit 33 = .ok (.aload_n 0, 1) := by decide +kernel
theorem dX6_commit_34 : decode cX6_commit 34 = .ok (.getfield 12, 3) := by decide +kernel
theorem dX6_commit_37 : decode cX6_commit 37 = .ok (.aload_n 2, 1) := by decide +kernel
theorem dX6_commit_38 : decode cX6_commit 38 = .ok (.invokevirtual 130, 3) := by decide +kernel
theorem dX6_commit_41 : decode cX6_commit 41 = .ok (.ifCond .eq 6, 3) := by decide +kernel
theorem dX6_commit_44 : decode cX6_commit 44 = .ok (.bipush (-6), 2) := by decide +kernel
theorem dX6_commit_46 : decode cX6_commit 46 = .ok (.ireturn, 1) := by decide +kernel
theorem dX6_commit_47 : decode cX6_commit 47 = .ok (.aload_n 0, 1) := by decide +kernel
theorem dX6_commit_48 : decode cX6_commit 48 = .ok (.getfield 12, 3) := by decide +kernel
theorem dX6_commit_51 : decode cX6_commit 51 = .ok (.getfield 89, 3) := by decide +kernel
theorem dX6_commit_54 : decode cX6_commit 54 = .ok (.ifCond .eq 17, 3) := by decide +kernel
theorem dX6_commit_57 : decode cX6_commit 57 = .ok (.aload_n 0, 1) := by decide +kernel
theorem dX6_commit_58 : decode cX6_commit 58 = .ok (.getfield 12, 3) := by decide +kernel
theorem dX6_commit_61 : decode cX6_commit 61 = .ok (.aload_n 2, 1) := by decide +kernel
theorem dX6_commit_62 : decode cX6_commit 62 = .ok (.invokevirtual 134, 3) := by decide +kernel
theorem dX6_commit_65 : decode cX6_commit 65 = .ok (.ifCond .le 6, 3) := by decide +kernel
theorem dX6_commit_68 : decode cX6_commit 68 = .ok (.bipush (-4), 2) := by decide +kernel
theorem dX6_commit_70 : decode cX6_commit 70 = .ok (.ireturn, 1) := by decide +kernel
theorem dX6_commit_71 : decode cX6_commit 71 = .ok (.aload_n 0, 1) := by decide +kernel
theorem dX6_commit_72 : decode cX6_commit 72 = .ok (.getfield 12, 3) := by decide +kernel
theorem dX6_commit_75 : decode cX6_commit 75 = .ok (.iload_n 1, 1) := by decide +kernel
theorem dX6_commit_76 : decode cX6_commit 76 = .ok (.invokevirtual 137, 3) := by decide +kernel
theorem dX6_commit_79 : decode cX6_commit 79 = .ok (.bipush 40, 2) := by decide +kernel
theorem dX6_commit_81 : decode cX6_commit 81 = .ok (.if_icmp .le 6, 3) := by decide +kernel
theorem dX6_commit_84 : decode cX6_commit 84 = .ok (.bipush (-3), 2) := by decide +kernel
theorem dX6_commit_86 : decode cX6_commit 86 = .ok (.ireturn, 1) := by decide +kernel
theorem dX6_commit_87 : decode cX6_commit 87 = .ok (.aload_n 0, 1) := by decide +kernel
theorem dX6_commit_88 : decode cX6_commit 88 = .ok (.getfield 25, 3) := by decide +kernel
theorem dX6_commit_91 : decode cX6_commit 91 = .ok (.aload_n 0, 1) := by decide +kernel
theorem dX6_commit_92 : decode cX6_commit 92 = .ok (.getfield 12, 3) := by decide +kernel
theorem dX6_commit_95 : decode cX6_commit 95 = .ok (.invokevirtual 44, 3) := by decide +kernel
theorem dX6_commit_98 : decode cX6_commit 98 = .ok (.aload_n 0, 1) := by decide +kernel
theorem dX6_commit_99 : decode cX6_commit 99 = .ok (.getfield 12, 3) := by decide +kernel
theorem dX6_commit_102 : decode cX6_commit 102 = .ok (.iload_n 1, 1) := by decide +kernel
theorem dX6_commit_103 : decode cX6_commit 103 = .ok (.invokevirtual 140, 3) := by decide +kernel
theorem dX6_commit_106 : decode cX6_commit 106 = .ok (.aload_n 0, 1) := by decide +kernel
theorem dX6_commit_107 : decode cX6_commit 107 = .ok (.getfield 12, 3) := by decide +kernel
theorem dX6_commit_110 : decode cX6_commit 110 = .ok (.getfield 144, 3) := by decide +kernel
theorem dX6_commit_113 : decode cX6_commit 113 = .ok (.ireturn, 1) := by decide +kernel
theorem dX6_undo_0 : decode cX6_undo 0 = .ok (.aload_n 0, 1) := by decide +kernel
theorem dX6_undo_1 : decode cX6_undo 1 = .ok (.getfield 25, 3) := by decide +kernel
theorem dX6_undo_4 : decode cX6_undo 4 = .ok (.getfield 165, 3) := by decide +kernel
theorem dX6_undo_7 : decode cX6_undo 7 = .ok (.ifCond .ne 6, 3) := by decide +kernel
theorem dX6_undo_10 : decode cX6_undo 10 = .ok (.bipush (-5), 2) := by decide +kernel
theorem dX6_undo_12 : decode cX6_undo 12 = .ok (.ireturn, 1) := by decide +kernel
theorem dX6_undo_13 : decode cX6_undo 13 = .ok (.aload_n 0, 1) := by decide +kernel
theorem dX6_undo_14 : decode cX6_undo 14 = .ok (.getfield 25, 3) := by decide +kernel
theorem dX6_undo_17 : decode cX6_undo 17 = .ok (.aload_n 0, 1) := by decide +kernel
theorem dX6_undo_18 : decode cX6_undo 18 = .ok (.getfield 12, 3) := by decide +kernel
theorem dX6_undo_21 : decode cX6_undo 21 = .ok (.invokevirtual 166, 3) := by decide +kernel
theorem dX6_undo_24 : decode cX6_undo 24 = .ok (.aload_n 0, 1) := by decide +kernel
theorem dX6_undo_25 : decode cX6_undo 25 = .ok (.getfield 25, 3) := by decide +kernel
theorem dX6_undo_28 : decode cX6_undo 28 = .ok (.getfield 165, 3) := by decide +kernel
theorem dX6_undo_31 : decode cX6_undo 31 = .ok (.ireturn, 1) := by decide +kernel
theorem dX6_cell_0 : decode cX6_cell 0 = .ok (.iload_n 1, 1) := by decide +kernel
theorem dX6_cell_1 : decode cX6_cell 1 = .ok (.invokestatic 99, 3) := by decide +kernel
theorem dX6_cell_4 : decode cX6_cell 4 = .ok (.ifCond .ne 5, 3) := by decide +kernel
theorem dX6_cell_7 : decode cX6_cell 7 = .ok (.iconst (-1), 1) := by decide +kernel
theorem dX6_cell_8 : decode cX6_cell 8 = .ok (.ireturn, 1) := by decide +kernel
theorem dX6_cell_9 : decode cX6_cell 9 = .ok (.aload_n 0, 1) := by decide +kernel
theorem dX6_cell_10 : decode cX6_cell 10 = .ok (.getfield 12, 3) := by decide +kernel
theorem dX6_cell_13 : decode cX6_cell 13 = .ok (.getfield 112, 3) := by decide +kernel
theorem dX6_cell_16 : decode cX6_cell 16 = .ok (.iload_n 1, 1) := by decide +kernel
theorem dX6_cell_17 : decode cX6_cell 17 = .ok (.aaload, 1) := by decide +kernel
theorem dX6_cell_18 : decode cX6_cell 18 = .ok (.astore_n 3, 1) := by decide +kernel
theorem dX6_cell_19 : decode cX6_cell 19 = .ok (.iload_n 2, 1) := by decide +kernel
theorem dX6_cell_20 : decode cX6_cell 20 = .ok (.tableswitch 74 0 4 #[36, 43, 50, 55, 65], 36) := by decide +kernel
theorem dX6_cell_56 : decode cX6_cell 56 = .ok (.aload_n 3, 1) := by decide +kernel
theorem dX6_cell_57 : decode cX6_cell 57 = .ok (.getfield 175, 3) := by decide +kernel
theorem dX6_cell_60 : decode cX6_cell 60 = .ok (.iconst 0, 1) := by decide +kernel
theorem dX6_cell_61 : decode cX6_cell 61 = .ok (.iaload, 1) := by decide +kernel
theorem dX6_cell_62 : decode cX6_cell 62 = .ok (.ireturn, 1) := by decide +kernel
theorem dX6_cell_63 : decode cX6_cell 63 = .ok (.aload_n 3, 1) := by decide +kernel
theorem dX6_cell_64 : decode cX6_cell 64 = .ok (.getfield 176, 3) := by decide +kernel
theorem dX6_cell_67 : decode cX6_cell 67 = .ok (.iconst 0, 1) := by decide +kernel
theorem dX6_cell_68 : decode cX6_cell 68 = .ok (.iaload, 1) := by decide +kernel
theorem dX6_cell_69 : decode cX6_cell 69 = .ok (.ireturn, 1) := by decide +kernel
theorem dX6_cell_70 : decode cX6_cell 70 = .ok (.aload_n 3, 1) := by decide +kernel
theorem dX6_cell_71 : decode cX6_cell 71 = .ok (.getfield 179, 3) := by decide +kernel
theorem dX6_cell_74 : decode cX6_cell 74 = .ok (.ireturn, 1) := by decide +kernel
theorem dX6_cell_75 : decode cX6_cell 75 = .ok (.aload_n 0, 1) := by decide +kernel
theorem dX6_cell_76 : decode cX6_cell 76 = .ok (.getfield 12, 3) := by decide +kernel
theorem dX6_cell_79 : decode cX6_cell 79 = .ok (.aload_n 3, 1) := by decide +kernel
theorem dX6_cell_80 : decode cX6_cell 80 = .ok (.iconst 0, 1) := by decide +kernel
theorem dX6_cell_81 : decode cX6_cell 81 = .ok (.invokevirtual 182, 3) := by decide +kernel
theorem dX6_cell_84 : decode cX6_cell 84 = .ok (.ireturn, 1) := by decide +kernel
theorem dX6_cell_85 : decode cX6_cell 85 = .ok (.aload_n 0, 1) := by decide +kernel
theorem dX6_cell_86 : decode cX6_cell 86 = .ok (.getfield 12, 3) := by decide +kernel
theorem dX6_cell_89 : decode cX6_cell 89 = .ok (.iload_n 1, 1) := by decide +kernel
theorem dX6_cell_90 : decode cX6_cell 90 = .ok (.invokevirtual 186, 3) := by decide +kernel
theorem dX6_cell_93 : decode cX6_cell 93 = .ok (.ireturn, 1) := by decide +kernel
theorem dX6_cell_94 : decode cX6_cell 94 = .ok (.bipush (-2), 2) := by decide +kernel
theorem dX6_cell_96 : decode cX6_cell 96 = .ok (.ireturn, 1) := by decide +kernel
theorem dX6_version_0 : decode cX6_version 0 = .ok (.iload_n 1, 1) := by decide +kernel
theorem dX6_version_1 : decode cX6_version 1 = .ok (.invokestatic 99, 3) := by decide +kernel
theorem dX6_version_4 : decode cX6_version 4 = .ok (.ifCond .ne 5, 3) := by decide +kernel
theorem dX6_version_7 : decode cX6_version 7 = .ok (.iconst (-1), 1) := by decide +kernel
theorem dX6_version_8 : decode cX6_version 8 = .ok (.ireturn, 1) := by decide +kernel
theorem dX6_version_9 : decode cX6_version 9 = .ok (.iload_n 2, 1) := by decide +kernel
theorem dX6_version_10 : decode cX6_version 10 = .ok (.ifCond .lt 12, 3) := by decide +kernel
theorem dX6_version_13 : decode cX6_version 13 = .ok (.iload_n 3, 1) := by decide +kernel
theorem dX6_version_14 : decode cX6_version 14 = .ok (.ifCond .lt 8, 3) := by decide +kernel
theorem dX6_version_17 : decode cX6_version 17 = .ok (.iload_n 3, 1) := by decide +kernel
theorem dX6_version_18 : decode cX6_version 18 = .ok (.iconst 4, 1) := by decide +kernel
theorem dX6_version_19 : decode cX6_version 19 = .ok (.if_icmp .le 6, 3) := by decide +kernel
theorem dX6_version_22 : decode cX6_version 22 = .ok (.bipush (-2), 2) := by decide +kernel
theorem dX6_version_24 : decode cX6_version 24 = .ok (.ireturn, 1) := by decide +kernel
theorem dX6_version_25 : decode cX6_version 25 = .ok (.aload_n 0, 1) := by decide +kernel
theorem dX6_version_26 : decode cX6_version 26 = .ok (.getfield 12, 3) := by decide +kernel
theorem dX6_version_29 : decode cX6_version 29 = .ok (.getfield 112, 3) := by decide +kernel
theorem dX6_version_32 : decode cX6_version 32 = .ok (.iload_n 1, 1) := by decide +kernel
theorem dX6_version_33 : decode cX6_version 33 = .ok (.aaload, 1) := by decide +kernel
theorem dX6_version_34 : decode cX6_version 34 = .ok (.astore 4, 2) := by decide +kernel
theorem dX6_version_36 : decode cX6_version 36 = .ok (.iload_n 2, 1) := by decide +kernel
theorem dX6_version_37 : decode cX6_version 37 = .ok (.aload 4, 2) := by decide +kernel
theorem dX6_version_39 : decode cX6_version 39 = .ok (.getfield 179, 3) := by decide +kernel
theorem dX6_version_42 : decode cX6_version 42 = .ok (.if_icmp .lt 6, 3) := by decide +kernel
theorem dX6_version_45 : decode cX6_version 45 = .ok (.bipush (-5), 2) := by decide +kernel
theorem dX6_version_47 : decode cX6_version 47 = .ok (.ireturn, 1) := by decide +kernel
theorem dX6_version_48 : decode cX6_version 48 = .ok (.iload_n 3, 1) := by decide +kernel
theorem dX6_version_49 : decode cX6_version 49 = .ok (.tableswitch 69 0 3 #[31, 39, 47, 58], 31) := by decide +kernel
theorem dX6_version_80 : decode cX6_version 80 = .ok (.aload 4, 2) := by decide +kernel
theorem dX6_version_82 : decode cX6_version 82 = .ok (.getfield 175, 3) := by decide +kernel
theorem dX6_version_85 : decode cX6_version 85 = .ok (.iload_n 2, 1) := by decide +kernel
theorem dX6_version_86 : decode cX6_version 86 = .ok (.iaload, 1) := by decide +kernel
theorem dX6_version_87 : decode cX6_version 87 = .ok (.ireturn, 1) := by decide +kernel
theorem dX6_version_88 : decode cX6_version 88 = .ok (.aload 4, 2) := by decide +kernel
theorem dX6_version_90 : decode cX6_version 90 = .ok (.getfield 176, 3) := by decide +kernel
theorem dX6_version_93 : decode cX6_version 93 = .ok (.iload_n 2, 1) := by decide +kernel
theorem dX6_version_94 : decode cX6_version 94 = .ok (.iaload, 1) := by decide +kernel
theorem dX6_version_95 : decode cX6_version 95 = .ok (.ireturn, 1) := by decide +kernel
theorem dX6_version_96 : decode cX6_version 96 = .ok (.aload_n 0, 1) := by decide +kernel
theorem dX6_version_97 : decode cX6_version 97 = .ok (.getfield 12, 3) := by decide +kernel
theorem dX6_version_100 : decode cX6_version 100 = .ok (.aload 4, 2) := by decide +kernel
theorem dX6_version_102 : decode cX6_version 102 = .ok (.iload_n 2, 1) := by decide +kernel
theorem dX6_version_103 : decode cX6_version 103 = .ok (.invokevirtual 182, 3) := by decide +kernel
theorem dX6_version_106 : decode cX6_version 106 = .ok (.ireturn, 1) := by decide +kernel
theorem dX6_version_107 : decode cX6_version 107 = .ok (.aload_n 0, 1) := by decide +kernel
theorem dX6_version_108 : decode cX6_version 108 = .ok (.getfield 12, 3) := by decide +kernel
theorem dX6_version_111 : decode cX6_version 111 = .ok (.aload 4, 2) := by decide +kernel
theorem dX6_version_113 : decode cX6_version 113 = .ok (.iload_n 2, 1) := by decide +kernel
theorem dX6_version_114 : decode cX6_version 114 = .ok (.invokevirtual 189, 3) := by decide +kernel
theorem dX6_version_117 : decode cX6_version 117 = .ok (.ireturn, 1) := by decide +kernel
theorem dX6_version_118 : decode cX6_version 118 = .ok (.aload_n 0, 1) := by decide +kernel
theorem dX6_version_119 : decode cX6_version 119 = .ok (.getfield 12, 3) := by decide +kernel
theorem dX6_version_122 : decode cX6_version 122 = .ok (.aload 4, 2) := by decide +kernel
theorem dX6_version_124 : decode cX6_version 124 = .ok (.iload_n 2, 1) := by decide +kernel
theorem dX6_version_125 : decode cX6_version 125 = .ok (.invokevirtual 192, 3) := by decide +kernel
theorem dX6_version_128 : decode cX6_version 128 = .ok (.ireturn, 1) := by decide +kernel
theorem dX6_reader_0 : decode cX6_reader 0 = .ok (.aload_n 0, 1) := by decide +kernel
theorem dX6_reader_1 : decode cX6_reader 1 = .ok (.getfield 12, 3) := by decide +kernel
theorem dX6_reader_4 : decode cX6_reader 4 = .ok (.iload_n 1, 1) := by decide +kernel
theorem dX6_reader_5 : decode cX6_reader 5 = .ok (.invokevirtual 51, 3) := by decide +kernel
theorem dX6_reader_8 : decode cX6_reader 8 = .ok (.ifCond .ne 5, 3) := by decide +kernel
theorem dX6_reader_11 : decode cX6_reader 11 = .ok (.iconst (-1), 1) := by decide +kernel
theorem dX6_reader_12 : decode cX6_reader 12 = .ok (.ireturn, 1) := by decide +kernel
theorem dX6_reader_13 : decode cX6_reader 13 = .ok (.aload_n 0, 1) := by decide +kernel
theorem dX6_reader_14 : decode cX6_reader 14 = .ok (.getfield 12, 3) := by decide +kernel
theorem dX6_reader_17 : decode cX6_reader 17 = .ok (.getfield 55, 3) := by decide +kernel
theorem dX6_reader_20 : decode cX6_reader 20 = .ok (.iload_n 1, 1) := by decide +kernel
theorem dX6_reader_21 : decode cX6_reader 21 = .ok (.aaload, 1) := by decide +kernel
theorem dX6_reader_22 : decode cX6_reader 22 = .ok (.astore_n 3, 1) := by decide +kernel
theorem dX6_reader_23 : decode cX6_reader 23 = .ok (.iload_n 2, 1) := by decide +kernel
theorem dX6_reader_24 : decode cX6_reader 24 = .ok (.tableswitch 192 0 11 #[64, 69, 74, 79, 88, 93, 98, 103, 108, 128, 148, 172], 64) := by decide +kernel
theorem dX6_reader_88 : decode cX6_reader 88 = .ok (.aload_n 3, 1) := by decide +kernel
theorem dX6_reader_89 : decode cX6_reader 89 = .ok (.getfield 79, 3) := by decide +kernel
theorem dX6_reader_92 : decode cX6_reader 92 = .ok (.ireturn, 1) := by decide +kernel
theorem dX6_reader_93 : decode cX6_reader 93 = .ok (.aload_n 3, 1) := by decide +kernel
theorem dX6_reader_94 : decode cX6_reader 94 = .ok (.getfield 116, 3) := by decide +kernel
theorem dX6_reader_97 : decode cX6_reader 97 = .ok (.ireturn, 1) := by decide +kernel
theorem dX6_reader_98 : decode cX6_reader 98 = .ok (.aload_n 3, 1) := by decide +kernel
theorem dX6_reader_99 : decode cX6_reader 99 = .ok (.getfield 65, 3) := by decide +kernel
theorem dX6_reader_102 : decode cX6_reader 102 = .ok (.ireturn, 1) := by decide +kernel
theorem dX6_reader_103 : decode cX6_reader 103 = .ok (.aload_n 0, 1) := by decide +kernel
theorem dX6_reader_104 : decode cX6_reader 104 = .ok (.getfield 12, 3) := by decide +kernel
theorem dX6_reader_107 : decode cX6_reader 107 = .ok (.aload_n 3, 1) := by decide +kernel
theorem dX6_reader_108 : decode cX6_reader 108 = .ok (.invokevirtual 72, 3) := by decide +kernel
theorem dX6_reader_111 : decode cX6_reader 111 = .ok (.ireturn, 1) := by decide +kernel
theorem dX6_reader_112 : decode cX6_reader 112 = .ok (.aload_n 3, 1) := by decide +kernel
theorem dX6_reader_113 : decode cX6_reader 113 = .ok (.getfield 109, 3) := by decide +kernel
theorem dX6_reader_116 : decode cX6_reader 116 = .ok (.ireturn, 1) := by decide +kernel
theorem dX6_reader_117 : decode cX6_reader 117 = .ok (.aload_n 3, 1) := by decide +kernel
theorem dX6_reader_118 : decode cX6_reader 118 = .ok (.getfield 195, 3) := by decide +kernel
theorem dX6_reader_121 : decode cX6_reader 121 = .ok (.ireturn, 1) := by decide +kernel
theorem dX6_reader_122 : decode cX6_reader 122 = .ok (.aload_n 3, 1) := by decide +kernel
theorem dX6_reader_123 : decode cX6_reader 123 = .ok (.getfield 76, 3) := by decide +kernel
theorem dX6_reader_126 : decode cX6_reader 126 = .ok (.ireturn, 1) := by decide +kernel
theorem dX6_reader_127 : decode cX6_reader 127 = .ok (.aload_n 3, 1) := by decide +kernel
theorem dX6_reader_128 : decode cX6_reader 128 = .ok (.getfield 198, 3) := by decide +kernel
theorem dX6_reader_131 : decode cX6_reader 131 = .ok (.ireturn, 1) := by decide +kernel
theorem dX6_reader_132 : decode cX6_reader 132 = .ok (.aload_n 3, 1) := by decide +kernel
theorem dX6_reader_133 : decode cX6_reader 133 = .ok (.invokevirtual 59, 3) := by decide +kernel
theorem dX6_reader_136 : decode cX6_reader 136 = .ok (.ifCond .eq 14, 3) := by decide +kernel
theorem dX6_reader_139 : decode cX6_reader 139 = .ok (.aload_n 0, 1) := by decide +kernel
theorem dX6_reader_140 : decode cX6_reader 140 = .ok (.getfield 12, 3) := by decide +kernel
theorem dX6_reader_143 : decode cX6_reader 143 = .ok (.aload_n 3, 1) := by decide +kernel
theorem dX6_reader_144 : decode cX6_reader 144 = .ok (.invokevirtual 201, 3) := by decide +kernel
theorem dX6_reader_147 : decode cX6_reader 147 = .ok (.goto 4, 3) := by decide +kernel
theorem dX6_reader_150 : decode cX6_reader 150 = .ok (.iconst 0, 1) := by decide +kernel
theorem dX6_reader_151 : decode cX6_reader 151 = .ok (.ireturn, 1) := by decide +kernel
theorem dX6_reader_152 : decode cX6_reader 152 = .ok (.aload_n 3, 1) := by decide +kernel
theorem dX6_reader_153 : decode cX6_reader 153 = .ok (.invokevirtual 59, 3) := by decide +kernel
theorem dX6_reader_156 : decode cX6_reader 156 = .ok (.ifCond .eq 14, 3) := by decide +kernel
theorem dX6_reader_159 : decode cX6_reader 159 = .ok (.aload_n 0, 1) := by decide +kernel
theorem dX6_reader_160 : decode cX6_reader 160 = .ok (.getfield 12, 3) := by decide +kernel
theorem dX6_reader_163 : decode cX6_reader 163 = .ok (.aload_n 3, 1) := by decide +kernel
theorem dX6_reader_164 : decode cX6_reader 164 = .ok (.invokevirtual 204, 3) := by decide +kernel
theorem dX6_reader_167 : decode cX6_reader 167 = .ok (.goto 4, 3) := by decide +kernel
theorem dX6_reader_170 : decode cX6_reader 170 = .ok (.iconst 0, 1) := by decide +kernel
theorem dX6_reader_171 : decode cX6_reader 171 = .ok (.ireturn, 1) := by decide +kernel
theorem dX6_reader_172 : decode cX6_reader 172 = .ok (.aload_n 3, 1) := by decide +kernel
theorem dX6_reader_173 : decode cX6_reader 173 = .ok (.invokevirtual 59, 3) := by decide +kernel
theorem dX6_reader_176 : decode cX6_reader 176 = .ok (.ifCond .eq 18, 3) := by decide +kernel
theorem dX6_reader_179 : decode cX6_reader 179 = .ok (.aload_n 0, 1) := by decide +kernel
theorem dX6_reader_180 : decode cX6_reader 180 = .ok (.getfield 12, 3) := by decide +kernel
theorem dX6_reader_183 : decode cX6_reader 183 = .ok (.aload_n 3, 1) := by decide +kernel
theorem dX6_reader_184 : decode cX6_reader 184 = .ok (.invokevirtual 130, 3) := by decide +kernel
theorem dX6_reader_187 : decode cX6_reader 187 = .ok (.ifCond .eq 7, 3) := by decide +kernel
theorem dX6_reader_190 : decode cX6_reader 190 = .ok (.iconst 1, 1) := by decide +kernel
theorem dX6_reader_191 : decode cX6_reader 191 = .ok (.goto 4, 3) := by decide +kernel
theorem dX6_reader_194 : decode cX6_reader 194 = .ok (.iconst 0, 1) := by decide +kernel
theorem dX6_reader_195 : decode cX6_reader 195 = .ok (.ireturn, 1) := by decide +kernel
theorem dX6_reader_196 : decode cX6_reader 196 = .ok (.aload_n 3, 1) := by decide +kernel
theorem dX6_reader_197 : decode cX6_reader 197 = .ok (.invokevirtual 59, 3) := by decide +kernel
theorem dX6_reader_200 : decode cX6_reader 200 = .ok (.ifCond .eq 14, 3) := by decide +kernel
theorem dX6_reader_203 : decode cX6_reader 203 = .ok (.aload_n 0, 1) := by decide +kernel
theorem dX6_reader_204 : decode cX6_reader 204 = .ok (.getfield 12, 3) := by decide +kernel
theorem dX6_reader_207 : decode cX6_reader 207 = .ok (.aload_n 3, 1) := by decide +kernel
theorem dX6_reader_208 : decode cX6_reader 208 = .ok (.invokevirtual 134, 3) := by decide +kernel
theorem dX6_reader_211 : decode cX6_reader 211 = .ok (.goto 4, 3) := by decide +kernel
theorem dX6_reader_214 : decode cX6_reader 214 = .ok (.iconst 0, 1) := by decide +kernel
theorem dX6_reader_215 : decode cX6_reader 215 = .ok (.ireturn, 1) := by decide +kernel
theorem dX6_reader_216 : decode cX6_reader 216 = .ok (.bipush (-2), 2) := by decide +kernel
theorem dX6_reader_218 : decode cX6_reader 218 = .ok (.ireturn, 1) := by decide +kernel
theorem dX6_committed_0 : decode cX6_committed 0 = .ok (.iload_n 1, 1) := by decide +kernel
theorem dX6_committed_1 : decode cX6_committed 1 = .ok (.ifCond .lt 14, 3) := by decide +kernel
theorem dX6_committed_4 : decode cX6_committed 4 = .ok (.iload_n 1, 1) := by decide +kernel
theorem dX6_committed_5 : decode cX6_committed 5 = .ok (.aload_n 0, 1) := by decide +kernel
theorem dX6_committed_6 : decode cX6_committed 6 = .ok (.getfield 12, 3) := by decide +kernel
theorem dX6_committed_9 : decode cX6_committed 9 = .ok (.getfield 210, 3) := by decide +kernel
theorem dX6_committed_12 : decode cX6_committed 12 = .ok (.if_icmp .lt 5, 3) := by decide +kernel
theorem dX6_committed_15 : decode cX6_committed 15 = .ok (.iconst (-1), 1) := by decide +kernel
theorem dX6_committed_16 : decode cX6_committed 16 = .ok (.ireturn, 1) := by decide +kernel
theorem dX6_committed_17 : decode cX6_committed 17 = .ok (.aload_n 0, 1) := by decide +kernel
theorem dX6_committed_18 : decode cX6_committed 18 = .ok (.getfield 12, 3) := by decide +kernel
theorem dX6_committed_21 : decode cX6_committed 21 = .ok (.getfield 213, 3) := by decide +kernel
theorem dX6_committed_24 : decode cX6_committed 24 = .ok (.iload_n 1, 1) := by decide +kernel
theorem dX6_committed_25 : decode cX6_committed 25 = .ok (.aaload, 1) := by decide +kernel
theorem dX6_committed_26 : decode cX6_committed 26 = .ok (.astore_n 3, 1) := by decide +kernel
theorem dX6_committed_27 : decode cX6_committed 27 = .ok (.iload_n 2, 1) := by decide +kernel
theorem dX6_committed_28 : decode cX6_committed 28 = .ok (.tableswitch 70 0 5 #[40, 45, 50, 55, 60, 65], 40) := by decide +kernel
theorem dX6_committed_68 : decode cX6_committed 68 = .ok (.aload_n 3, 1) := by decide +kernel
theorem dX6_committed_69 : decode cX6_committed 69 = .ok (.getfield 217, 3) := by decide +kernel
theorem dX6_committed_72 : decode cX6_committed 72 = .ok (.ireturn, 1) := by decide +kernel
theorem dX6_committed_73 : decode cX6_committed 73 = .ok (.aload_n 3, 1) := by decide +kernel
theorem dX6_committed_74 : decode cX6_committed 74 = .ok (.getfield 222, 3) := by decide +kernel
theorem dX6_committed_77 : decode cX6_committed 77 = .ok (.ireturn, 1) := by decide +kernel
theorem dX6_committed_78 : decode cX6_committed 78 = .ok (.aload_n 3, 1) := by decide +kernel
theorem dX6_committed_79 : decode cX6_committed 79 = .ok (.getfield 225, 3) := by decide +kernel
theorem dX6_committed_82 : decode cX6_committed 82 = .ok (.ireturn, 1) := by decide +kernel
theorem dX6_committed_83 : decode cX6_committed 83 = .ok (.aload_n 3, 1) := by decide +kernel
theorem dX6_committed_84 : decode cX6_committed 84 = .ok (.getfield 228, 3) := by decide +kernel
theorem dX6_committed_87 : decode cX6_committed 87 = .ok (.ireturn, 1) := by decide +kernel
theorem dX6_committed_88 : decode cX6_committed 88 = .ok (.aload_n 3, 1) := by decide +kernel
theorem dX6_committed_89 : decode cX6_committed 89 = .ok (.getfield 229, 3) := by decide +kernel
theorem dX6_committed_92 : decode cX6_committed 92 = .ok (.ireturn, 1) := by decide +kernel
theorem dX6_committed_93 : decode cX6_committed 93 = .ok (.aload_n 3, 1) := by decide +kernel
theorem dX6_committed_94 : decode cX6_committed 94 = .ok (.getfield 230, 3) := by decide +kernel
theorem dX6_committed_97 : decode cX6_committed 97 = .ok (.ireturn, 1) := by decide +kernel
theorem dX6_committed_98 : decode cX6_committed 98 = .ok (.bipush (-2), 2) := by decide +kernel
theorem dX6_committed_100 : decode cX6_committed 100 = .ok (.ireturn, 1) := by decide +kernel
theorem dX6_count_0 : decode cX6_count 0 = .ok (.iload_n 1, 1) := by decide +kernel
theorem dX6_count_1 : decode cX6_count 1 = .ok (.tableswitch 231 0 16 #[83, 91, 99, 107, 116, 125, 134, 143, 151, 159, 167, 175, 183, 191, 207, 215, 223], 83) := by decide +kernel
theorem dX6_count_84 : decode cX6_count 84 = .ok (.aload_n 0, 1) := by decide +kernel
theorem dX6_count_85 : decode cX6_count 85 = .ok (.getfield 12, 3) := by decide +kernel
theorem dX6_count_88 : decode cX6_count 88 = .ok (.getfield 144, 3) := by decide +kernel
theorem dX6_count_91 : decode cX6_count 91 = .ok (.ireturn, 1) := by decide +kernel
theorem dX6_count_92 : decode cX6_count 92 = .ok (.aload_n 0, 1) := by decide +kernel
theorem dX6_count_93 : decode cX6_count 93 = .ok (.getfield 12, 3) := by decide +kernel
theorem dX6_count_96 : decode cX6_count 96 = .ok (.getfield 207, 3) := by decide +kernel
theorem dX6_count_99 : decode cX6_count 99 = .ok (.ireturn, 1) := by decide +kernel
theorem dX6_count_100 : decode cX6_count 100 = .ok (.aload_n 0, 1) := by decide +kernel
theorem dX6_count_101 : decode cX6_count 101 = .ok (.getfield 12, 3) := by decide +kernel
theorem dX6_count_104 : decode cX6_count 104 = .ok (.getfield 36, 3) := by decide +kernel
theorem dX6_count_107 : decode cX6_count 107 = .ok (.ireturn, 1) := by decide +kernel
theorem dX6_count_108 : decode cX6_count 108 = .ok (.aload_n 0, 1) := by decide +kernel
theorem dX6_count_109 : decode cX6_count 109 = .ok (.getfield 12, 3) := by decide +kernel
theorem dX6_count_112 : decode cX6_count 112 = .ok (.iconst 0, 1) := by decide +kernel
theorem dX6_count_113 : decode cX6_count 113 = .ok (.invokevirtual 40, 3) := by decide +kernel
theorem dX6_count_116 : decode cX6_count 116 = .ok (.ireturn, 1) := by decide +kernel
theorem dX6_count_117 : decode cX6_count 117 = .ok (.aload_n 0, 1) := by decide +kernel
theorem dX6_count_118 : decode cX6_count 118 = .ok (.getfield 12, 3) := by decide +kernel
theorem dX6_count_121 : decode cX6_count 121 = .ok (.iconst 1, 1) := by decide +kernel
theorem dX6_count_122 : decode cX6_count 122 = .ok (.invokevirtual 40, 3) := by decide +kernel
theorem dX6_count_125 : decode cX6_count 125 = .ok (.ireturn, 1) := by decide +kernel
theorem dX6_count_126 : decode cX6_count 126 = .ok (.aload_n 0, 1) := by decide +kernel
theorem dX6_count_127 : decode cX6_count 127 = .ok (.getfield 12, 3) := by decide +kernel
theorem dX6_count_130 : decode cX6_count 130 = .ok (.iconst 2, 1) := by decide +kernel
theorem dX6_count_131 : decode cX6_count 131 = .ok (.invokevirtual 40, 3) := by decide +kernel
theorem dX6_count_134 : decode cX6_count 134 = .ok (.ireturn, 1) := by decide +kernel
theorem dX6_count_135 : decode cX6_count 135 = .ok (.aload_n 0, 1) := by decide +kernel
theorem dX6_count_136 : decode cX6_count 136 = .ok (.getfield 12, 3) := by decide +kernel
theorem dX6_count_139 : decode cX6_count 139 = .ok (.iconst 3, 1) := by decide +kernel
theorem dX6_count_140 : decode cX6_count 140 = .ok (.invokevirtual 40, 3) := by decide +kernel
theorem dX6_count_143 : decode cX6_count 143 = .ok (.ireturn, 1) := by decide +kernel
theorem dX6_count_144 : decode cX6_count 144 = .ok (.aload_n 0, 1) := by decide +kernel
theorem dX6_count_145 : decode cX6_count 145 = .ok (.getfield 12, 3) := by decide +kernel
theorem dX6_count_148 : decode cX6_count 148 = .ok (.invokevirtual 233, 3) := by decide +kernel
theorem dX6_count_151 : decode cX6_count 151 = .ok (.ireturn, 1) := by decide +kernel
theorem dX6_count_152 : decode cX6_count 152 = .ok (.aload_n 0, 1) := by decide +kernel
theorem dX6_count_153 : decode cX6_count 153 = .ok (.getfield 12, 3) := by decide +kernel
theorem dX6_count_156 : decode cX6_count 156 = .ok (.getfield 236, 3) := by decide +kernel
theorem dX6_count_159 : decode cX6_count 159 = .ok (.ireturn, 1) := by decide +kernel
theorem dX6_count_160 : decode cX6_count 160 = .ok (.aload_n 0, 1) := by decide +kernel
theorem dX6_count_161 : decode cX6_count 161 = .ok (.getfield 12, 3) := by decide +kernel
theorem dX6_count_164 : decode cX6_count 164 = .ok (.getfield 86, 3) := by decide +kernel
theorem dX6_count_167 : decode cX6_count 167 = .ok (.ireturn, 1) := by decide +kernel
theorem dX6_count_168 : decode cX6_count 168 = .ok (.aload_n 0, 1) := by decide +kernel
theorem dX6_count_169 : decode cX6_count 169 = .ok (.getfield 12, 3) := by decide +kernel
theorem dX6_count_172 : decode cX6_count 172 = .ok (.invokevirtual 239, 3) := by decide +kernel
theorem dX6_count_175 : decode cX6_count 175 = .ok (.ireturn, 1) := by decide +kernel
theorem dX6_count_176 : decode cX6_count 176 = .ok (.aload_n 0, 1) := by decide +kernel
theorem dX6_count_177 : decode cX6_count 177 = .ok (.getfield 12, 3) := by decide +kernel
theorem dX6_count_180 : decode cX6_count 180 = .ok (.getfield 210, 3) := by decide +kernel
theorem dX6_count_183 : decode cX6_count 183 = .ok (.ireturn, 1) := by decide +kernel
theorem dX6_count_184 : decode cX6_count 184 = .ok (.aload_n 0, 1) := by decide +kernel
theorem dX6_count_185 : decode cX6_count 185 = .ok (.getfield 12, 3) := by decide +kernel
theorem dX6_count_188 : decode cX6_count 188 = .ok (.invokevirtual 92, 3) := by decide +kernel
theorem dX6_count_191 : decode cX6_count 191 = .ok (.ireturn, 1) := by decide +kernel
theorem dX6_count_192 : decode cX6_count 192 = .ok (.aload_n 0, 1) := by decide +kernel
theorem dX6_count_193 : decode cX6_count 193 = .ok (.getfield 12, 3) := by decide +kernel
theorem dX6_count_196 : decode cX6_count 196 = .ok (.getfield 89, 3) := by decide +kernel
theorem dX6_count_199 : decode cX6_count 199 = .ok (.ifCond .eq 7, 3) := by decide +kernel
theorem dX6_count_202 : decode cX6_count 202 = .ok (.iconst 1, 1) := by decide +kernel
theorem dX6_count_203 : decode cX6_count 203 = .ok (.goto 4, 3) := by decide +kernel
theorem dX6_count_206 : decode cX6_count 206 = .ok (.iconst 0, 1) := by decide +kernel
theorem dX6_count_207 : decode cX6_count 207 = .ok (.ireturn, 1) := by decide +kernel
theorem dX6_count_208 : decode cX6_count 208 = .ok (.aload_n 0, 1) := by decide +kernel
theorem dX6_count_209 : decode cX6_count 209 = .ok (.getfield 12, 3) := by decide +kernel
theorem dX6_count_212 : decode cX6_count 212 = .ok (.invokevirtual 242, 3) := by decide +kernel
theorem dX6_count_215 : decode cX6_count 215 = .ok (.ireturn, 1) := by decide +kernel
theorem dX6_count_216 : decode cX6_count 216 = .ok (.aload_n 0, 1) := by decide +kernel
theorem dX6_count_217 : decode cX6_count 217 = .ok (.getfield 25, 3) := by decide +kernel
theorem dX6_count_220 : decode cX6_count 220 = .ok (.getfield 165, 3) := by decide +kernel
theorem dX6_count_223 : decode cX6_count 223 = .ok (.ireturn, 1) := by decide +kernel
theorem dX6_count_224 : decode cX6_count 224 = .ok (.aload_n 0, 1) := by decide +kernel
theorem dX6_count_225 : decode cX6_count 225 = .ok (.getfield 32, 3) := by decide +kernel
theorem dX6_count_228 : decode cX6_count 228 = .ok (.getfield 145, 3) := by decide +kernel
theorem dX6_count_231 : decode cX6_count 231 = .ok (.ireturn, 1) := by decide +kernel
theorem dX6_count_232 : decode cX6_count 232 = .ok (.bipush (-2), 2) := by decide +kernel
theorem dX6_count_234 : decode cX6_count 234 = .ok (.ireturn, 1) := by decide +kernel
theorem dX6_isCell_0 : decode cX6_isCell 0 = .ok (.iload_n 0, 1) := by decide +kernel
theorem dX6_isCell_1 : decode cX6_isCell 1 = .ok (.ifCond .lt 13, 3) := by decide +kernel
theorem dX6_isCell_4 : decode cX6_isCell 4 = .ok (.iload_n 0, 1) := by decide +kernel
theorem dX6_isCell_5 : decode cX6_isCell 5 = .ok (.bipush 12, 2) := by decide +kernel
theorem dX6_isCell_7 : decode cX6_isCell 7 = .ok (.if_icmp .ge 7, 3) := by decide +kernel
theorem dX6_isCell_10 : decode cX6_isCell 10 = .ok (.iconst 1, 1) := by decide +kernel
theorem dX6_isCell_11 : decode cX6_isCell 11 = .ok (.goto 4, 3) := by decide +kernel
theorem dX6_isCell_14 : decode cX6_isCell 14 = .ok (.iconst 0, 1) := by decide +kernel
theorem dX6_isCell_15 : decode cX6_isCell 15 = .ok (.ireturn, 1) := by decide +kernel
theorem dJ6_bitCount_0f7a4_0 : decode cJ6_bitCount_0f7a4 0 = .ok (.iload_n 0, 1) := by decide +kernel
theorem dJ6_bitCount_0f7a4_1 : decode cJ6_bitCount_0f7a4 1 = .ok (.iload_n 0, 1) := by decide +kernel
theorem dJ6_bitCount_0f7a4_2 : decode cJ6_bitCount_0f7a4 2 = .ok (.iconst 1, 1) := by decide +kernel
theorem dJ6_bitCount_0f7a4_3 : decode cJ6_bitCount_0f7a4 3 = .ok (.iushr, 1) := by decide +kernel
theorem dJ6_bitCount_0f7a4_4 : decode cJ6_bitCount_0f7a4 4 = .ok (.ldc_w 265, 3) := by decide +kernel
theorem dJ6_bitCount_0f7a4_7 : decode cJ6_bitCount_0f7a4 7 = .ok (.iand, 1) := by decide +kernel
theorem dJ6_bitCount_0f7a4_8 : decode cJ6_bitCount_0f7a4 8 = .ok (.isub, 1) := by decide +kernel
theorem dJ6_bitCount_0f7a4_9 : decode cJ6_bitCount_0f7a4 9 = .ok (.istore_n 0, 1) := by decide +kernel
theorem dJ6_bitCount_0f7a4_10 : decode cJ6_bitCount_0f7a4 10 = .ok (.iload_n 0, 1) := by decide +kernel
theorem dJ6_bitCount_0f7a4_11 : decode cJ6_bitCount_0f7a4 11 = .ok (.ldc_w 266, 3) := by decide +kernel
theorem dJ6_bitCount_0f7a4_14 : decode cJ6_bitCount_0f7a4 14 = .ok (.iand, 1) := by decide +kernel
theorem dJ6_bitCount_0f7a4_15 : decode cJ6_bitCount_0f7a4 15 = .ok (.iload_n 0, 1) := by decide +kernel
theorem dJ6_bitCount_0f7a4_16 : decode cJ6_bitCount_0f7a4 16 = .ok (.iconst 2, 1) := by decide +kernel
theorem dJ6_bitCount_0f7a4_17 : decode cJ6_bitCount_0f7a4 17 = .ok (.iushr, 1) := by decide +kernel
theorem dJ6_bitCount_0f7a4_18 : decode cJ6_bitCount_0f7a4 18 = .ok (.ldc_w 266, 3) := by decide +kernel
theorem dJ6_bitCount_0f7a4_21 : decode cJ6_bitCount_0f7a4 21 = .ok (.iand, 1) := by decide +kernel
theorem dJ6_bitCount_0f7a4_22 : decode cJ6_bitCount_0f7a4 22 = .ok (.iadd, 1) := by decide +kernel
theorem dJ6_bitCount_0f7a4_23 : decode cJ6_bitCount_0f7a4 23 = .ok (.istore_n 0, 1) := by decide +kernel
theorem dJ6_bitCount_0f7a4_24 : decode cJ6_bitCount_0f7a4 24 = .ok (.iload_n 0, 1) := by decide +kernel
theorem dJ6_bitCount_0f7a4_25 : decode cJ6_bitCount_0f7a4 25 = .ok (.iload_n 0, 1) := by decide +kernel
theorem dJ6_bitCount_0f7a4_26 : decode cJ6_bitCount_0f7a4 26 = .ok (.iconst 4, 1) := by decide +kernel
theorem dJ6_bitCount_0f7a4_27 : decode cJ6_bitCount_0f7a4 27 = .ok (.iushr, 1) := by decide +kernel
theorem dJ6_bitCount_0f7a4_28 : decode cJ6_bitCount_0f7a4 28 = .ok (.iadd, 1) := by decide +kernel
theorem dJ6_bitCount_0f7a4_29 : decode cJ6_bitCount_0f7a4 29 = .ok (.ldc_w 267, 3) := by decide +kernel
theorem dJ6_bitCount_0f7a4_32 : decode cJ6_bitCount_0f7a4 32 = .ok (.iand, 1) := by decide +kernel
theorem dJ6_bitCount_0f7a4_33 : decode cJ6_bitCount_0f7a4 33 = .ok (.istore_n 0, 1) := by decide +kernel
theorem dJ6_bitCount_0f7a4_34 : decode cJ6_bitCount_0f7a4 34 = .ok (.iload_n 0, 1) := by decide +kernel
theorem dJ6_bitCount_0f7a4_35 : decode cJ6_bitCount_0f7a4 35 = .ok (.iload_n 0, 1) := by decide +kernel
theorem dJ6_bitCount_0f7a4_36 : decode cJ6_bitCount_0f7a4 36 = .ok (.bipush 8, 2) := by decide +kernel
theorem dJ6_bitCount_0f7a4_38 : decode cJ6_bitCount_0f7a4 38 = .ok (.iushr, 1) := by decide +kernel
theorem dJ6_bitCount_0f7a4_39 : decode cJ6_bitCount_0f7a4 39 = .ok (.iadd, 1) := by decide +kernel
theorem dJ6_bitCount_0f7a4_40 : decode cJ6_bitCount_0f7a4 40 = .ok (.istore_n 0, 1) := by decide +kernel
theorem dJ6_bitCount_0f7a4_41 : decode cJ6_bitCount_0f7a4 41 = .ok (.iload_n 0, 1) := by decide +kernel
theorem dJ6_bitCount_0f7a4_42 : decode cJ6_bitCount_0f7a4 42 = .ok (.iload_n 0, 1) := by decide +kernel
theorem dJ6_bitCount_0f7a4_43 : decode cJ6_bitCount_0f7a4 43 = .ok (.bipush 16, 2) := by decide +kernel
theorem dJ6_bitCount_0f7a4_45 : decode cJ6_bitCount_0f7a4 45 = .ok (.iushr, 1) := by decide +kernel
theorem dJ6_bitCount_0f7a4_46 : decode cJ6_bitCount_0f7a4 46 = .ok (.iadd, 1) := by decide +kernel
theorem dJ6_bitCount_0f7a4_47 : decode cJ6_bitCount_0f7a4 47 = .ok (.istore_n 0, 1) := by decide +kernel
theorem dJ6_bitCount_0f7a4_48 : decode cJ6_bitCount_0f7a4 48 = .ok (.iload_n 0, 1) := by decide +kernel
theorem dJ6_bitCount_0f7a4_49 : decode cJ6_bitCount_0f7a4 49 = .ok (.bipush 63, 2) := by decide +kernel
theorem dJ6_bitCount_0f7a4_51 : decode cJ6_bitCount_0f7a4 51 = .ok (.iand, 1) := by decide +kernel
theorem dJ6_bitCount_0f7a4_52 : decode cJ6_bitCount_0f7a4 52 = .ok (.ireturn, 1) := by decide +kernel
theorem dL_cell_0 : decode cL_cell 0 = .ok (.iload_n 1, 1) := by decide +kernel
theorem dL_cell_1 : decode cL_cell 1 = .ok (.aload_n 0, 1) := by decide +kernel
theorem dL_cell_2 : decode cL_cell 2 = .ok (.arraylength, 1) := by decide +kernel
theorem dL_cell_3 : decode cL_cell 3 = .ok (.if_icmp .ge 9, 3) := by decide +kernel
theorem dL_cell_6 : decode cL_cell 6 = .ok (.aload_n 0, 1) := by decide +kernel
theorem dL_cell_7 : decode cL_cell 7 = .ok (.iload_n 1, 1) := by decide +kernel
theorem dL_cell_8 : decode cL_cell 8 = .ok (.iaload, 1) := by decide +kernel
theorem dL_cell_9 : decode cL_cell 9 = .ok (.goto 9, 3) := by decide +kernel
theorem dL_cell_12 : decode cL_cell 12 = .ok (.ldc 7, 2) := by decide +kernel
theorem dL_cell_14 : decode cL_cell 14 = .ok (.iload_n 1, 1) := by decide +kernel
theorem dL_cell_15 : decode cL_cell 15 = .ok (.iconst 3, 1) := by decide +kernel
theorem dL_cell_16 : decode cL_cell 16 = .ok (.iadd, 1) := by decide +kernel
theorem dL_cell_17 : decode cL_cell 17 = .ok (.imul, 1) := by decide +kernel
theorem dL_cell_18 : decode cL_cell 18 = .ok (.ireturn, 1) := by decide +kernel
theorem dL_up_0 : decode cL_up 0 = .ok (.iload_n 0, 1) := by decide +kernel
theorem dL_up_1 : decode cL_up 1 = .ok (.ldc 8, 2) := by decide +kernel
theorem dL_up_3 : decode cL_up 3 = .ok (.iand, 1) := by decide +kernel
theorem dL_up_4 : decode cL_up 4 = .ok (.iload_n 1, 1) := by decide +kernel
theorem dL_up_5 : decode cL_up 5 = .ok (.irem, 1) := by decide +kernel
theorem dL_up_6 : decode cL_up 6 = .ok (.ireturn, 1) := by decide +kernel
theorem dL_view_0 : decode cL_view 0 = .ok (.ldc2_w 9, 3) := by decide +kernel
theorem dL_view_3 : decode cL_view 3 = .ok (.lstore_n 1, 1) := by decide +kernel
theorem dL_view_4 : decode cL_view 4 = .ok (.iconst 0, 1) := by decide +kernel
theorem dL_view_5 : decode cL_view 5 = .ok (.istore_n 3, 1) := by decide +kernel
theorem dL_view_6 : decode cL_view 6 = .ok (.iload_n 3, 1) := by decide +kernel
theorem dL_view_7 : decode cL_view 7 = .ok (.bipush 15, 2) := by decide +kernel
theorem dL_view_9 : decode cL_view 9 = .ok (.if_icmp .ge 22, 3) := by decide +kernel
theorem dL_view_12 : decode cL_view 12 = .ok (.ldc2_w 11, 3) := by decide +kernel
theorem dL_view_15 : decode cL_view 15 = .ok (.lload_n 1, 1) := by decide +kernel
theorem dL_view_16 : decode cL_view 16 = .ok (.lmul, 1) := by decide +kernel
theorem dL_view_17 : decode cL_view 17 = .ok (.aload_n 0, 1) := by decide +kernel
theorem dL_view_18 : decode cL_view 18 = .ok (.iload_n 3, 1) := by decide +kernel
theorem dL_view_19 : decode cL_view 19 = .ok (.invokevirtual 13, 3) := by decide +kernel
theorem dL_view_22 : decode cL_view 22 = .ok (.i2l, 1) := by decide +kernel
theorem dL_view_23 : decode cL_view 23 = .ok (.ladd, 1) := by decide +kernel
theorem dL_view_24 : decode cL_view 24 = .ok (.lstore_n 1, 1) := by decide +kernel
theorem dL_view_25 : decode cL_view 25 = .ok (.iinc 3 1, 3) := by decide +kernel
theorem dL_view_28 : decode cL_view 28 = .ok (.goto (-22), 3) := by decide +kernel
theorem dL_view_31 : decode cL_view 31 = .ok (.iconst 0, 1) := by decide +kernel
theorem dL_view_32 : decode cL_view 32 = .ok (.istore_n 3, 1) := by decide +kernel
theorem dL_view_33 : decode cL_view 33 = .ok (.iload_n 3, 1) := by decide +kernel
theorem dL_view_34 : decode cL_view 34 = .ok (.bipush 12, 2) := by decide +kernel
theorem dL_view_36 : decode cL_view 36 = .ok (.if_icmp .ge 91, 3) := by decide +kernel
theorem dL_view_39 : decode cL_view 39 = .ok (.iconst 0, 1) := by decide +kernel
theorem dL_view_40 : decode cL_view 40 = .ok (.istore 4, 2) := by decide +kernel
theorem dL_view_42 : decode cL_view 42 = .ok (.iload 4, 2) := by decide +kernel
theorem dL_view_44 : decode cL_view 44 = .ok (.iconst 5, 1) := by decide +kernel
theorem dL_view_45 : decode cL_view 45 = .ok (.if_icmp .ge 24, 3) := by decide +kernel
theorem dL_view_48 : decode cL_view 48 = .ok (.ldc2_w 11, 3) := by decide +kernel
theorem dL_view_51 : decode cL_view 51 = .ok (.lload_n 1, 1) := by decide +kernel
theorem dL_view_52 : decode cL_view 52 = .ok (.lmul, 1) := by decide +kernel
theorem dL_view_53 : decode cL_view 53 = .ok (.aload_n 0, 1) := by decide +kernel
theorem dL_view_54 : decode cL_view 54 = .ok (.iload_n 3, 1) := by decide +kernel
theorem dL_view_55 : decode cL_view 55 = .ok (.iload 4, 2) := by decide +kernel
theorem dL_view_57 : decode cL_view 57 = .ok (.invokevirtual 19, 3) := by decide +kernel
theorem dL_view_60 : decode cL_view 60 = .ok (.i2l, 1) := by decide +kernel
theorem dL_view_61 : decode cL_view 61 = .ok (.ladd, 1) := by decide +kernel
theorem dL_view_62 : decode cL_view 62 = .ok (.lstore_n 1, 1) := by decide +kernel
theorem dL_view_63 : decode cL_view 63 = .ok (.iinc 4 1, 3) := by decide +kernel
theorem dL_view_66 : decode cL_view 66 = .ok (.goto (-24), 3) := by decide +kernel
theorem dL_view_69 : decode cL_view 69 = .ok (.iconst 0, 1) := by decide +kernel
theorem dL_view_70 : decode cL_view 70 = .ok (.istore 4, 2) := by decide +kernel
theorem dL_view_72 : decode cL_view 72 = .ok (.iload 4, 2) := by decide +kernel
theorem dL_view_74 : decode cL_view 74 = .ok (.aload_n 0, 1) := by decide +kernel
theorem dL_view_75 : decode cL_view 75 = .ok (.iload_n 3, 1) := by decide +kernel
theorem dL_view_76 : decode cL_view 76 = .ok (.iconst 2, 1) := by decide +kernel
theorem dL_view_77 : decode cL_view 77 = .ok (.invokevirtual 19, 3) := by decide +kernel
theorem dL_view_80 : decode cL_view 80 = .ok (.if_icmp .ge 41, 3) := by decide +kernel
theorem dL_view_83 : decode cL_view 83 = .ok (.iconst 0, 1) := by decide +kernel
theorem dL_view_84 : decode cL_view 84 = .ok (.istore 5, 2) := by decide +kernel
theorem dL_view_86 : decode cL_view 86 = .ok (.iload 5, 2) := by decide +kernel
theorem dL_view_88 : decode cL_view 88 = .ok (.iconst 5, 1) := by decide +kernel
theorem dL_view_89 : decode cL_view 89 = .ok (.if_icmp .ge 26, 3) := by decide +kernel
theorem dL_view_92 : decode cL_view 92 = .ok (.ldc2_w 11, 3) := by decide +kernel
theorem dL_view_95 : decode cL_view 95 = .ok (.lload_n 1, 1) := by decide +kernel
theorem dL_view_96 : decode cL_view 96 = .ok (.lmul, 1) := by decide +kernel
theorem dL_view_97 : decode cL_view 97 = .ok (.aload_n 0, 1) := by decide +kernel
theorem dL_view_98 : decode cL_view 98 = .ok (.iload_n 3, 1) := by decide +kernel
theorem dL_view_99 : decode cL_view 99 = .ok (.iload 4, 2) := by decide +kernel
theorem dL_view_101 : decode cL_view 101 = .ok (.iload 5, 2) := by decide +kernel
theorem dL_view_103 : decode cL_view 103 = .ok (.invokevirtual 23, 3) := by decide +kernel
theorem dL_view_106 : decode cL_view 106 = .ok (.i2l, 1) := by decide +kernel
theorem dL_view_107 : decode cL_view 107 = .ok (.ladd, 1) := by decide +kernel
theorem dL_view_108 : decode cL_view 108 = .ok (.lstore_n 1, 1) := by decide +kernel
theorem dL_view_109 : decode cL_view 109 = .ok (.iinc 5 1, 3) := by decide +kernel
theorem dL_view_112 : decode cL_view 112 = .ok (.goto (-26), 3) := by decide +kernel
theorem dL_view_115 : decode cL_view 115 = .ok (.iinc 4 1, 3) := by decide +kernel
theorem dL_view_118 : decode cL_view 118 = .ok (.goto (-46), 3) := by decide +kernel
theorem dL_view_121 : decode cL_view 121 = .ok (.iinc 3 1, 3) := by decide +kernel
theorem dL_view_124 : decode cL_view 124 = .ok (.goto (-91), 3) := by decide +kernel
theorem dL_view_127 : decode cL_view 127 = .ok (.iconst 0, 1) := by decide +kernel
theorem dL_view_128 : decode cL_view 128 = .ok (.istore_n 3, 1) := by decide +kernel
theorem dL_view_129 : decode cL_view 129 = .ok (.iload_n 3, 1) := by decide +kernel
theorem dL_view_130 : decode cL_view 130 = .ok (.aload_n 0, 1) := by decide +kernel
theorem dL_view_131 : decode cL_view 131 = .ok (.iconst 2, 1) := by decide +kernel
theorem dL_view_132 : decode cL_view 132 = .ok (.invokevirtual 13, 3) := by decide +kernel
theorem dL_view_135 : decode cL_view 135 = .ok (.if_icmp .ge 40, 3) := by decide +kernel
theorem dL_view_138 : decode cL_view 138 = .ok (.iconst 0, 1) := by decide +kernel
theorem dL_view_139 : decode cL_view 139 = .ok (.istore 4, 2) := by decide +kernel
theorem dL_view_141 : decode cL_view 141 = .ok (.iload 4, 2) := by decide +kernel
theorem dL_view_143 : decode cL_view 143 = .ok (.bipush 12, 2) := by decide +kernel
theorem dL_view_145 : decode cL_view 145 = .ok (.if_icmp .ge 24, 3) := by decide +kernel
theorem dL_view_148 : decode cL_view 148 = .ok (.ldc2_w 11, 3) := by decide +kernel
theorem dL_view_151 : decode cL_view 151 = .ok (.lload_n 1, 1) := by decide +kernel
theorem dL_view_152 : decode cL_view 152 = .ok (.lmul, 1) := by decide +kernel
theorem dL_view_153 : decode cL_view 153 = .ok (.aload_n 0, 1) := by decide +kernel
theorem dL_view_154 : decode cL_view 154 = .ok (.iload_n 3, 1) := by decide +kernel
theorem dL_view_155 : decode cL_view 155 = .ok (.iload 4, 2) := by decide +kernel
theorem dL_view_157 : decode cL_view 157 = .ok (.invokevirtual 27, 3) := by decide +kernel
theorem dL_view_160 : decode cL_view 160 = .ok (.i2l, 1) := by decide +kernel
theorem dL_view_161 : decode cL_view 161 = .ok (.ladd, 1) := by decide +kernel
theorem dL_view_162 : decode cL_view 162 = .ok (.lstore_n 1, 1) := by decide +kernel
theorem dL_view_163 : decode cL_view 163 = .ok (.iinc 4 1, 3) := by decide +kernel
theorem dL_view_166 : decode cL_view 166 = .ok (.goto (-25), 3) := by decide +kernel
theorem dL_view_169 : decode cL_view 169 = .ok (.iinc 3 1, 3) := by decide +kernel
theorem dL_view_172 : decode cL_view 172 = .ok (.goto (-43), 3) := by decide +kernel
theorem dL_view_175 : decode cL_view 175 = .ok (.iconst 0, 1) := by decide +kernel
theorem dL_view_176 : decode cL_view 176 = .ok (.istore_n 3, 1) := by decide +kernel
theorem dL_view_177 : decode cL_view 177 = .ok (.iload_n 3, 1) := by decide +kernel
theorem dL_view_178 : decode cL_view 178 = .ok (.aload_n 0, 1) := by decide +kernel
theorem dL_view_179 : decode cL_view 179 = .ok (.bipush 11, 2) := by decide +kernel
theorem dL_view_181 : decode cL_view 181 = .ok (.invokevirtual 13, 3) := by decide +kernel
theorem dL_view_184 : decode cL_view 184 = .ok (.if_icmp .ge 40, 3) := by decide +kernel
theorem dL_view_187 : decode cL_view 187 = .ok (.iconst 0, 1) := by decide +kernel
theorem dL_view_188 : decode cL_view 188 = .ok (.istore 4, 2) := by decide +kernel
theorem dL_view_190 : decode cL_view 190 = .ok (.iload 4, 2) := by decide +kernel
theorem dL_view_192 : decode cL_view 192 = .ok (.bipush 6, 2) := by decide +kernel
theorem dL_view_194 : decode cL_view 194 = .ok (.if_icmp .ge 24, 3) := by decide +kernel
theorem dL_view_197 : decode cL_view 197 = .ok (.ldc2_w 11, 3) := by decide +kernel
theorem dL_view_200 : decode cL_view 200 = .ok (.lload_n 1, 1) := by decide +kernel
theorem dL_view_201 : decode cL_view 201 = .ok (.lmul, 1) := by decide +kernel
theorem dL_view_202 : decode cL_view 202 = .ok (.aload_n 0, 1) := by decide +kernel
theorem dL_view_203 : decode cL_view 203 = .ok (.iload_n 3, 1) := by decide +kernel
theorem dL_view_204 : decode cL_view 204 = .ok (.iload 4, 2) := by decide +kernel
theorem dL_view_206 : decode cL_view 206 = .ok (.invokevirtual 30, 3) := by decide +kernel
theorem dL_view_209 : decode cL_view 209 = .ok (.i2l, 1) := by decide +kernel
theorem dL_view_210 : decode cL_view 210 = .ok (.ladd, 1) := by decide +kernel
theorem dL_view_211 : decode cL_view 211 = .ok (.lstore_n 1, 1) := by decide +kernel
theorem dL_view_212 : decode cL_view 212 = .ok (.iinc 4 1, 3) := by decide +kernel
theorem dL_view_215 : decode cL_view 215 = .ok (.goto (-25), 3) := by decide +kernel
theorem dL_view_218 : decode cL_view 218 = .ok (.iinc 3 1, 3) := by decide +kernel
theorem dL_view_221 : decode cL_view 221 = .ok (.goto (-44), 3) := by decide +kernel
theorem dL_view_224 : decode cL_view 224 = .ok (.lload_n 1, 1) := by decide +kernel
theorem dL_view_225 : decode cL_view 225 = .ok (.lreturn, 1) := by decide +kernel
theorem dL_any_0 : decode cL_any 0 = .ok (.iload_n 2, 1) := by decide +kernel
theorem dL_any_1 : decode cL_any 1 = .ok (.bipush 7, 2) := by decide +kernel
theorem dL_any_3 : decode cL_any 3 = .ok (.iand, 1) := by decide +kernel
theorem dL_any_4 : decode cL_any 4 = .ok (.tableswitch 90 0 6 #[44, 50, 57, 64, 70, 76, 82], 44) := by decide +kernel
theorem dL_any_48 : decode cL_any 48 = .ok (.aload_n 0, 1) := by decide +kernel
theorem dL_any_49 : decode cL_any 49 = .ok (.iload_n 1, 1) := by decide +kernel
theorem dL_any_50 : decode cL_any 50 = .ok (.invokevirtual 33, 3) := by decide +kernel
theorem dL_any_53 : decode cL_any 53 = .ok (.ireturn, 1) := by decide +kernel
theorem dL_any_54 : decode cL_any 54 = .ok (.aload_n 0, 1) := by decide +kernel
theorem dL_any_55 : decode cL_any 55 = .ok (.iload_n 1, 1) := by decide +kernel
theorem dL_any_56 : decode cL_any 56 = .ok (.iload_n 2, 1) := by decide +kernel
theorem dL_any_57 : decode cL_any 57 = .ok (.invokevirtual 36, 3) := by decide +kernel
theorem dL_any_60 : decode cL_any 60 = .ok (.ireturn, 1) := by decide +kernel
theorem dL_any_61 : decode cL_any 61 = .ok (.aload_n 0, 1) := by decide +kernel
theorem dL_any_62 : decode cL_any 62 = .ok (.iload_n 1, 1) := by decide +kernel
theorem dL_any_63 : decode cL_any 63 = .ok (.iload_n 2, 1) := by decide +kernel
theorem dL_any_64 : decode cL_any 64 = .ok (.invokevirtual 39, 3) := by decide +kernel
theorem dL_any_67 : decode cL_any 67 = .ok (.ireturn, 1) := by decide +kernel
theorem dL_any_68 : decode cL_any 68 = .ok (.aload_n 0, 1) := by decide +kernel
theorem dL_any_69 : decode cL_any 69 = .ok (.iload_n 1, 1) := by decide +kernel
theorem dL_any_70 : decode cL_any 70 = .ok (.invokevirtual 42, 3) := by decide +kernel
theorem dL_any_73 : decode cL_any 73 = .ok (.ireturn, 1) := by decide +kernel
theorem dL_any_74 : decode cL_any 74 = .ok (.aload_n 0, 1) := by decide +kernel
theorem dL_any_75 : decode cL_any 75 = .ok (.iload_n 1, 1) := by decide +kernel
theorem dL_any_76 : decode cL_any 76 = .ok (.invokevirtual 45, 3) := by decide +kernel
theorem dL_any_79 : decode cL_any 79 = .ok (.ireturn, 1) := by decide +kernel
theorem dL_any_80 : decode cL_any 80 = .ok (.aload_n 0, 1) := by decide +kernel
theorem dL_any_81 : decode cL_any 81 = .ok (.iload_n 1, 1) := by decide +kernel
theorem dL_any_82 : decode cL_any 82 = .ok (.invokevirtual 48, 3) := by decide +kernel
theorem dL_any_85 : decode cL_any 85 = .ok (.ireturn, 1) := by decide +kernel
theorem dL_any_86 : decode cL_any 86 = .ok (.aload_n 0, 1) := by decide +kernel
theorem dL_any_87 : decode cL_any 87 = .ok (.iload_n 1, 1) := by decide +kernel
theorem dL_any_88 : decode cL_any 88 = .ok (.iload_n 2, 1) := by decide +kernel
theorem dL_any_89 : decode cL_any 89 = .ok (.iload_n 1, 1) := by decide +kernel
theorem dL_any_90 : decode cL_any 90 = .ok (.invokevirtual 51, 3) := by decide +kernel
theorem dL_any_93 : decode cL_any 93 = .ok (.ireturn, 1) := by decide +kernel
theorem dL_any_94 : decode cL_any 94 = .ok (.aload_n 0, 1) := by decide +kernel
theorem dL_any_95 : decode cL_any 95 = .ok (.iload_n 1, 1) := by decide +kernel
theorem dL_any_96 : decode cL_any 96 = .ok (.invokevirtual 54, 3) := by decide +kernel
theorem dL_any_99 : decode cL_any 99 = .ok (.ireturn, 1) := by decide +kernel
theorem dL_turn_0 : decode cL_turn 0 = .ok (.iload_n 2, 1) := by decide +kernel
theorem dL_turn_1 : decode cL_turn 1 = .ok (.aload_n 0, 1) := by decide +kernel
theorem dL_turn_2 : decode cL_turn 2 = .ok (.iconst 2, 1) := by decide +kernel
theorem dL_turn_3 : decode cL_turn 3 = .ok (.invokevirtual 13, 3) := by decide +kernel
theorem dL_turn_6 : decode cL_turn 6 = .ok (.iconst 1, 1) := by decide +kernel
theorem dL_turn_7 : decode cL_turn 7 = .ok (.iadd, 1) := by decide +kernel
theorem dL_turn_8 : decode cL_turn 8 = .ok (.invokestatic 57, 3) := by decide +kernel
theorem dL_turn_11 : decode cL_turn 11 = .ok (.istore 4, 2) := by decide +kernel
theorem dL_turn_13 : decode cL_turn 13 = .ok (.iload_n 1, 1) := by decide +kernel
theorem dL_turn_14 : decode cL_turn 14 = .ok (.tableswitch 223 0 14 #[74, 74, 97, 113, 127, 134, 169, 181, 181, 194, 194, 194, 216, 216, 216], 74) := by decide +kernel
theorem dL_turn_88 : decode cL_turn 88 = .ok (.aload_n 0, 1) := by decide +kernel
theorem dL_turn_89 : decode cL_turn 89 = .ok (.iload_n 3, 1) := by decide +kernel
theorem dL_turn_90 : decode cL_turn 90 = .ok (.iload_n 2, 1) := by decide +kernel
theorem dL_turn_91 : decode cL_turn 91 = .ok (.iconst 3, 1) := by decide +kernel
theorem dL_turn_92 : decode cL_turn 92 = .ok (.iand, 1) := by decide +kernel
theorem dL_turn_93 : decode cL_turn 93 = .ok (.ifCond .ne 9, 3) := by decide +kernel
theorem dL_turn_96 : decode cL_turn 96 = .ok (.sipush 10000, 3) := by decide +kernel
theorem dL_turn_99 : decode cL_turn 99 = .ok (.goto 5, 3) := by decide +kernel
theorem dL_turn_102 : decode cL_turn 102 = .ok (.bipush 60, 2) := by decide +kernel
theorem dL_turn_104 : decode cL_turn 104 = .ok (.invokestatic 57, 3) := by decide +kernel
theorem dL_turn_107 : decode cL_turn 107 = .ok (.invokevirtual 33, 3) := by decide +kernel
theorem dL_turn_110 : decode cL_turn 110 = .ok (.ireturn, 1) := by decide +kernel
theorem dL_turn_111 : decode cL_turn 111 = .ok (.aload_n 0, 1) := by decide +kernel
theorem dL_turn_112 : decode cL_turn 112 = .ok (.iload 4, 2) := by decide +kernel
theorem dL_turn_114 : decode cL_turn 114 = .ok (.iconst 1, 1) := by decide +kernel
theorem dL_turn_115 : decode cL_turn 115 = .ok (.iload_n 3, 1) := by decide +kernel
theorem dL_turn_116 : decode cL_turn 116 = .ok (.sipush 200, 3) := by decide +kernel
theorem dL_turn_119 : decode cL_turn 119 = .ok (.invokestatic 57, 3) := by decide +kernel
theorem dL_turn_122 : decode cL_turn 122 = .ok (.iadd, 1) := by decide +kernel
theorem dL_turn_123 : decode cL_turn 123 = .ok (.invokevirtual 36, 3) := by decide +kernel
theorem dL_turn_126 : decode cL_turn 126 = .ok (.ireturn, 1) := by decide +kernel
theorem dL_turn_127 : decode cL_turn 127 = .ok (.aload_n 0, 1) := by decide +kernel
theorem dL_turn_128 : decode cL_turn 128 = .ok (.iload 4, 2) := by decide +kernel
theorem dL_turn_130 : decode cL_turn 130 = .ok (.iconst 1, 1) := by decide +kernel
theorem dL_turn_131 : decode cL_turn 131 = .ok (.iload_n 3, 1) := by decide +kernel
theorem dL_turn_132 : decode cL_turn 132 = .ok (.iconst 5, 1) := by decide +kernel
theorem dL_turn_133 : decode cL_turn 133 = .ok (.invokestatic 57, 3) := by decide +kernel
theorem dL_turn_136 : decode cL_turn 136 = .ok (.iadd, 1) := by decide +kernel
theorem dL_turn_137 : decode cL_turn 137 = .ok (.invokevirtual 39, 3) := by decide +kernel
theorem dL_turn_140 : decode cL_turn 140 = .ok (.ireturn, 1) := by decide +kernel
theorem dL_turn_141 : decode cL_turn 141 = .ok (.aload_n 0, 1) := by decide +kernel
theorem dL_turn_142 : decode cL_turn 142 = .ok (.iload 4, 2) := by decide +kernel
theorem dL_turn_144 : decode cL_turn 144 = .ok (.invokevirtual 42, 3) := by decide +kernel
theorem dL_turn_147 : decode cL_turn 147 = .ok (.ireturn, 1) := by decide +kernel
theorem dL_turn_148 : decode cL_turn 148 = .ok (.iload_n 2, 1) := by decide +kernel
theorem dL_turn_149 : decode cL_turn 149 = .ok (.iconst 1, 1) := by decide +kernel
theorem dL_turn_150 : decode cL_turn 150 = .ok (.iand, 1) := by decide +kernel
theorem dL_turn_151 : decode cL_turn 151 = .ok (.ifCond .ne 16, 3) := by decide +kernel
theorem dL_turn_154 : decode cL_turn 154 = .ok (.aload_n 0, 1) := by decide +kernel
theorem dL_turn_155 : decode cL_turn 155 = .ok (.iload_n 3, 1) := by decide +kernel
theorem dL_turn_156 : decode cL_turn 156 = .ok (.bipush 100, 2) := by decide +kernel
theorem dL_turn_158 : decode cL_turn 158 = .ok (.invokestatic 57, 3) := by decide +kernel
theorem dL_turn_161 : decode cL_turn 161 = .ok (.invokevirtual 45, 3) := by decide +kernel
theorem dL_turn_164 : decode cL_turn 164 = .ok (.goto 18, 3) := by decide +kernel
theorem dL_turn_167 : decode cL_turn 167 = .ok (.aload_n 0, 1) := by decide +kernel
theorem dL_turn_168 : decode cL_turn 168 = .ok (.iload_n 3, 1) := by decide +kernel
theorem dL_turn_169 : decode cL_turn 169 = .ok (.iconst 1, 1) := by decide +kernel
theorem dL_turn_170 : decode cL_turn 170 = .ok (.iand, 1) := by decide +kernel
theorem dL_turn_171 : decode cL_turn 171 = .ok (.ifCond .ne 7, 3) := by decide +kernel
theorem dL_turn_174 : decode cL_turn 174 = .ok (.iconst 1, 1) := by decide +kernel
theorem dL_turn_175 : decode cL_turn 175 = .ok (.goto 4, 3) := by decide +kernel
theorem dL_turn_178 : decode cL_turn 178 = .ok (.iconst 0, 1) := by decide +kernel
theorem dL_turn_179 : decode cL_turn 179 = .ok (.invokevirtual 62, 3) := by decide +kernel
theorem dL_turn_182 : decode cL_turn 182 = .ok (.ireturn, 1) := by decide +kernel
theorem dL_turn_183 : decode cL_turn 183 = .ok (.aload_n 0, 1) := by decide +kernel
theorem dL_turn_184 : decode cL_turn 184 = .ok (.iconst 1, 1) := by decide +kernel
theorem dL_turn_185 : decode cL_turn 185 = .ok (.iload_n 2, 1) := by decide +kernel
theorem dL_turn_186 : decode cL_turn 186 = .ok (.iconst 3, 1) := by decide +kernel
theorem dL_turn_187 : decode cL_turn 187 = .ok (.invokestatic 57, 3) := by decide +kernel
theorem dL_turn_190 : decode cL_turn 190 = .ok (.iadd, 1) := by decide +kernel
theorem dL_turn_191 : decode cL_turn 191 = .ok (.invokevirtual 48, 3) := by decide +kernel
theorem dL_turn_194 : decode cL_turn 194 = .ok (.ireturn, 1) := by decide +kernel
theorem dL_turn_195 : decode cL_turn 195 = .ok (.aload_n 0, 1) := by decide +kernel
theorem dL_turn_196 : decode cL_turn 196 = .ok (.iload 4, 2) := by decide +kernel
theorem dL_turn_198 : decode cL_turn 198 = .ok (.iload_n 3, 1) := by decide +kernel
theorem dL_turn_199 : decode cL_turn 199 = .ok (.bipush 12, 2) := by decide +kernel
theorem dL_turn_201 : decode cL_turn 201 = .ok (.invokestatic 57, 3) := by decide +kernel
theorem dL_turn_204 : decode cL_turn 204 = .ok (.invokevirtual 66, 3) := by decide +kernel
theorem dL_turn_207 : decode cL_turn 207 = .ok (.ireturn, 1) := by decide +kernel
theorem dL_turn_208 : decode cL_turn 208 = .ok (.aload_n 0, 1) := by decide +kernel
theorem dL_turn_209 : decode cL_turn 209 = .ok (.iload 4, 2) := by decide +kernel
theorem dL_turn_211 : decode cL_turn 211 = .ok (.iload_n 3, 1) := by decide +kernel
theorem dL_turn_212 : decode cL_turn 212 = .ok (.bipush 6, 2) := by decide +kernel
theorem dL_turn_214 : decode cL_turn 214 = .ok (.invokestatic 57, 3) := by decide +kernel
theorem dL_turn_217 : decode cL_turn 217 = .ok (.iload_n 3, 1) := by decide +kernel
theorem dL_turn_218 : decode cL_turn 218 = .ok (.iconst 4, 1) := by decide +kernel
theorem dL_turn_219 : decode cL_turn 219 = .ok (.ishr, 1) := by decide +kernel
theorem dL_turn_220 : decode cL_turn 220 = .ok (.sipush 10000, 3) := by decide +kernel
theorem dL_turn_223 : decode cL_turn 223 = .ok (.invokestatic 57, 3) := by decide +kernel
theorem dL_turn_226 : decode cL_turn 226 = .ok (.invokevirtual 51, 3) := by decide +kernel
theorem dL_turn_229 : decode cL_turn 229 = .ok (.ireturn, 1) := by decide +kernel
theorem dL_turn_230 : decode cL_turn 230 = .ok (.aload_n 0, 1) := by decide +kernel
theorem dL_turn_231 : decode cL_turn 231 = .ok (.iload 4, 2) := by decide +kernel
theorem dL_turn_233 : decode cL_turn 233 = .ok (.invokevirtual 54, 3) := by decide +kernel
theorem dL_turn_236 : decode cL_turn 236 = .ok (.ireturn, 1) := by decide +kernel
theorem dL_turn_237 : decode cL_turn 237 = .ok (.aload_n 0, 1) := by decide +kernel
theorem dL_turn_238 : decode cL_turn 238 = .ok (.iload_n 2, 1) := by decide +kernel
theorem dL_turn_239 : decode cL_turn 239 = .ok (.iload_n 3, 1) := by decide +kernel
theorem dL_turn_240 : decode cL_turn 240 = .ok (.invokestatic 69, 3) := by decide +kernel
theorem dL_turn_243 : decode cL_turn 243 = .ok (.ireturn, 1) := by decide +kernel
theorem dL_seen_0 : decode cL_seen 0 = .ok (.aload_n 0, 1) := by decide +kernel
theorem dL_seen_1 : decode cL_seen 1 = .ok (.iload_n 1, 1) := by decide +kernel
theorem dL_seen_2 : decode cL_seen 2 = .ok (.iconst 0, 1) := by decide +kernel
theorem dL_seen_3 : decode cL_seen 3 = .ok (.invokevirtual 27, 3) := by decide +kernel
theorem dL_seen_6 : decode cL_seen 6 = .ok (.ifCond .ne 13, 3) := by decide +kernel
theorem dL_seen_9 : decode cL_seen 9 = .ok (.aload_n 0, 1) := by decide +kernel
theorem dL_seen_10 : decode cL_seen 10 = .ok (.iload_n 1, 1) := by decide +kernel
theorem dL_seen_11 : decode cL_seen 11 = .ok (.bipush 9, 2) := by decide +kernel
theorem dL_seen_13 : decode cL_seen 13 = .ok (.invokevirtual 27, 3) := by decide +kernel
theorem dL_seen_16 : decode cL_seen 16 = .ok (.goto 4, 3) := by decide +kernel
theorem dL_seen_19 : decode cL_seen 19 = .ok (.iconst (-1), 1) := by decide +kernel
theorem dL_seen_20 : decode cL_seen 20 = .ok (.ireturn, 1) := by decide +kernel
theorem dL_areVersions_0 : decode cL_areVersions 0 = .ok (.iconst 0, 1) := by decide +kernel
theorem dL_areVersions_1 : decode cL_areVersions 1 = .ok (.istore_n 1, 1) := by decide +kernel
theorem dL_areVersions_2 : decode cL_areVersions 2 = .ok (.iconst 1, 1) := by decide +kernel
theorem dL_areVersions_3 : decode cL_areVersions 3 = .ok (.istore_n 2, 1) := by decide +kernel
theorem dL_areVersions_4 : decode cL_areVersions 4 = .ok (.iconst 0, 1) := by decide +kernel
theorem dL_areVersions_5 : decode cL_areVersions 5 = .ok (.istore_n 3, 1) := by decide +kernel
theorem dL_areVersions_6 : decode cL_areVersions 6 = .ok (.iload_n 3, 1) := by decide +kernel
theorem dL_areVersions_7 : decode cL_areVersions 7 = .ok (.bipush 12, 2) := by decide +kernel
theorem dL_areVersions_9 : decode cL_areVersions 9 = .ok (.if_icmp .ge 158, 3) := by decide +kernel
theorem dL_areVersions_12 : decode cL_areVersions 12 = .ok (.iload_n 2, 1) := by decide +kernel
theorem dL_areVersions_13 : decode cL_areVersions 13 = .ok (.ifCond .eq 154, 3) := by decide +kernel
theorem dL_areVersions_16 : decode cL_areVersions 16 = .ok (.aload_n 0, 1) := by decide +kernel
theorem dL_areVersions_17 : decode cL_areVersions 17 = .ok (.iload_n 3, 1) := by decide +kernel
theorem dL_areVersions_18 : decode cL_areVersions 18 = .ok (.iconst 2, 1) := by decide +kernel
theorem dL_areVersions_19 : decode cL_areVersions 19 = .ok (.invokevirtual 19, 3) := by decide +kernel
theorem dL_areVersions_22 : decode cL_areVersions 22 = .ok (.istore 4, 2) := by decide +kernel
theorem dL_areVersions_24 : decode cL_areVersions 24 = .ok (.iload 4, 2) := by decide +kernel
theorem dL_areVersions_26 : decode cL_areVersions 26 = .ok (.iconst 1, 1) := by decide +kernel
theorem dL_areVersions_27 : decode cL_areVersions 27 = .ok (.if_icmp .lt 52, 3) := by decide +kernel
theorem dL_areVersions_30 : decode cL_areVersions 30 = .ok (.aload_n 0, 1) := by decide +kernel
theorem dL_areVersions_31 : decode cL_areVersions 31 = .ok (.iload_n 3, 1) := by decide +kernel
theorem dL_areVersions_32 : decode cL_areVersions 32 = .ok (.iconst 0, 1) := by decide +kernel
theorem dL_areVersions_33 : decode cL_areVersions 33 = .ok (.iconst 0, 1) := by decide +kernel
theorem dL_areVersions_34 : decode cL_areVersions 34 = .ok (.invokevirtual 23, 3) := by decide +kernel
theorem dL_areVersions_37 : decode cL_areVersions 37 = .ok (.aload_n 0, 1) := by decide +kernel
theorem dL_areVersions_38 : decode cL_areVersions 38 = .ok (.iload_n 3, 1) := by decide +kernel
theorem dL_areVersions_39 : decode cL_areVersions 39 = .ok (.iconst 0, 1) := by decide +kernel
theorem dL_areVersions_40 : decode cL_areVersions 40 = .ok (.invokevirtual 19, 3) := by decide +kernel
theorem dL_areVersions_43 : decode cL_areVersions 43 = .ok (.if_icmp .ne 36, 3) := by decide +kernel
theorem dL_areVersions_46 : decode cL_areVersions 46 = .ok (.aload_n 0, 1) := by decide +kernel
theorem dL_areVersions_47 : decode cL_areVersions 47 = .ok (.iload_n 3, 1) := by decide +kernel
theorem dL_areVersions_48 : decode cL_areVersions 48 = .ok (.iconst 0, 1) := by decide +kernel
theorem dL_areVersions_49 : decode cL_areVersions 49 = .ok (.iconst 1, 1) := by decide +kernel
theorem dL_areVersions_50 : decode cL_areVersions 50 = .ok (.invokevirtual 23, 3) := by decide +kernel
theorem dL_areVersions_53 : decode cL_areVersions 53 = .ok (.aload_n 0, 1) := by decide +kernel
theorem dL_areVersions_54 : decode cL_areVersions 54 = .ok (.iload_n 3, 1) := by decide +kernel
theorem dL_areVersions_55 : decode cL_areVersions 55 = .ok (.iconst 1, 1) := by decide +kernel
theorem dL_areVersions_56 : decode cL_areVersions 56 = .ok (.invokevirtual 19, 3) := by decide +kernel
theorem dL_areVersions_59 : decode cL_areVersions 59 = .ok (.if_icmp .ne 20, 3) := by decide +kernel
theorem dL_areVersions_62 : decode cL_areVersions 62 = .ok (.aload_n 0, 1) := by decide +kernel
theorem dL_areVersions_63 : decode cL_areVersions 63 = .ok (.iload_n 3, 1) := by decide +kernel
theorem dL_areVersions_64 : decode cL_areVersions 64 = .ok (.iload 4, 2) := by decide +kernel
theorem dL_areVersions_66 : decode cL_areVersions 66 = .ok (.iconst 0, 1) := by decide +kernel
theorem dL_areVersions_67 : decode cL_areVersions 67 = .ok (.invokevirtual 23, 3) := by decide +kernel
theorem dL_areVersions_70 : decode cL_areVersions 70 = .ok (.bipush (-5), 2) := by decide +kernel
theorem dL_areVersions_72 : decode cL_areVersions 72 = .ok (.if_icmp .ne 7, 3) := by decide +kernel
theorem dL_areVersions_75 : decode cL_areVersions 75 = .ok (.iconst 1, 1) := by decide +kernel
theorem dL_areVersions_76 : decode cL_areVersions 76 = .ok (.goto 4, 3) := by decide +kernel
theorem dL_areVersions_79 : decode cL_areVersions 79 = .ok (.iconst 0, 1) := by decide +kernel
theorem dL_areVersions_80 : decode cL_areVersions 80 = .ok (.istore_n 2, 1) := by decide +kernel
theorem dL_areVersions_81 : decode cL_areVersions 81 = .ok (.iconst 1, 1) := by decide +kernel
theorem dL_areVersions_82 : decode cL_areVersions 82 = .ok (.istore 5, 2) := by decide +kernel
theorem dL_areVersions_84 : decode cL_areVersions 84 = .ok (.iload 5, 2) := by decide +kernel
theorem dL_areVersions_86 : decode cL_areVersions 86 = .ok (.iload 4, 2) := by decide +kernel
theorem dL_areVersions_88 : decode cL_areVersions 88 = .ok (.if_icmp .ge 73, 3) := by decide +kernel
theorem dL_areVersions_91 : decode cL_areVersions 91 = .ok (.iload_n 2, 1) := by decide +kernel
theorem dL_areVersions_92 : decode cL_areVersions 92 = .ok (.ifCond .eq 69, 3) := by decide +kernel
theorem dL_areVersions_95 : decode cL_areVersions 95 = .ok (.aload_n 0, 1) := by decide +kernel
theorem dL_areVersions_96 : decode cL_areVersions 96 = .ok (.iload_n 3, 1) := by decide +kernel
theorem dL_areVersions_97 : decode cL_areVersions 97 = .ok (.iload 5, 2) := by decide +kernel
theorem dL_areVersions_99 : decode cL_areVersions 99 = .ok (.iconst 1, 1) := by decide +kernel
theorem dL_areVersions_100 : decode cL_areVersions 100 = .ok (.invokevirtual 23, 3) := by decide +kernel
theorem dL_areVersions_103 : decode cL_areVersions 103 = .ok (.aload_n 0, 1) := by decide +kernel
theorem dL_areVersions_104 : decode cL_areVersions 104 = .ok (.iload_n 3, 1) := by decide +kernel
theorem dL_areVersions_105 : decode cL_areVersions 105 = .ok (.iload 5, 2) := by decide +kernel
theorem dL_areVersions_107 : decode cL_areVersions 107 = .ok (.iconst 1, 1) := by decide +kernel
theorem dL_areVersions_108 : decode cL_areVersions 108 = .ok (.isub, 1) := by decide +kernel
theorem dL_areVersions_109 : decode cL_areVersions 109 = .ok (.iconst 1, 1) := by decide +kernel
theorem dL_areVersions_110 : decode cL_areVersions 110 = .ok (.invokevirtual 23, 3) := by decide +kernel
theorem dL_areVersions_113 : decode cL_areVersions 113 = .ok (.if_icmp .ge 37, 3) := by decide +kernel
theorem dL_areVersions_116 : decode cL_areVersions 116 = .ok (.aload_n 0, 1) := by decide +kernel
theorem dL_areVersions_117 : decode cL_areVersions 117 = .ok (.iload_n 3, 1) := by decide +kernel
theorem dL_areVersions_118 : decode cL_areVersions 118 = .ok (.iload 5, 2) := by decide +kernel
theorem dL_areVersions_120 : decode cL_areVersions 120 = .ok (.iconst 2, 1) := by decide +kernel
theorem dL_areVersions_121 : decode cL_areVersions 121 = .ok (.invokevirtual 23, 3) := by decide +kernel
theorem dL_areVersions_124 : decode cL_areVersions 124 = .ok (.ifCond .le 26, 3) := by decide +kernel
theorem dL_areVersions_127 : decode cL_areVersions 127 = .ok (.aload_n 0, 1) := by decide +kernel
theorem dL_areVersions_128 : decode cL_areVersions 128 = .ok (.iload_n 3, 1) := by decide +kernel
theorem dL_areVersions_129 : decode cL_areVersions 129 = .ok (.iload 5, 2) := by decide +kernel
theorem dL_areVersions_131 : decode cL_areVersions 131 = .ok (.iconst 3, 1) := by decide +kernel
theorem dL_areVersions_132 : decode cL_areVersions 132 = .ok (.invokevirtual 23, 3) := by decide +kernel
theorem dL_areVersions_135 : decode cL_areVersions 135 = .ok (.aload_n 0, 1) := by decide +kernel
theorem dL_areVersions_136 : decode cL_areVersions 136 = .ok (.iload_n 3, 1) := by decide +kernel
theorem dL_areVersions_137 : decode cL_areVersions 137 = .ok (.iload 5, 2) := by decide +kernel
theorem dL_areVersions_139 : decode cL_areVersions 139 = .ok (.iconst 2, 1) := by decide +kernel
theorem dL_areVersions_140 : decode cL_areVersions 140 = .ok (.invokevirtual 23, 3) := by decide +kernel
theorem dL_areVersions_143 : decode cL_areVersions 143 = .ok (.if_icmp .gt 7, 3) := by decide +kernel
theorem dL_areVersions_146 : decode cL_areVersions 146 = .ok (.iconst 1, 1) := by decide +kernel
theorem dL_areVersions_147 : decode cL_areVersions 147 = .ok (.goto 4, 3) := by decide +kernel
theorem dL_areVersions_150 : decode cL_areVersions 150 = .ok (.iconst 0, 1) := by decide +kernel
theorem dL_areVersions_151 : decode cL_areVersions 151 = .ok (.istore_n 2, 1) := by decide +kernel
theorem dL_areVersions_152 : decode cL_areVersions 152 = .ok (.iinc 1 1, 3) := by decide +kernel
theorem dL_areVersions_155 : decode cL_areVersions 155 = .ok (.iinc 5 1, 3) := by decide +kernel
theorem dL_areVersions_158 : decode cL_areVersions 158 = .ok (.goto (-74), 3) := by decide +kernel
theorem dL_areVersions_161 : decode cL_areVersions 161 = .ok (.iinc 3 1, 3) := by decide +kernel
theorem dL_areVersions_164 : decode cL_areVersions 164 = .ok (.goto (-158), 3) := by decide +kernel
theorem dL_areVersions_167 : decode cL_areVersions 167 = .ok (.iload_n 2, 1) := by decide +kernel
theorem dL_areVersions_168 : decode cL_areVersions 168 = .ok (.ifCond .eq 23, 3) := by decide +kernel
theorem dL_areVersions_171 : decode cL_areVersions 171 = .ok (.iload_n 1, 1) := by decide +kernel
theorem dL_areVersions_172 : decode cL_areVersions 172 = .ok (.aload_n 0, 1) := by decide +kernel
theorem dL_areVersions_173 : decode cL_areVersions 173 = .ok (.bipush 7, 2) := by decide +kernel
theorem dL_areVersions_175 : decode cL_areVersions 175 = .ok (.invokevirtual 13, 3) := by decide +kernel
theorem dL_areVersions_178 : decode cL_areVersions 178 = .ok (.if_icmp .ne 13, 3) := by decide +kernel
theorem dL_areVersions_181 : decode cL_areVersions 181 = .ok (.iload_n 1, 1) := by decide +kernel
theorem dL_areVersions_182 : decode cL_areVersions 182 = .ok (.bipush 40, 2) := by decide +kernel
theorem dL_areVersions_184 : decode cL_areVersions 184 = .ok (.if_icmp .gt 7, 3) := by decide +kernel
theorem dL_areVersions_187 : decode cL_areVersions 187 = .ok (.iconst 1, 1) := by decide +kernel
theorem dL_areVersions_188 : decode cL_areVersions 188 = .ok (.goto 4, 3) := by decide +kernel
theorem dL_areVersions_191 : decode cL_areVersions 191 = .ok (.iconst 0, 1) := by decide +kernel
theorem dL_areVersions_192 : decode cL_areVersions 192 = .ok (.ireturn, 1) := by decide +kernel
theorem dL_coins_0 : decode cL_coins 0 = .ok (.lload_n 1, 1) := by decide +kernel
theorem dL_coins_1 : decode cL_coins 1 = .ok (.aload_n 0, 1) := by decide +kernel
theorem dL_coins_2 : decode cL_coins 2 = .ok (.bipush 10, 2) := by decide +kernel
theorem dL_coins_4 : decode cL_coins 4 = .ok (.invokevirtual 13, 3) := by decide +kernel
theorem dL_coins_7 : decode cL_coins 7 = .ok (.i2l, 1) := by decide +kernel
theorem dL_coins_8 : decode cL_coins 8 = .ok (.lsub, 1) := by decide +kernel
theorem dL_coins_9 : decode cL_coins 9 = .ok (.lstore_n 3, 1) := by decide +kernel
theorem dL_coins_10 : decode cL_coins 10 = .ok (.iconst 0, 1) := by decide +kernel
theorem dL_coins_11 : decode cL_coins 11 = .ok (.istore 5, 2) := by decide +kernel
theorem dL_coins_13 : decode cL_coins 13 = .ok (.iload 5, 2) := by decide +kernel
theorem dL_coins_15 : decode cL_coins 15 = .ok (.aload_n 0, 1) := by decide +kernel
theorem dL_coins_16 : decode cL_coins 16 = .ok (.iconst 2, 1) := by decide +kernel
theorem dL_coins_17 : decode cL_coins 17 = .ok (.invokevirtual 13, 3) := by decide +kernel
theorem dL_coins_20 : decode cL_coins 20 = .ok (.if_icmp .ge 20, 3) := by decide +kernel
theorem dL_coins_23 : decode cL_coins 23 = .ok (.lload_n 3, 1) := by decide +kernel
theorem dL_coins_24 : decode cL_coins 24 = .ok (.aload_n 0, 1) := by decide +kernel
theorem dL_coins_25 : decode cL_coins 25 = .ok (.iload 5, 2) := by decide +kernel
theorem dL_coins_27 : decode cL_coins 27 = .ok (.iconst 2, 1) := by decide +kernel
theorem dL_coins_28 : decode cL_coins 28 = .ok (.invokevirtual 27, 3) := by decide +kernel
theorem dL_coins_31 : decode cL_coins 31 = .ok (.i2l, 1) := by decide +kernel
theorem dL_coins_32 : decode cL_coins 32 = .ok (.lsub, 1) := by decide +kernel
theorem dL_coins_33 : decode cL_coins 33 = .ok (.lstore_n 3, 1) := by decide +kernel
theorem dL_coins_34 : decode cL_coins 34 = .ok (.iinc 5 1, 3) := by decide +kernel
theorem dL_coins_37 : decode cL_coins 37 = .ok (.goto (-24), 3) := by decide +kernel
theorem dL_coins_40 : decode cL_coins 40 = .ok (.lload_n 3, 1) := by decide +kernel
theorem dL_coins_41 : decode cL_coins 41 = .ok (.lreturn, 1) := by decide +kernel
theorem dL_putBy_0 : decode cL_putBy 0 = .ok (.iload_n 0, 1) := by decide +kernel
theorem dL_putBy_1 : decode cL_putBy 1 = .ok (.iconst 2, 1) := by decide +kernel
theorem dL_putBy_2 : decode cL_putBy 2 = .ok (.if_icmp .ge 23, 3) := by decide +kernel
theorem dL_putBy_5 : decode cL_putBy 5 = .ok (.iload_n 2, 1) := by decide +kernel
theorem dL_putBy_6 : decode cL_putBy 6 = .ok (.iload_n 1, 1) := by decide +kernel
theorem dL_putBy_7 : decode cL_putBy 7 = .ok (.iconst 3, 1) := by decide +kernel
theorem dL_putBy_8 : decode cL_putBy 8 = .ok (.iand, 1) := by decide +kernel
theorem dL_putBy_9 : decode cL_putBy 9 = .ok (.ifCond .ne 9, 3) := by decide +kernel
theorem dL_putBy_12 : decode cL_putBy 12 = .ok (.sipush 10000, 3) := by decide +kernel
theorem dL_putBy_15 : decode cL_putBy 15 = .ok (.goto 5, 3) := by decide +kernel
theorem dL_putBy_18 : decode cL_putBy 18 = .ok (.bipush 60, 2) := by decide +kernel
theorem dL_putBy_20 : decode cL_putBy 20 = .ok (.invokestatic 57, 3) := by decide +kernel
theorem dL_putBy_23 : decode cL_putBy 23 = .ok (.i2l, 1) := by decide +kernel
theorem dL_putBy_24 : decode cL_putBy 24 = .ok (.lreturn, 1) := by decide +kernel
theorem dL_putBy_25 : decode cL_putBy 25 = .ok (.iload_n 0, 1) := by decide +kernel
theorem dL_putBy_26 : decode cL_putBy 26 = .ok (.iconst 2, 1) := by decide +kernel
theorem dL_putBy_27 : decode cL_putBy 27 = .ok (.if_icmp .ne 14, 3) := by decide +kernel
theorem dL_putBy_30 : decode cL_putBy 30 = .ok (.lconst 1, 1) := by decide +kernel
theorem dL_putBy_31 : decode cL_putBy 31 = .ok (.iload_n 2, 1) := by decide +kernel
theorem dL_putBy_32 : decode cL_putBy 32 = .ok (.sipush 200, 3) := by decide +kernel
theorem dL_putBy_35 : decode cL_putBy 35 = .ok (.invokestatic 57, 3) := by decide +kernel
theorem dL_putBy_38 : decode cL_putBy 38 = .ok (.i2l, 1) := by decide +kernel
theorem dL_putBy_39 : decode cL_putBy 39 = .ok (.ladd, 1) := by decide +kernel
theorem dL_putBy_40 : decode cL_putBy 40 = .ok (.lreturn, 1) := by decide +kernel
theorem dL_putBy_41 : decode cL_putBy 41 = .ok (.iload_n 0, 1) := by decide +kernel
theorem dL_putBy_42 : decode cL_putBy 42 = .ok (.bipush 15, 2) := by decide +kernel
theorem dL_putBy_44 : decode cL_putBy 44 = .ok (.if_icmp .ne 11, 3) := by decide +kernel
theorem dL_putBy_47 : decode cL_putBy 47 = .ok (.iload_n 2, 1) := by decide +kernel
theorem dL_putBy_48 : decode cL_putBy 48 = .ok (.bipush 7, 2) := by decide +kernel
theorem dL_putBy_50 : decode cL_putBy 50 = .ok (.iand, 1) := by decide +kernel
theorem dL_putBy_51 : decode cL_putBy 51 = .ok (.iconst 1, 1) := by decide +kernel
theorem dL_putBy_52 : decode cL_putBy 52 = .ok (.if_icmp .le 7, 3) := by decide +kernel
theorem dL_putBy_55 : decode cL_putBy 55 = .ok (.lconst 0, 1) := by decide +kernel
theorem dL_putBy_56 : decode cL_putBy 56 = .ok (.goto 17, 3) := by decide +kernel
theorem dL_putBy_59 : decode cL_putBy 59 = .ok (.iload_n 2, 1) := by decide +kernel
theorem dL_putBy_60 : decode cL_putBy 60 = .ok (.bipush 7, 2) := by decide +kernel
theorem dL_putBy_62 : decode cL_putBy 62 = .ok (.iand, 1) := by decide +kernel
theorem dL_putBy_63 : decode cL_putBy 63 = .ok (.ifCond .ne 8, 3) := by decide +kernel
theorem dL_putBy_66 : decode cL_putBy 66 = .ok (.iload_n 1, 1) := by decide +kernel
theorem dL_putBy_67 : decode cL_putBy 67 = .ok (.i2l, 1) := by decide +kernel
theorem dL_putBy_68 : decode cL_putBy 68 = .ok (.goto 5, 3) := by decide +kernel
theorem dL_putBy_71 : decode cL_putBy 71 = .ok (.iload_n 2, 1) := by decide +kernel
theorem dL_putBy_72 : decode cL_putBy 72 = .ok (.i2l, 1) := by decide +kernel
theorem dL_putBy_73 : decode cL_putBy 73 = .ok (.lreturn, 1) := by decide +kernel
theorem dL_isUndone_0 : decode cL_isUndone 0 = .ok (.aload_n 0, 1) := by decide +kernel
theorem dL_isUndone_1 : decode cL_isUndone 1 = .ok (.invokestatic 73, 3) := by decide +kernel
theorem dL_isUndone_4 : decode cL_isUndone 4 = .ok (.lstore 7, 2) := by decide +kernel
theorem dL_isUndone_6 : decode cL_isUndone 6 = .ok (.aload_n 0, 1) := by decide +kernel
theorem dL_isUndone_7 : decode cL_isUndone 7 = .ok (.bipush 15, 2) := by decide +kernel
theorem dL_isUndone_9 : decode cL_isUndone 9 = .ok (.invokevirtual 13, 3) := by decide +kernel
theorem dL_isUndone_12 : decode cL_isUndone 12 = .ok (.istore 9, 2) := by decide +kernel
theorem dL_isUndone_14 : decode cL_isUndone 14 = .ok (.aload_n 0, 1) := by decide +kernel
theorem dL_isUndone_15 : decode cL_isUndone 15 = .ok (.invokevirtual 77, 3) := by decide +kernel
theorem dL_isUndone_18 : decode cL_isUndone 18 = .ok (.iload 9, 2) := by decide +kernel
theorem dL_isUndone_20 : decode cL_isUndone 20 = .ok (.iconst 1, 1) := by decide +kernel
theorem dL_isUndone_21 : decode cL_isUndone 21 = .ok (.isub, 1) := by decide +kernel
theorem dL_isUndone_22 : decode cL_isUndone 22 = .ok (.if_icmp .ne 50, 3) := by decide +kernel
theorem dL_isUndone_25 : decode cL_isUndone 25 = .ok (.aload_n 0, 1) := by decide +kernel
theorem dL_isUndone_26 : decode cL_isUndone 26 = .ok (.invokestatic 73, 3) := by decide +kernel
theorem dL_isUndone_29 : decode cL_isUndone 29 = .ok (.lload 5, 2) := by decide +kernel
theorem dL_isUndone_31 : decode cL_isUndone 31 = .ok (.lcmp, 1) := by decide +kernel
theorem dL_isUndone_32 : decode cL_isUndone 32 = .ok (.ifCond .ne 40, 3) := by decide +kernel
theorem dL_isUndone_35 : decode cL_isUndone 35 = .ok (.aload_n 0, 1) := by decide +kernel
theorem dL_isUndone_36 : decode cL_isUndone 36 = .ok (.iload_n 1, 1) := by decide +kernel
theorem dL_isUndone_37 : decode cL_isUndone 37 = .ok (.iload_n 2, 1) := by decide +kernel
theorem dL_isUndone_38 : decode cL_isUndone 38 = .ok (.iload_n 3, 1) := by decide +kernel
theorem dL_isUndone_39 : decode cL_isUndone 39 = .ok (.invokestatic 81, 3) := by decide +kernel
theorem dL_isUndone_42 : decode cL_isUndone 42 = .ok (.iload 4, 2) := by decide +kernel
theorem dL_isUndone_44 : decode cL_isUndone 44 = .ok (.if_icmp .ne 28, 3) := by decide +kernel
theorem dL_isUndone_47 : decode cL_isUndone 47 = .ok (.aload_n 0, 1) := by decide +kernel
theorem dL_isUndone_48 : decode cL_isUndone 48 = .ok (.invokestatic 73, 3) := by decide +kernel
theorem dL_isUndone_51 : decode cL_isUndone 51 = .ok (.lload 7, 2) := by decide +kernel
theorem dL_isUndone_53 : decode cL_isUndone 53 = .ok (.lcmp, 1) := by decide +kernel
theorem dL_isUndone_54 : decode cL_isUndone 54 = .ok (.ifCond .ne 18, 3) := by decide +kernel
theorem dL_isUndone_57 : decode cL_isUndone 57 = .ok (.aload_n 0, 1) := by decide +kernel
theorem dL_isUndone_58 : decode cL_isUndone 58 = .ok (.bipush 15, 2) := by decide +kernel
theorem dL_isUndone_60 : decode cL_isUndone 60 = .ok (.invokevirtual 13, 3) := by decide +kernel
theorem dL_isUndone_63 : decode cL_isUndone 63 = .ok (.iload 9, 2) := by decide +kernel
theorem dL_isUndone_65 : decode cL_isUndone 65 = .ok (.if_icmp .ne 7, 3) := by decide +kernel
theorem dL_isUndone_68 : decode cL_isUndone 68 = .ok (.iconst 1, 1) := by decide +kernel
theorem dL_isUndone_69 : decode cL_isUndone 69 = .ok (.goto 4, 3) := by decide +kernel
theorem dL_isUndone_72 : decode cL_isUndone 72 = .ok (.iconst 0, 1) := by decide +kernel
theorem dL_isUndone_73 : decode cL_isUndone 73 = .ok (.ireturn, 1) := by decide +kernel
theorem dL_law_0 : decode cL_law 0 = .ok (.new 14, 3) := by decide +kernel
theorem dL_law_3 : decode cL_law 3 = .ok (.dup, 1) := by decide +kernel
theorem dL_law_4 : decode cL_law 4 = .ok (.invokespecial 85, 3) := by decide +kernel
theorem dL_law_7 : decode cL_law 7 = .ok (.astore_n 1, 1) := by decide +kernel
theorem dL_law_8 : decode cL_law 8 = .ok (.lconst 0, 1) := by decide +kernel
theorem dL_law_9 : decode cL_law 9 = .ok (.lstore_n 2, 1) := by decide +kernel
theorem dL_law_10 : decode cL_law 10 = .ok (.bipush 40, 2) := by decide +kernel
theorem dL_law_12 : decode cL_law 12 = .ok (.newarray .int, 2) := by decide +kernel
theorem dL_law_14 : decode cL_law 14 = .ok (.astore 4, 2) := by decide +kernel
theorem dL_law_16 : decode cL_law 16 = .ok (.aload_n 0, 1) := by decide +kernel
theorem dL_law_17 : decode cL_law 17 = .ok (.arraylength, 1) := by decide +kernel
theorem dL_law_18 : decode cL_law 18 = .ok (.iconst 3, 1) := by decide +kernel
theorem dL_law_19 : decode cL_law 19 = .ok (.idiv, 1) := by decide +kernel
theorem dL_law_20 : decode cL_law 20 = .ok (.bipush 40, 2) := by decide +kernel
theorem dL_law_22 : decode cL_law 22 = .ok (.if_icmp .ge 10, 3) := by decide +kernel
theorem dL_law_25 : decode cL_law 25 = .ok (.aload_n 0, 1) := by decide +kernel
theorem dL_law_26 : decode cL_law 26 = .ok (.arraylength, 1) := by decide +kernel
theorem dL_law_27 : decode cL_law 27 = .ok (.iconst 3, 1) := by decide +kernel
theorem dL_law_28 : decode cL_law 28 = .ok (.idiv, 1) := by decide +kernel
theorem dL_law_29 : decode cL_law 29 = .ok (.goto 5, 3) := by decide +kernel
theorem dL_law_32 : decode cL_law 32 = .ok (.bipush 40, 2) := by decide +kernel
theorem dL_law_34 : decode cL_law 34 = .ok (.istore 5, 2) := by decide +kernel
theorem dL_law_36 : decode cL_law 36 = .ok (.iconst 0, 1) := by decide +kernel
theorem dL_law_37 : decode cL_law 37 = .ok (.istore 6, 2) := by decide +kernel
theorem dL_law_39 : decode cL_law 39 = .ok (.iload 6, 2) := by decide +kernel
theorem dL_law_41 : decode cL_law 41 = .ok (.iload 5, 2) := by decide +kernel
