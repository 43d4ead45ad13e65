theorem dX5_add_24 : decode cX5_add 24 = .ok (.iconst 1, 1) := by decide +kernel
theorem dX5_add_25 : decode cX5_add 25 = .ok (.iadd, 1) := by decide +kernel
theorem dX5_add_26 : decode cX5_add 26 = .ok (.putfield 22, 3) := by decide +kernel
theorem dX5_add_29 : decode cX5_add 29 = .ok (.return_, 1) := by decide +kernel
theorem dX5_parse_0 : decode cX5_parse 0 = .ok (.iconst 0, 1) := by decide +kernel
theorem dX5_parse_1 : decode cX5_parse 1 = .ok (.istore_n 1, 1) := by decide +kernel
theorem dX5_parse_2 : decode cX5_parse 2 = .ok (.iconst 0, 1) := by decide +kernel
theorem dX5_parse_3 : decode cX5_parse 3 = .ok (.istore_n 2, 1) := by decide +kernel
theorem dX5_parse_4 : decode cX5_parse 4 = .ok (.iload_n 2, 1) := by decide +kernel
theorem dX5_parse_5 : decode cX5_parse 5 = .ok (.bipush 16, 2) := by decide +kernel
theorem dX5_parse_7 : decode cX5_parse 7 = .ok (.if_icmp .ge 120, 3) := by decide +kernel
theorem dX5_parse_10 : decode cX5_parse 10 = .ok (.aload_n 0, 1) := by decide +kernel
theorem dX5_parse_11 : decode cX5_parse 11 = .ok (.iload_n 1, 1) := by decide +kernel
theorem dX5_parse_12 : decode cX5_parse 12 = .ok (.iconst 2, 1) := by decide +kernel
theorem dX5_parse_13 : decode cX5_parse 13 = .ok (.invokevirtual 26, 3) := by decide +kernel
theorem dX5_parse_16 : decode cX5_parse 16 = .ok (.istore_n 3, 1) := by decide +kernel
theorem dX5_parse_17 : decode cX5_parse 17 = .ok (.iload_n 3, 1) := by decide +kernel
theorem dX5_parse_18 : decode cX5_parse 18 = .ok (.iload_n 1, 1) := by decide +kernel
theorem dX5_parse_19 : decode cX5_parse 19 = .ok (.if_icmp .eq 13, 3) := by decide +kernel
theorem dX5_parse_22 : decode cX5_parse 22 = .ok (.aload_n 0, 1) := by decide +kernel
theorem dX5_parse_23 : decode cX5_parse 23 = .ok (.iload_n 3, 1) := by decide +kernel
theorem dX5_parse_24 : decode cX5_parse 24 = .ok (.bipush 61, 2) := by decide +kernel
theorem dX5_parse_26 : decode cX5_parse 26 = .ok (.invokevirtual 30, 3) := by decide +kernel
theorem dX5_parse_29 : decode cX5_parse 29 = .ok (.ifCond .ne 5, 3) := by decide +kernel
theorem dX5_parse_32 : decode cX5_parse 32 = .ok (.iload_n 3, 1) := by decide +kernel
theorem dX5_parse_33 : decode cX5_parse 33 = .ok (.ireturn, 1) := by decide +kernel
theorem dX5_parse_34 : decode cX5_parse 34 = .ok (.iload_n 3, 1) := by decide +kernel
theorem dX5_parse_35 : decode cX5_parse 35 = .ok (.iconst 1, 1) := by decide +kernel
theorem dX5_parse_36 : decode cX5_parse 36 = .ok (.iadd, 1) := by decide +kernel
theorem dX5_parse_37 : decode cX5_parse 37 = .ok (.istore 4, 2) := by decide +kernel
theorem dX5_parse_39 : decode cX5_parse 39 = .ok (.aload_n 0, 1) := by decide +kernel
theorem dX5_parse_40 : decode cX5_parse 40 = .ok (.iload 4, 2) := by decide +kernel
theorem dX5_parse_42 : decode cX5_parse 42 = .ok (.iconst 4, 1) := by decide +kernel
theorem dX5_parse_43 : decode cX5_parse 43 = .ok (.invokevirtual 26, 3) := by decide +kernel
theorem dX5_parse_46 : decode cX5_parse 46 = .ok (.istore 5, 2) := by decide +kernel
theorem dX5_parse_48 : decode cX5_parse 48 = .ok (.iload 5, 2) := by decide +kernel
theorem dX5_parse_50 : decode cX5_parse 50 = .ok (.iload 4, 2) := by decide +kernel
theorem dX5_parse_52 : decode cX5_parse 52 = .ok (.if_icmp .ne 6, 3) := by decide +kernel
theorem dX5_parse_55 : decode cX5_parse 55 = .ok (.iload 5, 2) := by decide +kernel
theorem dX5_parse_57 : decode cX5_parse 57 = .ok (.ireturn, 1) := by decide +kernel
theorem dX5_parse_58 : decode cX5_parse 58 = .ok (.aload_n 0, 1) := by decide +kernel
theorem dX5_parse_59 : decode cX5_parse 59 = .ok (.getfield 15, 3) := by decide +kernel
theorem dX5_parse_62 : decode cX5_parse 62 = .ok (.iload_n 2, 1) := by decide +kernel
theorem dX5_parse_63 : decode cX5_parse 63 = .ok (.aload_n 0, 1) := by decide +kernel
theorem dX5_parse_64 : decode cX5_parse 64 = .ok (.iload_n 1, 1) := by decide +kernel
theorem dX5_parse_65 : decode cX5_parse 65 = .ok (.iload_n 3, 1) := by decide +kernel
theorem dX5_parse_66 : decode cX5_parse 66 = .ok (.invokevirtual 34, 3) := by decide +kernel
theorem dX5_parse_69 : decode cX5_parse 69 = .ok (.iastore, 1) := by decide +kernel
theorem dX5_parse_70 : decode cX5_parse 70 = .ok (.aload_n 0, 1) := by decide +kernel
theorem dX5_parse_71 : decode cX5_parse 71 = .ok (.getfield 19, 3) := by decide +kernel
theorem dX5_parse_74 : decode cX5_parse 74 = .ok (.iload_n 2, 1) := by decide +kernel
theorem dX5_parse_75 : decode cX5_parse 75 = .ok (.aload_n 0, 1) := by decide +kernel
theorem dX5_parse_76 : decode cX5_parse 76 = .ok (.iload 4, 2) := by decide +kernel
theorem dX5_parse_78 : decode cX5_parse 78 = .ok (.iload 5, 2) := by decide +kernel
theorem dX5_parse_80 : decode cX5_parse 80 = .ok (.invokevirtual 34, 3) := by decide +kernel
theorem dX5_parse_83 : decode cX5_parse 83 = .ok (.iastore, 1) := by decide +kernel
theorem dX5_parse_84 : decode cX5_parse 84 = .ok (.aload_n 0, 1) := by decide +kernel
theorem dX5_parse_85 : decode cX5_parse 85 = .ok (.iload_n 2, 1) := by decide +kernel
theorem dX5_parse_86 : decode cX5_parse 86 = .ok (.iconst 1, 1) := by decide +kernel
theorem dX5_parse_87 : decode cX5_parse 87 = .ok (.iadd, 1) := by decide +kernel
theorem dX5_parse_88 : decode cX5_parse 88 = .ok (.putfield 37, 3) := by decide +kernel
theorem dX5_parse_91 : decode cX5_parse 91 = .ok (.iload 5, 2) := by decide +kernel
theorem dX5_parse_93 : decode cX5_parse 93 = .ok (.aload_n 0, 1) := by decide +kernel
theorem dX5_parse_94 : decode cX5_parse 94 = .ok (.getfield 22, 3) := by decide +kernel
theorem dX5_parse_97 : decode cX5_parse 97 = .ok (.if_icmp .lt 5, 3) := by decide +kernel
theorem dX5_parse_100 : decode cX5_parse 100 = .ok (.iconst (-1), 1) := by decide +kernel
theorem dX5_parse_101 : decode cX5_parse 101 = .ok (.ireturn, 1) := by decide +kernel
theorem dX5_parse_102 : decode cX5_parse 102 = .ok (.aload_n 0, 1) := by decide +kernel
theorem dX5_parse_103 : decode cX5_parse 103 = .ok (.iload 5, 2) := by decide +kernel
theorem dX5_parse_105 : decode cX5_parse 105 = .ok (.bipush 59, 2) := by decide +kernel
theorem dX5_parse_107 : decode cX5_parse 107 = .ok (.invokevirtual 30, 3) := by decide +kernel
theorem dX5_parse_110 : decode cX5_parse 110 = .ok (.ifCond .ne 6, 3) := by decide +kernel
theorem dX5_parse_113 : decode cX5_parse 113 = .ok (.iload 5, 2) := by decide +kernel
theorem dX5_parse_115 : decode cX5_parse 115 = .ok (.ireturn, 1) := by decide +kernel
theorem dX5_parse_116 : decode cX5_parse 116 = .ok (.iload 5, 2) := by decide +kernel
theorem dX5_parse_118 : decode cX5_parse 118 = .ok (.iconst 1, 1) := by decide +kernel
theorem dX5_parse_119 : decode cX5_parse 119 = .ok (.iadd, 1) := by decide +kernel
theorem dX5_parse_120 : decode cX5_parse 120 = .ok (.istore_n 1, 1) := by decide +kernel
theorem dX5_parse_121 : decode cX5_parse 121 = .ok (.iinc 2 1, 3) := by decide +kernel
theorem dX5_parse_124 : decode cX5_parse 124 = .ok (.goto (-120), 3) := by decide +kernel
theorem dX5_parse_127 : decode cX5_parse 127 = .ok (.aload_n 0, 1) := by decide +kernel
theorem dX5_parse_128 : decode cX5_parse 128 = .ok (.getfield 22, 3) := by decide +kernel
theorem dX5_parse_131 : decode cX5_parse 131 = .ok (.ireturn, 1) := by decide +kernel
theorem dX5_greatestCell_0 : decode cX5_greatestCell 0 = .ok (.iconst 0, 1) := by decide +kernel
theorem dX5_greatestCell_1 : decode cX5_greatestCell 1 = .ok (.istore_n 1, 1) := by decide +kernel
theorem dX5_greatestCell_2 : decode cX5_greatestCell 2 = .ok (.iconst 0, 1) := by decide +kernel
theorem dX5_greatestCell_3 : decode cX5_greatestCell 3 = .ok (.istore_n 2, 1) := by decide +kernel
theorem dX5_greatestCell_4 : decode cX5_greatestCell 4 = .ok (.iload_n 2, 1) := by decide +kernel
theorem dX5_greatestCell_5 : decode cX5_greatestCell 5 = .ok (.aload_n 0, 1) := by decide +kernel
theorem dX5_greatestCell_6 : decode cX5_greatestCell 6 = .ok (.getfield 37, 3) := by decide +kernel
theorem dX5_greatestCell_9 : decode cX5_greatestCell 9 = .ok (.if_icmp .ge 20, 3) := by decide +kernel
theorem dX5_greatestCell_12 : decode cX5_greatestCell 12 = .ok (.iload_n 1, 1) := by decide +kernel
theorem dX5_greatestCell_13 : decode cX5_greatestCell 13 = .ok (.aload_n 0, 1) := by decide +kernel
theorem dX5_greatestCell_14 : decode cX5_greatestCell 14 = .ok (.getfield 15, 3) := by decide +kernel
theorem dX5_greatestCell_17 : decode cX5_greatestCell 17 = .ok (.iload_n 2, 1) := by decide +kernel
theorem dX5_greatestCell_18 : decode cX5_greatestCell 18 = .ok (.iaload, 1) := by decide +kernel
theorem dX5_greatestCell_19 : decode cX5_greatestCell 19 = .ok (.invokestatic 40, 3) := by decide +kernel
theorem dX5_greatestCell_22 : decode cX5_greatestCell 22 = .ok (.istore_n 1, 1) := by decide +kernel
theorem dX5_greatestCell_23 : decode cX5_greatestCell 23 = .ok (.iinc 2 1, 3) := by decide +kernel
theorem dX5_greatestCell_26 : decode cX5_greatestCell 26 = .ok (.goto (-22), 3) := by decide +kernel
theorem dX5_greatestCell_29 : decode cX5_greatestCell 29 = .ok (.iload_n 1, 1) := by decide +kernel
theorem dX5_greatestCell_30 : decode cX5_greatestCell 30 = .ok (.ireturn, 1) := by decide +kernel
theorem dX5_isSign_0 : decode cX5_isSign 0 = .ok (.iload_n 1, 1) := by decide +kernel
theorem dX5_isSign_1 : decode cX5_isSign 1 = .ok (.aload_n 0, 1) := by decide +kernel
theorem dX5_isSign_2 : decode cX5_isSign 2 = .ok (.getfield 22, 3) := by decide +kernel
theorem dX5_isSign_5 : decode cX5_isSign 5 = .ok (.if_icmp .ge 17, 3) := by decide +kernel
theorem dX5_isSign_8 : decode cX5_isSign 8 = .ok (.aload_n 0, 1) := by decide +kernel
theorem dX5_isSign_9 : decode cX5_isSign 9 = .ok (.getfield 9, 3) := by decide +kernel
theorem dX5_isSign_12 : decode cX5_isSign 12 = .ok (.iload_n 1, 1) := by decide +kernel
theorem dX5_isSign_13 : decode cX5_isSign 13 = .ok (.caload, 1) := by decide +kernel
theorem dX5_isSign_14 : decode cX5_isSign 14 = .ok (.iload_n 2, 1) := by decide +kernel
theorem dX5_isSign_15 : decode cX5_isSign 15 = .ok (.if_icmp .ne 7, 3) := by decide +kernel
theorem dX5_isSign_18 : decode cX5_isSign 18 = .ok (.iconst 1, 1) := by decide +kernel
theorem dX5_isSign_19 : decode cX5_isSign 19 = .ok (.goto 4, 3) := by decide +kernel
theorem dX5_isSign_22 : decode cX5_isSign 22 = .ok (.iconst 0, 1) := by decide +kernel
theorem dX5_isSign_23 : decode cX5_isSign 23 = .ok (.ireturn, 1) := by decide +kernel
theorem dX5_isDigit_0 : decode cX5_isDigit 0 = .ok (.iload_n 1, 1) := by decide +kernel
theorem dX5_isDigit_1 : decode cX5_isDigit 1 = .ok (.aload_n 0, 1) := by decide +kernel
theorem dX5_isDigit_2 : decode cX5_isDigit 2 = .ok (.getfield 22, 3) := by decide +kernel
theorem dX5_isDigit_5 : decode cX5_isDigit 5 = .ok (.if_icmp .ge 29, 3) := by decide +kernel
theorem dX5_isDigit_8 : decode cX5_isDigit 8 = .ok (.aload_n 0, 1) := by decide +kernel
theorem dX5_isDigit_9 : decode cX5_isDigit 9 = .ok (.getfield 9, 3) := by decide +kernel
theorem dX5_isDigit_12 : decode cX5_isDigit 12 = .ok (.iload_n 1, 1) := by decide +kernel
theorem dX5_isDigit_13 : decode cX5_isDigit 13 = .ok (.caload, 1) := by decide +kernel
theorem dX5_isDigit_14 : decode cX5_isDigit 14 = .ok (.bipush 48, 2) := by decide +kernel
theorem dX5_isDigit_16 : decode cX5_isDigit 16 = .ok (.if_icmp .lt 18, 3) := by decide +kernel
theorem dX5_isDigit_19 : decode cX5_isDigit 19 = .ok (.aload_n 0, 1) := by decide +kernel
theorem dX5_isDigit_20 : decode cX5_isDigit 20 = .ok (.getfield 9, 3) := by decide +kernel
theorem dX5_isDigit_23 : decode cX5_isDigit 23 = .ok (.iload_n 1, 1) := by decide +kernel
theorem dX5_isDigit_24 : decode cX5_isDigit 24 = .ok (.caload, 1) := by decide +kernel
theorem dX5_isDigit_25 : decode cX5_isDigit 25 = .ok (.bipush 57, 2) := by decide +kernel
theorem dX5_isDigit_27 : decode cX5_isDigit 27 = .ok (.if_icmp .gt 7, 3) := by decide +kernel
theorem dX5_isDigit_30 : decode cX5_isDigit 30 = .ok (.iconst 1, 1) := by decide +kernel
theorem dX5_isDigit_31 : decode cX5_isDigit 31 = .ok (.goto 4, 3) := by decide +kernel
theorem dX5_isDigit_34 : decode cX5_isDigit 34 = .ok (.iconst 0, 1) := by decide +kernel
theorem dX5_isDigit_35 : decode cX5_isDigit 35 = .ok (.ireturn, 1) := by decide +kernel
theorem dX5_endOfNumber_0 : decode cX5_endOfNumber 0 = .ok (.aload_n 0, 1) := by decide +kernel
theorem dX5_endOfNumber_1 : decode cX5_endOfNumber 1 = .ok (.iload_n 1, 1) := by decide +kernel
theorem dX5_endOfNumber_2 : decode cX5_endOfNumber 2 = .ok (.bipush 48, 2) := by decide +kernel
theorem dX5_endOfNumber_4 : decode cX5_endOfNumber 4 = .ok (.invokevirtual 30, 3) := by decide +kernel
theorem dX5_endOfNumber_7 : decode cX5_endOfNumber 7 = .ok (.ifCond .eq 7, 3) := by decide +kernel
theorem dX5_endOfNumber_10 : decode cX5_endOfNumber 10 = .ok (.iconst 1, 1) := by decide +kernel
theorem dX5_endOfNumber_11 : decode cX5_endOfNumber 11 = .ok (.goto 4, 3) := by decide +kernel
theorem dX5_endOfNumber_14 : decode cX5_endOfNumber 14 = .ok (.iload_n 2, 1) := by decide +kernel
theorem dX5_endOfNumber_15 : decode cX5_endOfNumber 15 = .ok (.istore_n 3, 1) := by decide +kernel
theorem dX5_endOfNumber_16 : decode cX5_endOfNumber 16 = .ok (.iload_n 1, 1) := by decide +kernel
theorem dX5_endOfNumber_17 : decode cX5_endOfNumber 17 = .ok (.istore 4, 2) := by decide +kernel
theorem dX5_endOfNumber_19 : decode cX5_endOfNumber 19 = .ok (.iload 4, 2) := by decide +kernel
theorem dX5_endOfNumber_21 : decode cX5_endOfNumber 21 = .ok (.iload_n 1, 1) := by decide +kernel
theorem dX5_endOfNumber_22 : decode cX5_endOfNumber 22 = .ok (.isub, 1) := by decide +kernel
theorem dX5_endOfNumber_23 : decode cX5_endOfNumber 23 = .ok (.iload_n 3, 1) := by decide +kernel
theorem dX5_endOfNumber_24 : decode cX5_endOfNumber 24 = .ok (.if_icmp .ge 18, 3) := by decide +kernel
theorem dX5_endOfNumber_27 : decode cX5_endOfNumber 27 = .ok (.aload_n 0, 1) := by decide +kernel
theorem dX5_endOfNumber_28 : decode cX5_endOfNumber 28 = .ok (.iload 4, 2) := by decide +kernel
theorem dX5_endOfNumber_30 : decode cX5_endOfNumber 30 = .ok (.invokevirtual 45, 3) := by decide +kernel
theorem dX5_endOfNumber_33 : decode cX5_endOfNumber 33 = .ok (.ifCond .eq 9, 3) := by decide +kernel
theorem dX5_endOfNumber_36 : decode cX5_endOfNumber 36 = .ok (.iinc 4 1, 3) := by decide +kernel
theorem dX5_endOfNumber_39 : decode cX5_endOfNumber 39 = .ok (.goto (-20), 3) := by decide +kernel
theorem dX5_endOfNumber_42 : decode cX5_endOfNumber 42 = .ok (.iload 4, 2) := by decide +kernel
theorem dX5_endOfNumber_44 : decode cX5_endOfNumber 44 = .ok (.ireturn, 1) := by decide +kernel
theorem dX5_number_0 : decode cX5_number 0 = .ok (.iconst 0, 1) := by decide +kernel
theorem dX5_number_1 : decode cX5_number 1 = .ok (.istore_n 3, 1) := by decide +kernel
theorem dX5_number_2 : decode cX5_number 2 = .ok (.iload_n 1, 1) := by decide +kernel
theorem dX5_number_3 : decode cX5_number 3 = .ok (.istore 4, 2) := by decide +kernel
theorem dX5_number_5 : decode cX5_number 5 = .ok (.iload 4, 2) := by decide +kernel
theorem dX5_number_7 : decode cX5_number 7 = .ok (.iload_n 2, 1) := by decide +kernel
theorem dX5_number_8 : decode cX5_number 8 = .ok (.if_icmp .ge 25, 3) := by decide +kernel
theorem dX5_number_11 : decode cX5_number 11 = .ok (.iload_n 3, 1) := by decide +kernel
theorem dX5_number_12 : decode cX5_number 12 = .ok (.bipush 10, 2) := by decide +kernel
theorem dX5_number_14 : decode cX5_number 14 = .ok (.imul, 1) := by decide +kernel
theorem dX5_number_15 : decode cX5_number 15 = .ok (.aload_n 0, 1) := by decide +kernel
theorem dX5_number_16 : decode cX5_number 16 = .ok (.getfield 9, 3) := by decide +kernel
theorem dX5_number_19 : decode cX5_number 19 = .ok (.iload 4, 2) := by decide +kernel
theorem dX5_number_21 : decode cX5_number 21 = .ok (.caload, 1) := by decide +kernel
theorem dX5_number_22 : decode cX5_number 22 = .ok (.bipush 48, 2) := by decide +kernel
theorem dX5_number_24 : decode cX5_number 24 = .ok (.isub, 1) := by decide +kernel
theorem dX5_number_25 : decode cX5_number 25 = .ok (.iadd, 1) := by decide +kernel
theorem dX5_number_26 : decode cX5_number 26 = .ok (.istore_n 3, 1) := by decide +kernel
theorem dX5_number_27 : decode cX5_number 27 = .ok (.iinc 4 1, 3) := by decide +kernel
theorem dX5_number_30 : decode cX5_number 30 = .ok (.goto (-25), 3) := by decide +kernel
theorem dX5_number_33 : decode cX5_number 33 = .ok (.iload_n 3, 1) := by decide +kernel
theorem dX5_number_34 : decode cX5_number 34 = .ok (.ireturn, 1) := by decide +kernel
theorem dX6_init_0 : decode cX6_init 0 = .ok (.aload_n 0, 1) := by decide +kernel
theorem dX6_init_1 : decode cX6_init 1 = .ok (.invokespecial 3, 3) := by decide +kernel
theorem dX6_init_4 : decode cX6_init 4 = .ok (.aload_n 0, 1) := by decide +kernel
theorem dX6_init_5 : decode cX6_init 5 = .ok (.new 9, 3) := by decide +kernel
theorem dX6_init_8 : decode cX6_init 8 = .ok (.dup, 1) := by decide +kernel
theorem dX6_init_9 : decode cX6_init 9 = .ok (.invokespecial 11, 3) := by decide +kernel
theorem dX6_init_12 : decode cX6_init 12 = .ok (.putfield 12, 3) := by decide +kernel
theorem dX6_init_15 : decode cX6_init 15 = .ok (.aload_n 0, 1) := by decide +kernel
theorem dX6_init_16 : decode cX6_init 16 = .ok (.new 9, 3) := by decide +kernel
theorem dX6_init_19 : decode cX6_init 19 = .ok (.dup, 1) := by decide +kernel
theorem dX6_init_20 : decode cX6_init 20 = .ok (.invokespecial 11, 3) := by decide +kernel
theorem dX6_init_23 : decode cX6_init 23 = .ok (.putfield 16, 3) := by decide +kernel
theorem dX6_init_26 : decode cX6_init 26 = .ok (.aload_n 0, 1) := by decide +kernel
theorem dX6_init_27 : decode cX6_init 27 = .ok (.new 9, 3) := by decide +kernel
theorem dX6_init_30 : decode cX6_init 30 = .ok (.dup, 1) := by decide +kernel
theorem dX6_init_31 : decode cX6_init 31 = .ok (.invokespecial 11, 3) := by decide +kernel
theorem dX6_init_34 : decode cX6_init 34 = .ok (.putfield 19, 3) := by decide +kernel
theorem dX6_init_37 : decode cX6_init 37 = .ok (.aload_n 0, 1) := by decide +kernel
theorem dX6_init_38 : decode cX6_init 38 = .ok (.new 22, 3) := by decide +kernel
theorem dX6_init_41 : decode cX6_init 41 = .ok (.dup, 1) := by decide +kernel
theorem dX6_init_42 : decode cX6_init 42 = .ok (.invokespecial 24, 3) := by decide +kernel
theorem dX6_init_45 : decode cX6_init 45 = .ok (.putfield 25, 3) := by decide +kernel
theorem dX6_init_48 : decode cX6_init 48 = .ok (.aload_n 0, 1) := by decide +kernel
theorem dX6_init_49 : decode cX6_init 49 = .ok (.new 29, 3) := by decide +kernel
theorem dX6_init_52 : decode cX6_init 52 = .ok (.dup, 1) := by decide +kernel
theorem dX6_init_53 : decode cX6_init 53 = .ok (.invokespecial 31, 3) := by decide +kernel
theorem dX6_init_56 : decode cX6_init 56 = .ok (.putfield 32, 3) := by decide +kernel
theorem dX6_init_59 : decode cX6_init 59 = .ok (.return_, 1) := by decide +kernel
theorem dX6_open_0 : decode cX6_open 0 = .ok (.iload_n 1, 1) := by decide +kernel
theorem dX6_open_1 : decode cX6_open 1 = .ok (.ifCond .lt 10, 3) := by decide +kernel
theorem dX6_open_4 : decode cX6_open 4 = .ok (.iload_n 1, 1) := by decide +kernel
theorem dX6_open_5 : decode cX6_open 5 = .ok (.sipush 9999, 3) := by decide +kernel
theorem dX6_open_8 : decode cX6_open 8 = .ok (.if_icmp .le 6, 3) := by decide +kernel
theorem dX6_open_11 : decode cX6_open 11 = .ok (.bipush (-2), 2) := by decide +kernel
theorem dX6_open_13 : decode cX6_open 13 = .ok (.ireturn, 1) := by decide +kernel
theorem dX6_open_14 : decode cX6_open 14 = .ok (.aload_n 0, 1) := by decide +kernel
theorem dX6_open_15 : decode cX6_open 15 = .ok (.getfield 12, 3) := by decide +kernel
theorem dX6_open_18 : decode cX6_open 18 = .ok (.getfield 36, 3) := by decide +kernel
theorem dX6_open_21 : decode cX6_open 21 = .ok (.bipush 40, 2) := by decide +kernel
theorem dX6_open_23 : decode cX6_open 23 = .ok (.if_icmp .ge 16, 3) := by decide +kernel
theorem dX6_open_26 : decode cX6_open 26 = .ok (.aload_n 0, 1) := by decide +kernel
theorem dX6_open_27 : decode cX6_open 27 = .ok (.getfield 12, 3) := by decide +kernel
theorem dX6_open_30 : decode cX6_open 30 = .ok (.iconst 0, 1) := by decide +kernel
theorem dX6_open_31 : decode cX6_open 31 = .ok (.invokevirtual 40, 3) := by decide +kernel
theorem dX6_open_34 : decode cX6_open 34 = .ok (.bipush 8, 2) := by decide +kernel
theorem dX6_open_36 : decode cX6_open 36 = .ok (.if_icmp .lt 6, 3) := by decide +kernel
theorem dX6_open_39 : decode cX6_open 39 = .ok (.bipush (-3), 2) := by decide +kernel
theorem dX6_open_41 : decode cX6_open 41 = .ok (.ireturn, 1) := by decide +kernel
theorem dX6_open_42 : decode cX6_open 42 = .ok (.aload_n 0, 1) := by decide +kernel
theorem dX6_open_43 : decode cX6_open 43 = .ok (.getfield 25, 3) := by decide +kernel
theorem dX6_open_46 : decode cX6_open 46 = .ok (.aload_n 0, 1) := by decide +kernel
theorem dX6_open_47 : decode cX6_open 47 = .ok (.getfield 12, 3) := by decide +kernel
theorem dX6_open_50 : decode cX6_open 50 = .ok (.invokevirtual 44, 3) := by decide +kernel
theorem dX6_open_53 : decode cX6_open 53 = .ok (.aload_n 0, 1) := by decide +kernel
theorem dX6_open_54 : decode cX6_open 54 = .ok (.getfield 12, 3) := by decide +kernel
theorem dX6_open_57 : decode cX6_open 57 = .ok (.iload_n 1, 1) := by decide +kernel
theorem dX6_open_58 : decode cX6_open 58 = .ok (.invokevirtual 48, 3) := by decide +kernel
theorem dX6_open_61 : decode cX6_open 61 = .ok (.ireturn, 1) := by decide +kernel
theorem dX6_pay_0 : decode cX6_pay 0 = .ok (.aload_n 0, 1) := by decide +kernel
theorem dX6_pay_1 : decode cX6_pay 1 = .ok (.getfield 12, 3) := by decide +kernel
theorem dX6_pay_4 : decode cX6_pay 4 = .ok (.iload_n 1, 1) := by decide +kernel
theorem dX6_pay_5 : decode cX6_pay 5 = .ok (.invokevirtual 51, 3) := by decide +kernel
theorem dX6_pay_8 : decode cX6_pay 8 = .ok (.ifCond .ne 5, 3) := by decide +kernel
theorem dX6_pay_11 : decode cX6_pay 11 = .ok (.iconst (-1), 1) := by decide +kernel
theorem dX6_pay_12 : decode cX6_pay 12 = .ok (.ireturn, 1) := by decide +kernel
theorem dX6_pay_13 : decode cX6_pay 13 = .ok (.iload_n 2, 1) := by decide +kernel
theorem dX6_pay_14 : decode cX6_pay 14 = .ok (.iconst 1, 1) := by decide +kernel
theorem dX6_pay_15 : decode cX6_pay 15 = .ok (.if_icmp .lt 10, 3) := by decide +kernel
theorem dX6_pay_18 : decode cX6_pay 18 = .ok (.iload_n 2, 1) := by decide +kernel
theorem dX6_pay_19 : decode cX6_pay 19 = .ok (.sipush 9999, 3) := by decide +kernel
theorem dX6_pay_22 : decode cX6_pay 22 = .ok (.if_icmp .le 6, 3) := by decide +kernel
theorem dX6_pay_25 : decode cX6_pay 25 = .ok (.bipush (-2), 2) := by decide +kernel
theorem dX6_pay_27 : decode cX6_pay 27 = .ok (.ireturn, 1) := by decide +kernel
theorem dX6_pay_28 : decode cX6_pay 28 = .ok (.aload_n 0, 1) := by decide +kernel
theorem dX6_pay_29 : decode cX6_pay 29 = .ok (.getfield 12, 3) := by decide +kernel
theorem dX6_pay_32 : decode cX6_pay 32 = .ok (.getfield 55, 3) := by decide +kernel
theorem dX6_pay_35 : decode cX6_pay 35 = .ok (.iload_n 1, 1) := by decide +kernel
theorem dX6_pay_36 : decode cX6_pay 36 = .ok (.aaload, 1) := by decide +kernel
theorem dX6_pay_37 : decode cX6_pay 37 = .ok (.astore_n 3, 1) := by decide +kernel
theorem dX6_pay_38 : decode cX6_pay 38 = .ok (.aload_n 3, 1) := by decide +kernel
theorem dX6_pay_39 : decode cX6_pay 39 = .ok (.invokevirtual 59, 3) := by decide +kernel
theorem dX6_pay_42 : decode cX6_pay 42 = .ok (.ifCond .ne 6, 3) := by decide +kernel
theorem dX6_pay_45 : decode cX6_pay 45 = .ok (.bipush (-4), 2) := by decide +kernel
theorem dX6_pay_47 : decode cX6_pay 47 = .ok (.ireturn, 1) := by decide +kernel
theorem dX6_pay_48 : decode cX6_pay 48 = .ok (.aload_n 3, 1) := by decide +kernel
theorem dX6_pay_49 : decode cX6_pay 49 = .ok (.getfield 65, 3) := by decide +kernel
theorem dX6_pay_52 : decode cX6_pay 52 = .ok (.iload_n 2, 1) := by decide +kernel
theorem dX6_pay_53 : decode cX6_pay 53 = .ok (.iadd, 1) := by decide +kernel
theorem dX6_pay_54 : decode cX6_pay 54 = .ok (.sipush 9999, 3) := by decide +kernel
theorem dX6_pay_57 : decode cX6_pay 57 = .ok (.if_icmp .le 6, 3) := by decide +kernel
theorem dX6_pay_60 : decode cX6_pay 60 = .ok (.bipush (-3), 2) := by decide +kernel
theorem dX6_pay_62 : decode cX6_pay 62 = .ok (.ireturn, 1) := by decide +kernel
theorem dX6_pay_63 : decode cX6_pay 63 = .ok (.aload_n 0, 1) := by decide +kernel
theorem dX6_pay_64 : decode cX6_pay 64 = .ok (.getfield 25, 3) := by decide +kernel
theorem dX6_pay_67 : decode cX6_pay 67 = .ok (.aload_n 0, 1) := by decide +kernel
theorem dX6_pay_68 : decode cX6_pay 68 = .ok (.getfield 12, 3) := by decide +kernel
theorem dX6_pay_71 : decode cX6_pay 71 = .ok (.invokevirtual 44, 3) := by decide +kernel
theorem dX6_pay_74 : decode cX6_pay 74 = .ok (.aload_n 3, 1) := by decide +kernel
theorem dX6_pay_75 : decode cX6_pay 75 = .ok (.dup, 1) := by decide +kernel
theorem dX6_pay_76 : decode cX6_pay 76 = .ok (.getfield 65, 3) := by decide +kernel
theorem dX6_pay_79 : decode cX6_pay 79 = .ok (.iload_n 2, 1) := by decide +kernel
theorem dX6_pay_80 : decode cX6_pay 80 = .ok (.iadd, 1) := by decide +kernel
theorem dX6_pay_81 : decode cX6_pay 81 = .ok (.putfield 65, 3) := by decide +kernel
theorem dX6_pay_84 : decode cX6_pay 84 = .ok (.aload_n 3, 1) := by decide +kernel
theorem dX6_pay_85 : decode cX6_pay 85 = .ok (.getfield 65, 3) := by decide +kernel
theorem dX6_pay_88 : decode cX6_pay 88 = .ok (.ireturn, 1) := by decide +kernel
theorem dX6_widow_0 : decode cX6_widow 0 = .ok (.aload_n 0, 1) := by decide +kernel
theorem dX6_widow_1 : decode cX6_widow 1 = .ok (.getfield 12, 3) := by decide +kernel
theorem dX6_widow_4 : decode cX6_widow 4 = .ok (.iload_n 1, 1) := by decide +kernel
theorem dX6_widow_5 : decode cX6_widow 5 = .ok (.invokevirtual 51, 3) := by decide +kernel
theorem dX6_widow_8 : decode cX6_widow 8 = .ok (.ifCond .ne 5, 3) := by decide +kernel
theorem dX6_widow_11 : decode cX6_widow 11 = .ok (.iconst (-1), 1) := by decide +kernel
theorem dX6_widow_12 : decode cX6_widow 12 = .ok (.ireturn, 1) := by decide +kernel
theorem dX6_widow_13 : decode cX6_widow 13 = .ok (.iload_n 2, 1) := by decide +kernel
theorem dX6_widow_14 : decode cX6_widow 14 = .ok (.iconst 1, 1) := by decide +kernel
theorem dX6_widow_15 : decode cX6_widow 15 = .ok (.if_icmp .lt 9, 3) := by decide +kernel
theorem dX6_widow_18 : decode cX6_widow 18 = .ok (.iload_n 2, 1) := by decide +kernel
theorem dX6_widow_19 : decode cX6_widow 19 = .ok (.bipush 20, 2) := by decide +kernel
theorem dX6_widow_21 : decode cX6_widow 21 = .ok (.if_icmp .le 6, 3) := by decide +kernel
theorem dX6_widow_24 : decode cX6_widow 24 = .ok (.bipush (-2), 2) := by decide +kernel
theorem dX6_widow_26 : decode cX6_widow 26 = .ok (.ireturn, 1) := by decide +kernel
theorem dX6_widow_27 : decode cX6_widow 27 = .ok (.aload_n 0, 1) := by decide +kernel
theorem dX6_widow_28 : decode cX6_widow 28 = .ok (.getfield 12, 3) := by decide +kernel
theorem dX6_widow_31 : decode cX6_widow 31 = .ok (.getfield 55, 3) := by decide +kernel
theorem dX6_widow_34 : decode cX6_widow 34 = .ok (.iload_n 1, 1) := by decide +kernel
theorem dX6_widow_35 : decode cX6_widow 35 = .ok (.aaload, 1) := by decide +kernel
theorem dX6_widow_36 : decode cX6_widow 36 = .ok (.astore_n 3, 1) := by decide +kernel
theorem dX6_widow_37 : decode cX6_widow 37 = .ok (.aload_n 3, 1) := by decide +kernel
theorem dX6_widow_38 : decode cX6_widow 38 = .ok (.invokevirtual 59, 3) := by decide +kernel
theorem dX6_widow_41 : decode cX6_widow 41 = .ok (.ifCond .eq 10, 3) := by decide +kernel
theorem dX6_widow_44 : decode cX6_widow 44 = .ok (.aload_n 3, 1) := by decide +kernel
theorem dX6_widow_45 : decode cX6_widow 45 = .ok (.getfield 68, 3) := by decide +kernel
theorem dX6_widow_48 : decode cX6_widow 48 = .ok (.ifCond .eq 6, 3) := by decide +kernel
theorem dX6_widow_51 : decode cX6_widow 51 = .ok (.bipush (-4), 2) := by decide +kernel
theorem dX6_widow_53 : decode cX6_widow 53 = .ok (.ireturn, 1) := by decide +kernel
theorem dX6_widow_54 : decode cX6_widow 54 = .ok (.aload_n 0, 1) := by decide +kernel
theorem dX6_widow_55 : decode cX6_widow 55 = .ok (.getfield 25, 3) := by decide +kernel
theorem dX6_widow_58 : decode cX6_widow 58 = .ok (.aload_n 0, 1) := by decide +kernel
theorem dX6_widow_59 : decode cX6_widow 59 = .ok (.getfield 12, 3) := by decide +kernel
theorem dX6_widow_62 : decode cX6_widow 62 = .ok (.invokevirtual 44, 3) := by decide +kernel
theorem dX6_widow_65 : decode cX6_widow 65 = .ok (.aload_n 0, 1) := by decide +kernel
theorem dX6_widow_66 : decode cX6_widow 66 = .ok (.getfield 12, 3) := by decide +kernel
theorem dX6_widow_69 : decode cX6_widow 69 = .ok (.aload_n 3, 1) := by decide +kernel
theorem dX6_widow_70 : decode cX6_widow 70 = .ok (.invokevirtual 72, 3) := by decide +kernel
theorem dX6_widow_73 : decode cX6_widow 73 = .ok (.istore 4, 2) := by decide +kernel
theorem dX6_widow_75 : decode cX6_widow 75 = .ok (.aload_n 3, 1) := by decide +kernel
theorem dX6_widow_76 : decode cX6_widow 76 = .ok (.iconst 1, 1) := by decide +kernel
theorem dX6_widow_77 : decode cX6_widow 77 = .ok (.putfield 68, 3) := by decide +kernel
theorem dX6_widow_80 : decode cX6_widow 80 = .ok (.aload_n 3, 1) := by decide +kernel
theorem dX6_widow_81 : decode cX6_widow 81 = .ok (.iload_n 2, 1) := by decide +kernel
theorem dX6_widow_82 : decode cX6_widow 82 = .ok (.putfield 76, 3) := by decide +kernel
theorem dX6_widow_85 : decode cX6_widow 85 = .ok (.iload 4, 2) := by decide +kernel
theorem dX6_widow_87 : decode cX6_widow 87 = .ok (.ireturn, 1) := by decide +kernel
theorem dX6_close_0 : decode cX6_close 0 = .ok (.aload_n 0, 1) := by decide +kernel
theorem dX6_close_1 : decode cX6_close 1 = .ok (.getfield 12, 3) := by decide +kernel
theorem dX6_close_4 : decode cX6_close 4 = .ok (.iload_n 1, 1) := by decide +kernel
theorem dX6_close_5 : decode cX6_close 5 = .ok (.invokevirtual 51, 3) := by decide +kernel
theorem dX6_close_8 : decode cX6_close 8 = .ok (.ifCond .ne 5, 3) := by decide +kernel
theorem dX6_close_11 : decode cX6_close 11 = .ok (.iconst (-1), 1) := by decide +kernel
theorem dX6_close_12 : decode cX6_close 12 = .ok (.ireturn, 1) := by decide +kernel
theorem dX6_close_13 : decode cX6_close 13 = .ok (.aload_n 0, 1) := by decide +kernel
theorem dX6_close_14 : decode cX6_close 14 = .ok (.getfield 12, 3) := by decide +kernel
theorem dX6_close_17 : decode cX6_close 17 = .ok (.getfield 55, 3) := by decide +kernel
theorem dX6_close_20 : decode cX6_close 20 = .ok (.iload_n 1, 1) := by decide +kernel
theorem dX6_close_21 : decode cX6_close 21 = .ok (.aaload, 1) := by decide +kernel
theorem dX6_close_22 : decode cX6_close 22 = .ok (.astore_n 2, 1) := by decide +kernel
theorem dX6_close_23 : decode cX6_close 23 = .ok (.aload_n 2, 1) := by decide +kernel
theorem dX6_close_24 : decode cX6_close 24 = .ok (.invokevirtual 59, 3) := by decide +kernel
theorem dX6_close_27 : decode cX6_close 27 = .ok (.ifCond .ne 6, 3) := by decide +kernel
theorem dX6_close_30 : decode cX6_close 30 = .ok (.bipush (-4), 2) := by decide +kernel
theorem dX6_close_32 : decode cX6_close 32 = .ok (.ireturn, 1) := by decide +kernel
theorem dX6_close_33 : decode cX6_close 33 = .ok (.aload_n 0, 1) := by decide +kernel
theorem dX6_close_34 : decode cX6_close 34 = .ok (.getfield 25, 3) := by decide +kernel
theorem dX6_close_37 : decode cX6_close 37 = .ok (.aload_n 0, 1) := by decide +kernel
theorem dX6_close_38 : decode cX6_close 38 = .ok (.getfield 12, 3) := by decide +kernel
theorem dX6_close_41 : decode cX6_close 41 = .ok (.invokevirtual 44, 3) := by decide +kernel
theorem dX6_close_44 : decode cX6_close 44 = .ok (.aload_n 2, 1) := by decide +kernel
theorem dX6_close_45 : decode cX6_close 45 = .ok (.iconst 2, 1) := by decide +kernel
theorem dX6_close_46 : decode cX6_close 46 = .ok (.putfield 79, 3) := by decide +kernel
theorem dX6_close_49 : decode cX6_close 49 = .ok (.aload_n 0, 1) := by decide +kernel
theorem dX6_close_50 : decode cX6_close 50 = .ok (.getfield 12, 3) := by decide +kernel
theorem dX6_close_53 : decode cX6_close 53 = .ok (.invokevirtual 82, 3) := by decide +kernel
theorem dX6_close_56 : decode cX6_close 56 = .ok (.ireturn, 1) := by decide +kernel
theorem dX6_setRent_0 : decode cX6_setRent 0 = .ok (.iload_n 1, 1) := by decide +kernel
theorem dX6_setRent_1 : decode cX6_setRent 1 = .ok (.ifCond .lt 9, 3) := by decide +kernel
theorem dX6_setRent_4 : decode cX6_setRent 4 = .ok (.iload_n 1, 1) := by decide +kernel
theorem dX6_setRent_5 : decode cX6_setRent 5 = .ok (.bipush 99, 2) := by decide +kernel
theorem dX6_setRent_7 : decode cX6_setRent 7 = .ok (.if_icmp .le 6, 3) := by decide +kernel
theorem dX6_setRent_10 : decode cX6_setRent 10 = .ok (.bipush (-2), 2) := by decide +kernel
theorem dX6_setRent_12 : decode cX6_setRent 12 = .ok (.ireturn, 1) := by decide +kernel
theorem dX6_setRent_13 : decode cX6_setRent 13 = .ok (.aload_n 0, 1) := by decide +kernel
theorem dX6_setRent_14 : decode cX6_setRent 14 = .ok (.getfield 12, 3) := by decide +kernel
theorem dX6_setRent_17 : decode cX6_setRent 17 = .ok (.getfield 86, 3) := by decide +kernel
theorem dX6_setRent_20 : decode cX6_setRent 20 = .ok (.istore_n 2, 1) := by decide +kernel
theorem dX6_setRent_21 : decode cX6_setRent 21 = .ok (.iload_n 1, 1) := by decide +kernel
theorem dX6_setRent_22 : decode cX6_setRent 22 = .ok (.iload_n 2, 1) := by decide +kernel
theorem dX6_setRent_23 : decode cX6_setRent 23 = .ok (.if_icmp .ne 6, 3) := by decide +kernel
theorem dX6_setRent_26 : decode cX6_setRent 26 = .ok (.bipush (-5), 2) := by decide +kernel
theorem dX6_setRent_28 : decode cX6_setRent 28 = .ok (.ireturn, 1) := by decide +kernel
theorem dX6_setRent_29 : decode cX6_setRent 29 = .ok (.aload_n 0, 1) := by decide +kernel
theorem dX6_setRent_30 : decode cX6_setRent 30 = .ok (.getfield 25, 3) := by decide +kernel
theorem dX6_setRent_33 : decode cX6_setRent 33 = .ok (.aload_n 0, 1) := by decide +kernel
theorem dX6_setRent_34 : decode cX6_setRent 34 = .ok (.getfield 12, 3) := by decide +kernel
theorem dX6_setRent_37 : decode cX6_setRent 37 = .ok (.invokevirtual 44, 3) := by decide +kernel
theorem dX6_setRent_40 : decode cX6_setRent 40 = .ok (.aload_n 0, 1) := by decide +kernel
theorem dX6_setRent_41 : decode cX6_setRent 41 = .ok (.getfield 12, 3) := by decide +kernel
theorem dX6_setRent_44 : decode cX6_setRent 44 = .ok (.iload_n 1, 1) := by decide +kernel
theorem dX6_setRent_45 : decode cX6_setRent 45 = .ok (.putfield 86, 3) := by decide +kernel
theorem dX6_setRent_48 : decode cX6_setRent 48 = .ok (.iload_n 2, 1) := by decide +kernel
theorem dX6_setRent_49 : decode cX6_setRent 49 = .ok (.ireturn, 1) := by decide +kernel
theorem dX6_forbidSkew_0 : decode cX6_forbidSkew 0 = .ok (.iload_n 1, 1) := by decide +kernel
theorem dX6_forbidSkew_1 : decode cX6_forbidSkew 1 = .ok (.aload_n 0, 1) := by decide +kernel
theorem dX6_forbidSkew_2 : decode cX6_forbidSkew 2 = .ok (.getfield 12, 3) := by decide +kernel
theorem dX6_forbidSkew_5 : decode cX6_forbidSkew 5 = .ok (.getfield 89, 3) := by decide +kernel
theorem dX6_forbidSkew_8 : decode cX6_forbidSkew 8 = .ok (.if_icmp .ne 6, 3) := by decide +kernel
theorem dX6_forbidSkew_11 : decode cX6_forbidSkew 11 = .ok (.bipush (-5), 2) := by decide +kernel
theorem dX6_forbidSkew_13 : decode cX6_forbidSkew 13 = .ok (.ireturn, 1) := by decide +kernel
theorem dX6_forbidSkew_14 : decode cX6_forbidSkew 14 = .ok (.aload_n 0, 1) := by decide +kernel
theorem dX6_forbidSkew_15 : decode cX6_forbidSkew 15 = .ok (.getfield 25, 3) := by decide +kernel
theorem dX6_forbidSkew_18 : decode cX6_forbidSkew 18 = .ok (.aload_n 0, 1) := by decide +kernel
theorem dX6_forbidSkew_19 : decode cX6_forbidSkew 19 = .ok (.getfield 12, 3) := by decide +kernel
theorem dX6_forbidSkew_22 : decode cX6_forbidSkew 22 = .ok (.invokevirtual 44, 3) := by decide +kernel
theorem dX6_forbidSkew_25 : decode cX6_forbidSkew 25 = .ok (.aload_n 0, 1) := by decide +kernel
theorem dX6_forbidSkew_26 : decode cX6_forbidSkew 26 = .ok (.getfield 12, 3) := by decide +kernel
theorem dX6_forbidSkew_29 : decode cX6_forbidSkew 29 = .ok (.iload_n 1, 1) := by decide +kernel
theorem dX6_forbidSkew_30 : decode cX6_forbidSkew 30 = .ok (.putfield 89, 3) := by decide +kernel
theorem dX6_forbidSkew_33 : decode cX6_forbidSkew 33 = .ok (.aload_n 0, 1) := by decide +kernel
theorem dX6_forbidSkew_34 : decode cX6_forbidSkew 34 = .ok (.getfield 12, 3) := by decide +kernel
theorem dX6_forbidSkew_37 : decode cX6_forbidSkew 37 = .ok (.invokevirtual 92, 3) := by decide +kernel
theorem dX6_forbidSkew_40 : decode cX6_forbidSkew 40 = .ok (.ireturn, 1) := by decide +kernel
theorem dX6_tick_0 : decode cX6_tick 0 = .ok (.iload_n 1, 1) := by decide +kernel
theorem dX6_tick_1 : decode cX6_tick 1 = .ok (.iconst 1, 1) := by decide +kernel
theorem dX6_tick_2 : decode cX6_tick 2 = .ok (.if_icmp .lt 9, 3) := by decide +kernel
theorem dX6_tick_5 : decode cX6_tick 5 = .ok (.iload_n 1, 1) := by decide +kernel
theorem dX6_tick_6 : decode cX6_tick 6 = .ok (.bipush 60, 2) := by decide +kernel
theorem dX6_tick_8 : decode cX6_tick 8 = .ok (.if_icmp .le 6, 3) := by decide +kernel
theorem dX6_tick_11 : decode cX6_tick 11 = .ok (.bipush (-2), 2) := by decide +kernel
theorem dX6_tick_13 : decode cX6_tick 13 = .ok (.ireturn, 1) := by decide +kernel
theorem dX6_tick_14 : decode cX6_tick 14 = .ok (.aload_n 0, 1) := by decide +kernel
theorem dX6_tick_15 : decode cX6_tick 15 = .ok (.getfield 25, 3) := by decide +kernel
theorem dX6_tick_18 : decode cX6_tick 18 = .ok (.aload_n 0, 1) := by decide +kernel
theorem dX6_tick_19 : decode cX6_tick 19 = .ok (.getfield 12, 3) := by decide +kernel
theorem dX6_tick_22 : decode cX6_tick 22 = .ok (.invokevirtual 44, 3) := by decide +kernel
theorem dX6_tick_25 : decode cX6_tick 25 = .ok (.aload_n 0, 1) := by decide +kernel
theorem dX6_tick_26 : decode cX6_tick 26 = .ok (.getfield 12, 3) := by decide +kernel
theorem dX6_tick_29 : decode cX6_tick 29 = .ok (.iconst 3, 1) := by decide +kernel
theorem dX6_tick_30 : decode cX6_tick 30 = .ok (.invokevirtual 40, 3) := by decide +kernel
theorem dX6_tick_33 : decode cX6_tick 33 = .ok (.istore_n 2, 1) := by decide +kernel
theorem dX6_tick_34 : decode cX6_tick 34 = .ok (.aload_n 0, 1) := by decide +kernel
theorem dX6_tick_35 : decode cX6_tick 35 = .ok (.getfield 12, 3) := by decide +kernel
theorem dX6_tick_38 : decode cX6_tick 38 = .ok (.iload_n 1, 1) := by decide +kernel
theorem dX6_tick_39 : decode cX6_tick 39 = .ok (.iconst (-1), 1) := by decide +kernel
theorem dX6_tick_40 : decode cX6_tick 40 = .ok (.invokevirtual 95, 3) := by decide +kernel
theorem dX6_tick_43 : decode cX6_tick 43 = .ok (.aload_n 0, 1) := by decide +kernel
theorem dX6_tick_44 : decode cX6_tick 44 = .ok (.getfield 12, 3) := by decide +kernel
theorem dX6_tick_47 : decode cX6_tick 47 = .ok (.iconst 3, 1) := by decide +kernel
theorem dX6_tick_48 : decode cX6_tick 48 = .ok (.invokevirtual 40, 3) := by decide +kernel
theorem dX6_tick_51 : decode cX6_tick 51 = .ok (.iload_n 2, 1) := by decide +kernel
theorem dX6_tick_52 : decode cX6_tick 52 = .ok (.isub, 1) := by decide +kernel
theorem dX6_tick_53 : decode cX6_tick 53 = .ok (.ireturn, 1) := by decide +kernel
theorem dX6_read_0 : decode cX6_read 0 = .ok (.aload_n 0, 1) := by decide +kernel
theorem dX6_read_1 : decode cX6_read 1 = .ok (.getfield 12, 3) := by decide +kernel
theorem dX6_read_4 : decode cX6_read 4 = .ok (.iload_n 1, 1) := by decide +kernel
theorem dX6_read_5 : decode cX6_read 5 = .ok (.invokevirtual 51, 3) := by decide +kernel
theorem dX6_read_8 : decode cX6_read 8 = .ok (.ifCond .eq 10, 3) := by decide +kernel
theorem dX6_read_11 : decode cX6_read 11 = .ok (.iload_n 2, 1) := by decide +kernel
theorem dX6_read_12 : decode cX6_read 12 = .ok (.invokestatic 99, 3) := by decide +kernel
theorem dX6_read_15 : decode cX6_read 15 = .ok (.ifCond .ne 5, 3) := by decide +kernel
theorem dX6_read_18 : decode cX6_read 18 = .ok (.iconst (-1), 1) := by decide +kernel
theorem dX6_read_19 : decode cX6_read 19 = .ok (.ireturn, 1) := by decide +kernel
theorem dX6_read_20 : decode cX6_read 20 = .ok (.aload_n 0, 1) := by decide +kernel
theorem dX6_read_21 : decode cX6_read 21 = .ok (.getfield 12, 3) := by decide +kernel
theorem dX6_read_24 : decode cX6_read 24 = .ok (.getfield 55, 3) := by decide +kernel
theorem dX6_read_27 : decode cX6_read 27 = .ok (.iload_n 1, 1) := by decide +kernel
theorem dX6_read_28 : decode cX6_read 28 = .ok (.aaload, 1) := by decide +kernel
theorem dX6_read_29 : decode cX6_read 29 = .ok (.astore_n 3, 1) := by decide +kernel
theorem dX6_read_30 : decode cX6_read 30 = .ok (.aload_n 3, 1) := by decide +kernel
theorem dX6_read_31 : decode cX6_read 31 = .ok (.invokevirtual 59, 3) := by decide +kernel
theorem dX6_read_34 : decode cX6_read 34 = .ok (.ifCond .ne 6, 3) := by decide +kernel
theorem dX6_read_37 : decode cX6_read 37 = .ok (.bipush (-4), 2) := by decide +kernel
theorem dX6_read_39 : decode cX6_read 39 = .ok (.ireturn, 1) := by decide +kernel
theorem dX6_read_40 : decode cX6_read 40 = .ok (.aload_n 0, 1) := by decide +kernel
theorem dX6_read_41 : decode cX6_read 41 = .ok (.getfield 25, 3) := by decide +kernel
theorem dX6_read_44 : decode cX6_read 44 = .ok (.aload_n 0, 1) := by decide +kernel
theorem dX6_read_45 : decode cX6_read 45 = .ok (.getfield 12, 3) := by decide +kernel
theorem dX6_read_48 : decode cX6_read 48 = .ok (.invokevirtual 44, 3) := by decide +kernel
theorem dX6_read_51 : decode cX6_read 51 = .ok (.aload_n 3, 1) := by decide +kernel
theorem dX6_read_52 : decode cX6_read 52 = .ok (.iload_n 2, 1) := by decide +kernel
theorem dX6_read_53 : decode cX6_read 53 = .ok (.invokevirtual 102, 3) := by decide +kernel
theorem dX6_read_56 : decode cX6_read 56 = .ok (.ifCond .eq 10, 3) := by decide +kernel
theorem dX6_read_59 : decode cX6_read 59 = .ok (.aload_n 3, 1) := by decide +kernel
theorem dX6_read_60 : decode cX6_read 60 = .ok (.getfield 105, 3) := by decide +kernel
theorem dX6_read_63 : decode cX6_read 63 = .ok (.iload_n 2, 1) := by decide +kernel
theorem dX6_read_64 : decode cX6_read 64 = .ok (.iaload, 1) := by decide +kernel
theorem dX6_read_65 : decode cX6_read 65 = .ok (.ireturn, 1) := by decide +kernel
theorem dX6_read_66 : decode cX6_read 66 = .ok (.aload_n 3, 1) := by decide +kernel
theorem dX6_read_67 : decode cX6_read 67 = .ok (.dup, 1) := by decide +kernel
theorem dX6_read_68 : decode cX6_read 68 = .ok (.getfield 109, 3) := by decide +kernel
theorem dX6_read_71 : decode cX6_read 71 = .ok (.iconst 1, 1) := by decide +kernel
theorem dX6_read_72 : decode cX6_read 72 = .ok (.iload_n 2, 1) := by decide +kernel
theorem dX6_read_73 : decode cX6_read 73 = .ok (.ishl, 1) := by decide +kernel
theorem dX6_read_74 : decode cX6_read 74 = .ok (.ior, 1) := by decide +kernel
theorem dX6_read_75 : decode cX6_read 75 = .ok (.putfield 109, 3) := by decide +kernel
theorem dX6_read_78 : decode cX6_read 78 = .ok (.aload_n 0, 1) := by decide +kernel
theorem dX6_read_79 : decode cX6_read 79 = .ok (.getfield 12, 3) := by decide +kernel
theorem dX6_read_82 : decode cX6_read 82 = .ok (.getfield 112, 3) := by decide +kernel
theorem dX6_read_85 : decode cX6_read 85 = .ok (.iload_n 2, 1) := by decide +kernel
theorem dX6_read_86 : decode cX6_read 86 = .ok (.aaload, 1) := by decide +kernel
theorem dX6_read_87 : decode cX6_read 87 = .ok (.aload_n 3, 1) := by decide +kernel
theorem dX6_read_88 : decode cX6_read 88 = .ok (.getfield 116, 3) := by decide +kernel
theorem dX6_read_91 : decode cX6_read 91 = .ok (.invokevirtual 119, 3) := by decide +kernel
theorem dX6_read_94 : decode cX6_read 94 = .ok (.ireturn, 1) := by decide +kernel
theorem dX6_write_0 : decode cX6_write 0 = .ok (.aload_n 0, 1) := by decide +kernel
theorem dX6_write_1 : decode cX6_write 1 = .ok (.getfield 12, 3) := by decide +kernel
theorem dX6_write_4 : decode cX6_write 4 = .ok (.iload_n 1, 1) := by decide +kernel
theorem dX6_write_5 : decode cX6_write 5 = .ok (.invokevirtual 51, 3) := by decide +kernel
theorem dX6_write_8 : decode cX6_write 8 = .ok (.ifCond .eq 10, 3) := by decide +kernel
theorem dX6_write_11 : decode cX6_write 11 = .ok (.iload_n 2, 1) := by decide +kernel
theorem dX6_write_12 : decode cX6_write 12 = .ok (.invokestatic 99, 3) := by decide +kernel
theorem dX6_write_15 : decode cX6_write 15 = .ok (.ifCond .ne 5, 3) := by decide +kernel
theorem dX6_write_18 : decode cX6_write 18 = .ok (.iconst (-1), 1) := by decide +kernel
theorem dX6_write_19 : decode cX6_write 19 = .ok (.ireturn, 1) := by decide +kernel
theorem dX6_write_20 : decode cX6_write 20 = .ok (.iload_n 3, 1) := by decide +kernel
theorem dX6_write_21 : decode cX6_write 21 = .ok (.ifCond .lt 10, 3) := by decide +kernel
theorem dX6_write_24 : decode cX6_write 24 = .ok (.iload_n 3, 1) := by decide +kernel
theorem dX6_write_25 : decode cX6_write 25 = .ok (.sipush 9999, 3) := by decide +kernel
theorem dX6_write_28 : decode cX6_write 28 = .ok (.if_icmp .le 6, 3) := by decide +kernel
theorem dX6_write_31 : decode cX6_write 31 = .ok (.bipush (-2), 2) := by decide +kernel
theorem dX6_write_33 : decode cX6_write 33 = .ok (.ireturn, 1) := by decide +kernel
theorem dX6_write_34 : decode cX6_write 34 = .ok (.aload_n 0, 1) := by decide +kernel
theorem dX6_write_35 : decode cX6_write 35 = .ok (.getfield 12, 3) := by decide +kernel
theorem dX6_write_38 : decode cX6_write 38 = .ok (.getfield 55, 3) := by decide +kernel
theorem dX6_write_41 : decode cX6_write 41 = .ok (.iload_n 1, 1) := by decide +kernel
theorem dX6_write_42 : decode cX6_write 42 = .ok (.aaload, 1) := by decide +kernel
theorem dX6_write_43 : decode cX6_write 43 = .ok (.astore 4, 2) := by decide +kernel
theorem dX6_write_45 : decode cX6_write 45 = .ok (.aload 4, 2) := by decide +kernel
theorem dX6_write_47 : decode cX6_write 47 = .ok (.invokevirtual 59, 3) := by decide +kernel
theorem dX6_write_50 : decode cX6_write 50 = .ok (.ifCond .ne 6, 3) := by decide +kernel
theorem dX6_write_53 : decode cX6_write 53 = .ok (.bipush (-4), 2) := by decide +kernel
theorem dX6_write_55 : decode cX6_write 55 = .ok (.ireturn, 1) := by decide +kernel
theorem dX6_write_56 : decode cX6_write 56 = .ok (.aload_n 0, 1) := by decide +kernel
theorem dX6_write_57 : decode cX6_write 57 = .ok (.getfield 25, 3) := by decide +kernel
theorem dX6_write_60 : decode cX6_write 60 = .ok (.aload_n 0, 1) := by decide +kernel
theorem dX6_write_61 : decode cX6_write 61 = .ok (.getfield 12, 3) := by decide +kernel
theorem dX6_write_64 : decode cX6_write 64 = .ok (.invokevirtual 44, 3) := by decide +kernel
theorem dX6_write_67 : decode cX6_write 67 = .ok (.aload 4, 2) := by decide +kernel
theorem dX6_write_69 : decode cX6_write 69 = .ok (.iload_n 2, 1) := by decide +kernel
theorem dX6_write_70 : decode cX6_write 70 = .ok (.iload_n 3, 1) := by decide +kernel
theorem dX6_write_71 : decode cX6_write 71 = .ok (.invokevirtual 124, 3) := by decide +kernel
theorem dX6_write_74 : decode cX6_write 74 = .ok (.aload 4, 2) := by decide +kernel
theorem dX6_write_76 : decode cX6_write 76 = .ok (.invokevirtual 127, 3) := by decide +kernel
theorem dX6_write_79 : decode cX6_write 79 = .ok (.ireturn, 1) := by decide +kernel
theorem dX6_commit_0 : decode cX6_commit 0 = .ok (.aload_n 0, 1) := by decide +kernel
theorem dX6_commit_1 : decode cX6_commit 1 = .ok (.getfield 12, 3) := by decide +kernel
theorem dX6_commit_4 : decode cX6_commit 4 = .ok (.iload_n 1, 1) := by decide +kernel
theorem dX6_commit_5 : decode cX6_commit 5 = .ok (.invokevirtual 51, 3) := by decide +kernel
theorem dX6_commit_8 : decode cX6_commit 8 = .ok (.ifCond .ne 5, 3) := by decide +kernel
theorem dX6_commit_11 : decode cX6_commit 11 = .ok (.iconst (-1), 1) := by decide +kernel
theorem dX6_commit_12 : decode cX6_commit 12 = .ok (.ireturn, 1) := by decide +kernel
theorem dX6_commit_13 : decode cX6_commit 13 = .ok (.aload_n 0, 1) := by decide +kernel
theorem dX6_commit_14 : decode cX6_commit 14 = .ok (.getfield 12, 3) := by decide +kernel
theorem dX6_commit_17 : decode cX6_commit 17 = .ok (.getfield 55, 3) := by decide +kernel
theorem dX6_commit_20 : decode cX6_commit 20 = .ok (.iload_n 1, 1) := by decide +kernel
theorem dX6_commit_21 : decode cX6_commit 21 = .ok (.aaload, 1) := by decide +kernel
theorem dX6_commit_22 : decode cX6_commit 22 = .ok (.astore_n 2, 1) := by decide +kernel
theorem dX6_commit_23 : decode cX6_commit 23 = .ok (.aload_n 2, 1) := by decide +kernel
theorem dX6_commit_24 : decode cX6_commit 24 = .ok (.invokevirtual 59, 3) := by decide +kernel
theorem dX6_commit_27 : decode cX6_commit 27 = .ok (.ifCond .ne 6, 3) := by decide +kernel
theorem dX6_commit_30 : decode cX6_commit 30 = .ok (.bipush (-4), 2) := by decide +kernel
theorem dX6_commit_32 : decode cX6_commit 32 = .ok (.ireturn, 1) := by decide +kernel
theorem dX6_commit_33 : decode cX6_commit 33 = .ok (.aload_n 0, 1) := by decide +kernel
theorem dX6_commit_34 : decode cX6_commit 34 = .ok (.getfield 12, 3) := by decide +kernel
theorem dX6_commit_37 : decode cX6_commit 37 = .ok (.aload_n 2, 1) := by decide +kernel
theorem dX6_commit_38 : decode cX6_commit 38 = .ok (.invokevirtual 130, 3) := by decide +kernel
theorem dX6_commit_41 : decode cX6_commit 41 = .ok (.ifCond .eq 6, 3) := by decide +kernel
theorem dX6_commit_44 : decode cX6_commit 44 = .ok (.bipush (-6), 2) := by decide +kernel
theorem dX6_commit_46 : decode cX6_commit 46 = .ok (.ireturn, 1) := by decide +kernel
theorem dX6_commit_47 : decode cX6_commit 47 = .ok (.aload_n 0, 1) := by decide +kernel
theorem dX6_commit_48 : decode cX6_commit 48 = .ok (.getfield 12, 3) := by decide +kernel
theorem dX6_commit_51 : decode cX6_commit 51 = .ok (.getfield 89, 3) := by decide +kernel
theorem dX6_commit_54 : decode cX6_commit 54 = .ok (.ifCond .eq 17, 3) := by decide +kernel
theorem dX6_commit_57 : decode cX6_commit 57 = .ok (.aload_n 0, 1) := by decide +kernel
theorem dX6_commit_58 : decode cX6_commit 58 = .ok (.getfield 12, 3) := by decide +kernel
theorem dX6_commit_61 : decode cX6_commit 61 = .ok (.aload_n 2, 1) := by decide +kernel
theorem dX6_commit_62 : decode cX6_commit 62 = .ok (.invokevirtual 134, 3) := by decide +kernel
theorem dX6_commit_65 : decode cX6_commit 65 = .ok (.ifCond .le 6, 3) := by decide +kernel
theorem dX6_commit_68 : decode cX6_commit 68 = .ok (.bipush (-4), 2) := by decide +kernel
theorem dX6_commit_70 : decode cX6_commit 70 = .ok (.ireturn, 1) := by decide +kernel
theorem dX6_commit_71 : decode cX6_commit 71 = .ok (.aload_n 0, 1) := by decide +kernel
theorem dX6_commit_72 : decode cX6_commit 72 = .ok (.getfield 12, 3) := by decide +kernel
theorem dX6_commit_75 : decode cX6_commit 75 = .ok (.iload_n 1, 1) := by decide +kernel
theorem dX6_commit_76 : decode cX6_commit 76 = .ok (.invokevirtual 137, 3) := by decide +kernel
theorem dX6_commit_79 : decode cX6_commit 79 = .ok (.bipush 40, 2) := by decide +kernel
theorem dX6_commit_81 : decode cX6_commit 81 = .ok (.if_icmp .le 6, 3) := by decide +kernel
theorem dX6_commit_84 : decode cX6_commit 84 = .ok (.bipush (-3), 2) := by decide +kernel
theorem dX6_commit_86 : decode cX6_commit 86 = .ok (.ireturn, 1) := by decide +kernel
theorem dX6_commit_87 : decode cX6_commit 87 = .ok (.aload_n 0, 1) := by decide +kernel
theorem dX6_commit_88 : decode cX6_commit 88 = .ok (.getfield 25, 3) := by decide +kernel
theorem dX6_commit_91 : decode cX6_commit 91 = .ok (.aload_n 0, 1) := by decide +kernel
theorem dX6_commit_92 : decode cX6_commit 92 = .ok (.getfield 12, 3) := by decide +kernel
theorem dX6_commit_95 : decode cX6_commit 95 = .ok (.invokevirtual 44, 3) := by decide +kernel
theorem dX6_commit_98 : decode cX6_commit 98 = .ok (.aload_n 0, 1) := by decide +kernel
theorem dX6_commit_99 : decode cX6_commit 99 = .ok (.getfield 12, 3) := by decide +kernel
theorem dX6_commit_102 : decode cX6_commit 102 = .ok (.iload_n 1, 1) := by decide +kernel
theorem dX6_commit_103 : decode cX6_commit 103 = .ok (.invokevirtual 140, 3) := by decide +kernel
theorem dX6_commit_106 : decode cX6_commit 106 = .ok (.aload_n 0, 1) := by decide +kernel
theorem dX6_commit_107 : decode cX6_commit 107 = .ok (.getfield 12, 3) := by decide +kernel
theorem dX6_commit_110 : decode cX6_commit 110 = .ok (.getfield 144, 3) := by decide +kernel
theorem dX6_commit_113 : decode cX6_commit 113 = .ok (.ireturn, 1) := by decide +kernel
theorem dX6_type_0 : decode cX6_type 0 = .ok (.aload_n 0, 1) := by decide +kernel
theorem dX6_type_1 : decode cX6_type 1 = .ok (.getfield 32, 3) := by decide +kernel
theorem dX6_type_4 : decode cX6_type 4 = .ok (.getfield 145, 3) := by decide +kernel
theorem dX6_type_7 : decode cX6_type 7 = .ok (.bipush 60, 2) := by decide +kernel
theorem dX6_type_9 : decode cX6_type 9 = .ok (.if_icmp .lt 6, 3) := by decide +kernel
theorem dX6_type_12 : decode cX6_type 12 = .ok (.bipush (-3), 2) := by decide +kernel
theorem dX6_type_14 : decode cX6_type 14 = .ok (.ireturn, 1) := by decide +kernel
theorem dX6_type_15 : decode cX6_type 15 = .ok (.aload_n 0, 1) := by decide +kernel
theorem dX6_type_16 : decode cX6_type 16 = .ok (.getfield 32, 3) := by decide +kernel
theorem dX6_type_19 : decode cX6_type 19 = .ok (.iload_n 1, 1) := by decide +kernel
theorem dX6_type_20 : decode cX6_type 20 = .ok (.invokevirtual 148, 3) := by decide +kernel
theorem dX6_type_23 : decode cX6_type 23 = .ok (.aload_n 0, 1) := by decide +kernel
theorem dX6_type_24 : decode cX6_type 24 = .ok (.getfield 32, 3) := by decide +kernel
theorem dX6_type_27 : decode cX6_type 27 = .ok (.getfield 145, 3) := by decide +kernel
theorem dX6_type_30 : decode cX6_type 30 = .ok (.ireturn, 1) := by decide +kernel
theorem dX6_clearText_0 : decode cX6_clearText 0 = .ok (.aload_n 0, 1) := by decide +kernel
theorem dX6_clearText_1 : decode cX6_clearText 1 = .ok (.getfield 32, 3) := by decide +kernel
theorem dX6_clearText_4 : decode cX6_clearText 4 = .ok (.getfield 145, 3) := by decide +kernel
theorem dX6_clearText_7 : decode cX6_clearText 7 = .ok (.istore_n 1, 1) := by decide +kernel
theorem dX6_clearText_8 : decode cX6_clearText 8 = .ok (.aload_n 0, 1) := by decide +kernel
theorem dX6_clearText_9 : decode cX6_clearText 9 = .ok (.getfield 32, 3) := by decide +kernel
theorem dX6_clearText_12 : decode cX6_clearText 12 = .ok (.iconst 0, 1) := by decide +kernel
theorem dX6_clearText_13 : decode cX6_clearText 13 = .ok (.putfield 145, 3) := by decide +kernel
theorem dX6_clearText_16 : decode cX6_clearText 16 = .ok (.iload_n 1, 1) := by decide +kernel
theorem dX6_clearText_17 : decode cX6_clearText 17 = .ok (.ireturn, 1) := by decide +kernel
theorem dX6_readWrites_0 : decode cX6_readWrites 0 = .ok (.aload_n 0, 1) := by decide +kernel
theorem dX6_readWrites_1 : decode cX6_readWrites 1 = .ok (.getfield 12, 3) := by decide +kernel
theorem dX6_readWrites_4 : decode cX6_readWrites 4 = .ok (.iload_n 1, 1) := by decide +kernel
theorem dX6_readWrites_5 : decode cX6_readWrites 5 = .ok (.invokevirtual 51, 3) := by decide +kernel
theorem dX6_readWrites_8 : decode cX6_readWrites 8 = .ok (.ifCond .ne 5, 3) := by decide +kernel
theorem dX6_readWrites_11 : decode cX6_readWrites 11 = .ok (.iconst (-1), 1) := by decide +kernel
theorem dX6_readWrites_12 : decode cX6_readWrites 12 = .ok (.ireturn, 1) := by decide +kernel
theorem dX6_readWrites_13 : decode cX6_readWrites 13 = .ok (.aload_n 0, 1) := by decide +kernel
theorem dX6_readWrites_14 : decode cX6_readWrites 14 = .ok (.getfield 32, 3) := by decide +kernel
theorem dX6_readWrites_17 : decode cX6_readWrites 17 = .ok (.invokevirtual 152, 3) := by decide +kernel
theorem dX6_readWrites_20 : decode cX6_readWrites 20 = .ok (.istore_n 2, 1) := by decide +kernel
theorem dX6_readWrites_21 : decode cX6_readWrites 21 = .ok (.iload_n 2, 1) := by decide +kernel
theorem dX6_readWrites_22 : decode cX6_readWrites 22 = .ok (.iconst (-1), 1) := by decide +kernel
theorem dX6_readWrites_23 : decode cX6_readWrites 23 = .ok (.if_icmp .eq 8, 3) := by decide +kernel
theorem dX6_readWrites_26 : decode cX6_readWrites 26 = .ok (.bipush (-100), 2) := by decide +kernel
theorem dX6_readWrites_28 : decode cX6_readWrites 28 = .ok (.iload_n 2, 1) := by decide +kernel
theorem dX6_readWrites_29 : decode cX6_readWrites 29 = .ok (.isub, 1) := by decide +kernel
theorem dX6_readWrites_30 : decode cX6_readWrites 30 = .ok (.ireturn, 1) := by decide +kernel
theorem dX6_readWrites_31 : decode cX6_readWrites 31 = .ok (.aload_n 0, 1) := by decide +kernel
theorem dX6_readWrites_32 : decode cX6_readWrites 32 = .ok (.getfield 32, 3) := by decide +kernel
theorem dX6_readWrites_35 : decode cX6_readWrites 35 = .ok (.invokevirtual 155, 3) := by decide +kernel
theorem dX6_readWrites_38 : decode cX6_readWrites 38 = .ok (.bipush 12, 2) := by decide +kernel
theorem dX6_readWrites_40 : decode cX6_readWrites 40 = .ok (.if_icmp .lt 5, 3) := by decide +kernel
theorem dX6_readWrites_43 : decode cX6_readWrites 43 = .ok (.iconst (-1), 1) := by decide +kernel
theorem dX6_readWrites_44 : decode cX6_readWrites 44 = .ok (.ireturn, 1) := by decide +kernel
theorem dX6_readWrites_45 : decode cX6_readWrites 45 = .ok (.aload_n 0, 1) := by decide +kernel
theorem dX6_readWrites_46 : decode cX6_readWrites 46 = .ok (.getfield 12, 3) := by decide +kernel
theorem dX6_readWrites_49 : decode cX6_readWrites 49 = .ok (.getfield 55, 3) := by decide +kernel
theorem dX6_readWrites_52 : decode cX6_readWrites 52 = .ok (.iload_n 1, 1) := by decide +kernel
theorem dX6_readWrites_53 : decode cX6_readWrites 53 = .ok (.aaload, 1) := by decide +kernel
theorem dX6_readWrites_54 : decode cX6_readWrites 54 = .ok (.astore_n 3, 1) := by decide +kernel
theorem dX6_readWrites_55 : decode cX6_readWrites 55 = .ok (.aload_n 3, 1) := by decide +kernel
theorem dX6_readWrites_56 : decode cX6_readWrites 56 = .ok (.invokevirtual 59, 3) := by decide +kernel
theorem dX6_readWrites_59 : decode cX6_readWrites 59 = .ok (.ifCond .ne 6, 3) := by decide +kernel
theorem dX6_readWrites_62 : decode cX6_readWrites 62 = .ok (.bipush (-4), 2) := by decide +kernel
theorem dX6_readWrites_64 : decode cX6_readWrites 64 = .ok (.ireturn, 1) := by decide +kernel
theorem dX6_readWrites_65 : decode cX6_readWrites 65 = .ok (.aload_n 0, 1) := by decide +kernel
theorem dX6_readWrites_66 : decode cX6_readWrites 66 = .ok (.getfield 25, 3) := by decide +kernel
theorem dX6_readWrites_69 : decode cX6_readWrites 69 = .ok (.aload_n 0, 1) := by decide +kernel
theorem dX6_readWrites_70 : decode cX6_readWrites 70 = .ok (.getfield 12, 3) := by decide +kernel
theorem dX6_readWrites_73 : decode cX6_readWrites 73 = .ok (.invokevirtual 44, 3) := by decide +kernel
theorem dX6_readWrites_76 : decode cX6_readWrites 76 = .ok (.iconst 0, 1) := by decide +kernel
theorem dX6_readWrites_77 : decode cX6_readWrites 77 = .ok (.istore 4, 2) := by decide +kernel
theorem dX6_readWrites_79 : decode cX6_readWrites 79 = .ok (.iload 4, 2) := by decide +kernel
theorem dX6_readWrites_81 : decode cX6_readWrites 81 = .ok (.aload_n 0, 1) := by decide +kernel
theorem dX6_readWrites_82 : decode cX6_readWrites 82 = .ok (.getfield 32, 3) := by decide +kernel
theorem dX6_readWrites_85 : decode cX6_readWrites 85 = .ok (.getfield 158, 3) := by decide +kernel
theorem dX6_readWrites_88 : decode cX6_readWrites 88 = .ok (.if_icmp .ge 33, 3) := by decide +kernel
theorem dX6_readWrites_91 : decode cX6_readWrites 91 = .ok (.aload_n 3, 1) := by decide +kernel
theorem dX6_readWrites_92 : decode cX6_readWrites 92 = .ok (.aload_n 0, 1) := by decide +kernel
theorem dX6_readWrites_93 : decode cX6_readWrites 93 = .ok (.getfield 32, 3) := by decide +kernel
theorem dX6_readWrites_96 : decode cX6_readWrites 96 = .ok (.getfield 160, 3) := by decide +kernel
theorem dX6_readWrites_99 : decode cX6_readWrites 99 = .ok (.iload 4, 2) := by decide +kernel
theorem dX6_readWrites_101 : decode cX6_readWrites 101 = .ok (.iaload, 1) := by decide +kernel
theorem dX6_readWrites_102 : decode cX6_readWrites 102 = .ok (.aload_n 0, 1) := by decide +kernel
theorem dX6_readWrites_103 : decode cX6_readWrites 103 = .ok (.getfield 32, 3) := by decide +kernel
theorem dX6_readWrites_106 : decode cX6_readWrites 106 = .ok (.getfield 162, 3) := by decide +kernel
theorem dX6_readWrites_109 : decode cX6_readWrites 109 = .ok (.iload 4, 2) := by decide +kernel
theorem dX6_readWrites_111 : decode cX6_readWrites 111 = .ok (.iaload, 1) := by decide +kernel
theorem dX6_readWrites_112 : decode cX6_readWrites 112 = .ok (.invokevirtual 124, 3) := by decide +kernel
theorem dX6_readWrites_115 : decode cX6_readWrites 115 = .ok (.iinc 4 1, 3) := by decide +kernel
theorem dX6_readWrites_118 : decode cX6_readWrites 118 = .ok (.goto (-39), 3) := by decide +kernel
theorem dX6_readWrites_121 : decode cX6_readWrites 121 = .ok (.aload_n 3, 1) := by decide +kernel
theorem dX6_readWrites_122 : decode cX6_readWrites 122 = .ok (.invokevirtual 127, 3) := by decide +kernel
theorem dX6_readWrites_125 : decode cX6_readWrites 125 = .ok (.ireturn, 1) := by decide +kernel
theorem dX6_undo_0 : decode cX6_undo 0 = .ok (.aload_n 0, 1) := by decide +kernel
theorem dX6_undo_1 : decode cX6_undo 1 = .ok (.getfield 25, 3) := by decide +kernel
theorem dX6_undo_4 : decode cX6_undo 4 = .ok (.getfield 165, 3) := by decide +kernel
theorem dX6_undo_7 : decode cX6_undo 7 = .ok (.ifCond .ne 6, 3) := by decide +kernel
theorem dX6_undo_10 : decode cX6_undo 10 = .ok (.bipush (-5), 2) := by decide +kernel
theorem dX6_undo_12 : decode cX6_undo 12 = .ok (.ireturn, 1) := by decide +kernel
theorem dX6_undo_13 : decode cX6_undo 13 = .ok (.aload_n 0, 1) := by decide +kernel
theorem dX6_undo_14 : decode cX6_undo 14 = .ok (.getfield 25, 3) := by decide +kernel
theorem dX6_undo_17 : decode cX6_undo 17 = .ok (.aload_n 0, 1) := by decide +kernel
theorem dX6_undo_18 : decode cX6_undo 18 = .ok (.getfield 12, 3) := by decide +kernel
theorem dX6_undo_21 : decode cX6_undo 21 = .ok (.invokevirtual 166, 3) := by decide +kernel
theorem dX6_undo_24 : decode cX6_undo 24 = .ok (.aload_n 0, 1) := by decide +kernel
theorem dX6_undo_25 : decode cX6_undo 25 = .ok (.getfield 25, 3) := by decide +kernel
theorem dX6_undo_28 : decode cX6_undo 28 = .ok (.getfield 165, 3) := by decide +kernel
theorem dX6_undo_31 : decode cX6_undo 31 = .ok (.ireturn, 1) := by decide +kernel
theorem dX6_keep_0 : decode cX6_keep 0 = .ok (.aload_n 0, 1) := by decide +kernel
theorem dX6_keep_1 : decode cX6_keep 1 = .ok (.getfield 19, 3) := by decide +kernel
theorem dX6_keep_4 : decode cX6_keep 4 = .ok (.aload_n 0, 1) := by decide +kernel
theorem dX6_keep_5 : decode cX6_keep 5 = .ok (.getfield 12, 3) := by decide +kernel
theorem dX6_keep_8 : decode cX6_keep 8 = .ok (.invokevirtual 169, 3) := by decide +kernel
theorem dX6_keep_11 : decode cX6_keep 11 = .ok (.aload_n 0, 1) := by decide +kernel
theorem dX6_keep_12 : decode cX6_keep 12 = .ok (.iconst 1, 1) := by decide +kernel
theorem dX6_keep_13 : decode cX6_keep 13 = .ok (.putfield 172, 3) := by decide +kernel
theorem dX6_keep_16 : decode cX6_keep 16 = .ok (.aload_n 0, 1) := by decide +kernel
theorem dX6_keep_17 : decode cX6_keep 17 = .ok (.getfield 12, 3) := by decide +kernel
theorem dX6_keep_20 : decode cX6_keep 20 = .ok (.getfield 144, 3) := by decide +kernel
theorem dX6_keep_23 : decode cX6_keep 23 = .ok (.ireturn, 1) := by decide +kernel
theorem dX6_restore_0 : decode cX6_restore 0 = .ok (.aload_n 0, 1) := by decide +kernel
theorem dX6_restore_1 : decode cX6_restore 1 = .ok (.getfield 172, 3) := by decide +kernel
theorem dX6_restore_4 : decode cX6_restore 4 = .ok (.ifCond .ne 6, 3) := by decide +kernel
theorem dX6_restore_7 : decode cX6_restore 7 = .ok (.bipush (-5), 2) := by decide +kernel
theorem dX6_restore_9 : decode cX6_restore 9 = .ok (.ireturn, 1) := by decide +kernel
theorem dX6_restore_10 : decode cX6_restore 10 = .ok (.aload_n 0, 1) := by decide +kernel
theorem dX6_restore_11 : decode cX6_restore 11 = .ok (.getfield 25, 3) := by decide +kernel
theorem dX6_restore_14 : decode cX6_restore 14 = .ok (.aload_n 0, 1) := by decide +kernel
theorem dX6_restore_15 : decode cX6_restore 15 = .ok (.getfield 12, 3) := by decide +kernel
theorem dX6_restore_18 : decode cX6_restore 18 = .ok (.invokevirtual 44, 3) := by decide +kernel
theorem dX6_restore_21 : decode cX6_restore 21 = .ok (.aload_n 0, 1) := by decide +kernel
theorem dX6_restore_22 : decode cX6_restore 22 = .ok (.getfield 12, 3) := by decide +kernel
theorem dX6_restore_25 : decode cX6_restore 25 = .ok (.aload_n 0, 1) := by decide +kernel
theorem dX6_restore_26 : decode cX6_restore 26 = .ok (.getfield 19, 3) := by decide +kernel
theorem dX6_restore_29 : decode cX6_restore 29 = .ok (.invokevirtual 169, 3) := by decide +kernel
theorem dX6_restore_32 : decode cX6_restore 32 = .ok (.aload_n 0, 1) := by decide +kernel
theorem dX6_restore_33 : decode cX6_restore 33 = .ok (.getfield 12, 3) := by decide +kernel
theorem dX6_restore_36 : decode cX6_restore 36 = .ok (.getfield 144, 3) := by decide +kernel
theorem dX6_restore_39 : decode cX6_restore 39 = .ok (.ireturn, 1) := by decide +kernel
theorem dX6_cell_0 : decode cX6_cell 0 = .ok (.iload_n 1, 1) := by decide +kernel
theorem dX6_cell_1 : decode cX6_cell 1 = .ok (.invokestatic 99, 3) := by decide +kernel
theorem dX6_cell_4 : decode cX6_cell 4 = .ok (.ifCond .ne 5, 3) := by decide +kernel
theorem dX6_cell_7 : decode cX6_cell 7 = .ok (.iconst (-1), 1) := by decide +kernel
theorem dX6_cell_8 : decode cX6_cell 8 = .ok (.ireturn, 1) := by decide +kernel
theorem dX6_cell_9 : decode cX6_cell 9 = .ok (.aload_n 0, 1) := by decide +kernel
theorem dX6_cell_10 : decode cX6_cell 10 = .ok (.getfield 12, 3) := by decide +kernel
theorem dX6_cell_13 : decode cX6_cell 13 = .ok (.getfield 112, 3) := by decide +kernel
theorem dX6_cell_16 : decode cX6_cell 16 = .ok (.iload_n 1, 1) := by decide +kernel
theorem dX6_cell_17 : decode cX6_cell 17 = .ok (.aaload, 1) := by decide +kernel
theorem dX6_cell_18 : decode cX6_cell 18 = .ok (.astore_n 3, 1) := by decide +kernel
theorem dX6_cell_19 : decode cX6_cell 19 = .ok (.iload_n 2, 1) := by decide +kernel
theorem dX6_cell_20 : decode cX6_cell 20 = .ok (.tableswitch 74 0 4 #[36, 43, 50, 55, 65], 36) := by decide +kernel
theorem dX6_cell_56 : decode cX6_cell 56 = .ok (.aload_n 3, 1) := by decide +kernel
theorem dX6_cell_57 : decode cX6_cell 57 = .ok (.getfield 175, 3) := by decide +kernel
theorem dX6_cell_60 : decode cX6_cell 60 = .ok (.iconst 0, 1) := by decide +kernel
theorem dX6_cell_61 : decode cX6_cell 61 = .ok (.iaload, 1) := by decide +kernel
theorem dX6_cell_62 : decode cX6_cell 62 = .ok (.ireturn, 1) := by decide +kernel
theorem dX6_cell_63 : decode cX6_cell 63 = .ok (.aload_n 3, 1) := by decide +kernel
theorem dX6_cell_64 : decode cX6_cell 64 = .ok (.getfield 176, 3) := by decide +kernel
theorem dX6_cell_67 : decode cX6_cell 67 = .ok (.iconst 0, 1) := by decide +kernel
theorem dX6_cell_68 : decode cX6_cell 68 = .ok (.iaload, 1) := by decide +kernel
theorem dX6_cell_69 : decode cX6_cell 69 = .ok (.ireturn, 1) := by decide +kernel
theorem dX6_cell_70 : decode cX6_cell 70 = .ok (.aload_n 3, 1) := by decide +kernel
theorem dX6_cell_71 : decode cX6_cell 71 = .ok (.getfield 179, 3) := by decide +kernel
theorem dX6_cell_74 : decode cX6_cell 74 = .ok (.ireturn, 1) := by decide +kernel
theorem dX6_cell_75 : decode cX6_cell 75 = .ok (.aload_n 0, 1) := by decide +kernel
theorem dX6_cell_76 : decode cX6_cell 76 = .ok (.getfield 12, 3) := by decide +kernel
theorem dX6_cell_79 : decode cX6_cell 79 = .ok (.aload_n 3, 1) := by decide +kernel
theorem dX6_cell_80 : decode cX6_cell 80 = .ok (.iconst 0, 1) := by decide +kernel
theorem dX6_cell_81 : decode cX6_cell 81 = .ok (.invokevirtual 182, 3) := by decide +kernel
theorem dX6_cell_84 : decode cX6_cell 84 = .ok (.ireturn, 1) := by decide +kernel
theorem dX6_cell_85 : decode cX6_cell 85 = .ok (.aload_n 0, 1) := by decide +kernel
theorem dX6_cell_86 : decode cX6_cell 86 = .ok (.getfield 12, 3) := by decide +kernel
theorem dX6_cell_89 : decode cX6_cell 89 = .ok (.iload_n 1, 1) := by decide +kernel
theorem dX6_cell_90 : decode cX6_cell 90 = .ok (.invokevirtual 186, 3) := by decide +kernel
theorem dX6_cell_93 : decode cX6_cell 93 = .ok (.ireturn, 1) := by decide +kernel
theorem dX6_cell_94 : decode cX6_cell 94 = .ok (.bipush (-2), 2) := by decide +kernel
theorem dX6_cell_96 : decode cX6_cell 96 = .ok (.ireturn, 1) := by decide +kernel
theorem dX6_version_0 : decode cX6_version 0 = .ok (.iload_n 1, 1) := by decide +kernel
theorem dX6_version_1 : decode cX6_version 1 = .ok (.invokestatic 99, 3) := by decide +kernel
theorem dX6_version_4 : decode cX6_version 4 = .ok (.ifCond .ne 5, 3) := by decide +kernel
theorem dX6_version_7 : decode cX6_version 7 = .ok (.iconst (-1), 1) := by decide +kernel
theorem dX6_version_8 : decode cX6_version 8 = .ok (.ireturn, 1) := by decide +kernel
theorem dX6_version_9 : decode cX6_version 9 = .ok (.iload_n 2, 1) := by decide +kernel
theorem dX6_version_10 : decode cX6_version 10 = .ok (.ifCond .lt 12, 3) := by decide +kernel
theorem dX6_version_13 : decode cX6_version 13 = .ok (.iload_n 3, 1) := by decide +kernel
theorem dX6_version_14 : decode cX6_version 14 = .ok (.ifCond .lt 8, 3) := by decide +kernel
theorem dX6_version_17 : decode cX6_version 17 = .ok (.iload_n 3, 1) := by decide +kernel
theorem dX6_version_18 : decode cX6_version 18 = .ok (.iconst 4, 1) := by decide +kernel
theorem dX6_version_19 : decode cX6_version 19 = .ok (.if_icmp .le 6, 3) := by decide +kernel
theorem dX6_version_22 : decode cX6_version 22 = .ok (.bipush (-2), 2) := by decide +kernel
theorem dX6_version_24 : decode cX6_version 24 = .ok (.ireturn, 1) := by decide +kernel
theorem dX6_version_25 : decode cX6_version 25 = .ok (.aload_n 0, 1) := by decide +kernel
theorem dX6_version_26 : decode cX6_version 26 = .ok (.getfield 12, 3) := by decide +kernel
theorem dX6_version_29 : decode cX6_version 29 = .ok (.getfield 112, 3) := by decide +kernel
theorem dX6_version_32 : decode cX6_version 32 = .ok (.iload_n 1, 1) := by decide +kernel
theorem dX6_version_33 : decode cX6_version 33 = .ok (.aaload, 1) := by decide +kernel
theorem dX6_version_34 : decode cX6_version 34 = .ok (.astore 4, 2) := by decide +kernel
theorem dX6_version_36 : decode cX6_version 36 = .ok (.iload_n 2, 1) := by decide +kernel
theorem dX6_version_37 : decode cX6_version 37 = .ok (.aload 4, 2) := by decide +kernel
theorem dX6_version_39 : decode cX6_version 39 = .ok (.getfield 179, 3) := by decide +kernel
theorem dX6_version_42 : decode cX6_version 42 = .ok (.if_icmp .lt 6, 3) := by decide +kernel
theorem dX6_version_45 : decode cX6_version 45 = .ok (.bipush (-5), 2) := by decide +kernel
theorem dX6_version_47 : decode cX6_version 47 = .ok (.ireturn, 1) := by decide +kernel
theorem dX6_version_48 : decode cX6_version 48 = .ok (.iload_n 3, 1) := by decide +kernel
theorem dX6_version_49 : decode cX6_version 49 = .ok (.tableswitch 69 0 3 #[31, 39, 47, 58], 31) := by decide +kernel
theorem dX6_version_80 : decode cX6_version 80 = .ok (.aload 4, 2) := by decide +kernel
theorem dX6_version_82 : decode cX6_version 82 = .ok (.getfield 175, 3) := by decide +kernel
theorem dX6_version_85 : decode cX6_version 85 = .ok (.iload_n 2, 1) := by decide +kernel
theorem dX6_version_86 : decode cX6_version 86 = .ok (.iaload, 1) := by decide +kernel
theorem dX6_version_87 : decode cX6_version 87 = .ok (.ireturn, 1) := by decide +kernel
theorem dX6_version_88 : decode cX6_version 88 = .ok (.aload 4, 2) := by decide +kernel
theorem dX6_version_90 : decode cX6_version 90 = .ok (.getfield 176, 3) := by decide +kernel
theorem dX6_version_93 : decode cX6_version 93 = .ok (.iload_n 2, 1) := by decide +kernel
theorem dX6_version_94 : decode cX6_version 94 = .ok (.iaload, 1) := by decide +kernel
theorem dX6_version_95 : decode cX6_version 95 = .ok (.ireturn, 1) := by decide +kernel
theorem dX6_version_96 : decode cX6_version 96 = .ok (.aload_n 0, 1) := by decide +kernel
theorem dX6_version_97 : decode cX6_version 97 = .ok (.getfield 12, 3) := by decide +kernel
theorem dX6_version_100 : decode cX6_version 100 = .ok (.aload 4, 2) := by decide +kernel
theorem dX6_version_102 : decode cX6_version 102 = .ok (.iload_n 2, 1) := by decide +kernel
theorem dX6_version_103 : decode cX6_version 103 = .ok (.invokevirtual 182, 3) := by decide +kernel
theorem dX6_version_106 : decode cX6_version 106 = .ok (.ireturn, 1) := by decide +kernel
theorem dX6_version_107 : decode cX6_version 107 = .ok (.aload_n 0, 1) := by decide +kernel
theorem dX6_version_108 : decode cX6_version 108 = .ok (.getfield 12, 3) := by decide +kernel
theorem dX6_version_111 : decode cX6_version 111 = .ok (.aload 4, 2) := by decide +kernel
theorem dX6_version_113 : decode cX6_version 113 = .ok (.iload_n 2, 1) := by decide +kernel
theorem dX6_version_114 : decode cX6_version 114 = .ok (.invokevirtual 189, 3) := by decide +kernel
theorem dX6_version_117 : decode cX6_version 117 = .ok (.ireturn, 1) := by decide +kernel
theorem dX6_version_118 : decode cX6_version 118 = .ok (.aload_n 0, 1) := by decide +kernel
theorem dX6_version_119 : decode cX6_version 119 = .ok (.getfield 12, 3) := by decide +kernel
theorem dX6_version_122 : decode cX6_version 122 = .ok (.aload 4, 2) := by decide +kernel
theorem dX6_version_124 : decode cX6_version 124 = .ok (.iload_n 2, 1) := by decide +kernel
theorem dX6_version_125 : decode cX6_version 125 = .ok (.invokevirtual 192, 3) := by decide +kernel
theorem dX6_version_128 : decode cX6_version 128 = .ok (.ireturn, 1) := by decide +kernel
theorem dX6_reader_0 : decode cX6_reader 0 = .ok (.aload_n 0, 1) := by decide +kernel
theorem dX6_reader_1 : decode cX6_reader 1 = .ok (.getfield 12, 3) := by decide +kernel
theorem dX6_reader_4 : decode cX6_reader 4 = .ok (.iload_n 1, 1) := by decide +kernel
theorem dX6_reader_5 : decode cX6_reader 5 = .ok (.invokevirtual 51, 3) := by decide +kernel
theorem dX6_reader_8 : decode cX6_reader 8 = .ok (.ifCond .ne 5, 3) := by decide +kernel
theorem dX6_reader_11 : decode cX6_reader 11 = .ok (.iconst (-1), 1) := by decide +kernel
theorem dX6_reader_12 : decode cX6_reader 12 = .ok (.ireturn, 1) := by decide +kernel
theorem dX6_reader_13 : decode cX6_reader 13 = .ok (.aload_n 0, 1) := by decide +kernel
theorem dX6_reader_14 : decode cX6_reader 14 = .ok (.getfield 12, 3) := by decide +kernel
theorem dX6_reader_17 : decode cX6_reader 17 = .ok (.getfield 55, 3) := by decide +kernel
theorem dX6_reader_20 : decode cX6_reader 20 = .ok (.iload_n 1, 1) := by decide +kernel
theorem dX6_reader_21 : decode cX6_reader 21 = .ok (.aaload, 1) := by decide +kernel
theorem dX6_reader_22 : decode cX6_reader 22 = .ok (.astore_n 3, 1) := by decide +kernel
theorem dX6_reader_23 : decode cX6_reader 23 = .ok (.iload_n 2, 1) := by decide +kernel
theorem dX6_reader_24 : decode cX6_reader 24 = .ok (.tableswitch 192 0 11 #[64, 69, 74, 79, 88, 93, 98, 103, 108, 128, 148, 172], 64) := by decide +kernel
theorem dX6_reader_88 : decode cX6_reader 88 = .ok (.aload_n 3, 1) := by decide +kernel
theorem dX6_reader_89 : decode cX6_reader 89 = .ok (.getfield 79, 3) := by decide +kernel
theorem dX6_reader_92 : decode cX6_reader 92 = .ok (.ireturn, 1) := by decide +kernel
theorem dX6_reader_93 : decode cX6_reader 93 = .ok (.aload_n 3, 1) := by decide +kernel
theorem dX6_reader_94 : decode cX6_reader 94 = .ok (.getfield 116, 3) := by decide +kernel
theorem dX6_reader_97 : decode cX6_reader 97 = .ok (.ireturn, 1) := by decide +kernel
theorem dX6_reader_98 : decode cX6_reader 98 = .ok (.aload_n 3, 1) := by decide +kernel
theorem dX6_reader_99 : decode cX6_reader 99 = .ok (.getfield 65, 3) := by decide +kernel
theorem dX6_reader_102 : decode cX6_reader 102 = .ok (.ireturn, 1) := by decide +kernel
theorem dX6_reader_103 : decode cX6_reader 103 = .ok (.aload_n 0, 1) := by decide +kernel
theorem dX6_reader_104 : decode cX6_reader 104 = .ok (.getfield 12, 3) := by decide +kernel
theorem dX6_reader_107 : decode cX6_reader 107 = .ok (.aload_n 3, 1) := by decide +kernel
theorem dX6_reader_108 : decode cX6_reader 108 = .ok (.invokevirtual 72, 3) := by decide +kernel
theorem dX6_reader_111 : decode cX6_reader 111 = .ok (.ireturn, 1) := by decide +kernel
theorem dX6_reader_112 : decode cX6_reader 112 = .ok (.aload_n 3, 1) := by decide +kernel
theorem dX6_reader_113 : decode cX6_reader 113 = .ok (.getfield 109, 3) := by decide +kernel
theorem dX6_reader_116 : decode cX6_reader 116 = .ok (.ireturn, 1) := by decide +kernel
theorem dX6_reader_117 : decode cX6_reader 117 = .ok (.aload_n 3, 1) := by decide +kernel
theorem dX6_reader_118 : decode cX6_reader 118 = .ok (.getfield 195, 3) := by decide +kernel
theorem dX6_reader_121 : decode cX6_reader 121 = .ok (.ireturn, 1) := by decide +kernel
theorem dX6_reader_122 : decode cX6_reader 122 = .ok (.aload_n 3, 1) := by decide +kernel
theorem dX6_reader_123 : decode cX6_reader 123 = .ok (.getfield 76, 3) := by decide +kernel
theorem dX6_reader_126 : decode cX6_reader 126 = .ok (.ireturn, 1) := by decide +kernel
theorem dX6_reader_127 : decode cX6_reader 127 = .ok (.aload_n 3, 1) := by decide +kernel
theorem dX6_reader_128 : decode cX6_reader 128 = .ok (.getfield 198, 3) := by decide +kernel
theorem dX6_reader_131 : decode cX6_reader 131 = .ok (.ireturn, 1) := by decide +kernel
theorem dX6_reader_132 : decode cX6_reader 132 = .ok (.aload_n 3, 1) := by decide +kernel
theorem dX6_reader_133 : decode cX6_reader 133 = .ok (.invokevirtual 59, 3) := by decide +kernel
theorem dX6_reader_136 : decode cX6_reader 136 = .ok (.ifCond .eq 14, 3) := by decide +kernel
theorem dX6_reader_139 : decode cX6_reader 139 = .ok (.aload_n 0, 1) := by decide +kernel
theorem dX6_reader_140 : decode cX6_reader 140 = .ok (.getfield 12, 3) := by decide +kernel
theorem dX6_reader_143 : decode cX6_reader 143 = .ok (.aload_n 3, 1) := by decide +kernel
theorem dX6_reader_144 : decode cX6_reader 144 = .ok (.invokevirtual 201, 3) := by decide +kernel
theorem dX6_reader_147 : decode cX6_reader 147 = .ok (.goto 4, 3) := by decide +kernel
theorem dX6_reader_150 : decode cX6_reader 150 = .ok (.iconst 0, 1) := by decide +kernel
theorem dX6_reader_151 : decode cX6_reader 151 = .ok (.ireturn, 1) := by decide +kernel
theorem dX6_reader_152 : decode cX6_reader 152 = .ok (.aload_n 3, 1) := by decide +kernel
theorem dX6_reader_153 : decode cX6_reader 153 = .ok (.invokevirtual 59, 3) := by decide +kernel
theorem dX6_reader_156 : decode cX6_reader 156 = .ok (.ifCond .eq 14, 3) := by decide +kernel
theorem dX6_reader_159 : decode cX6_reader 159 = .ok (.aload_n 0, 1) := by decide +kernel
theorem dX6_reader_160 : decode cX6_reader 160 = .ok (.getfield 12, 3) := by decide +kernel
theorem dX6_reader_163 : decode cX6_reader 163 = .ok (.aload_n 3, 1) := by decide +kernel
theorem dX6_reader_164 : decode cX6_reader 164 = .ok (.invokevirtual 204, 3) := by decide +kernel
theorem dX6_reader_167 : decode cX6_reader 167 = .ok (.goto 4, 3) := by decide +kernel
theorem dX6_reader_170 : decode cX6_reader 170 = .ok (.iconst 0, 1) := by decide +kernel
theorem dX6_reader_171 : decode cX6_reader 171 = .ok (.ireturn, 1) := by decide +kernel
theorem dX6_reader_172 : decode cX6_reader 172 = .ok (.aload_n 3, 1) := by decide +kernel
theorem dX6_reader_173 : decode cX6_reader 173 = .ok (.invokevirtual 59, 3) := by decide +kernel
theorem dX6_reader_176 : decode cX6_reader 176 = .ok (.ifCond .eq 18, 3) := by decide +kernel
theorem dX6_reader_179 : decode cX6_reader 179 = .ok (.aload_n 0, 1) := by decide +kernel
theorem dX6_reader_180 : decode cX6_reader 180 = .ok (.getfield 12, 3) := by decide +kernel
theorem dX6_reader_183 : decode cX6_reader 183 = .ok (.aload_n 3, 1) := by decide +kernel
theorem dX6_reader_184 : decode cX6_reader 184 = .ok (.invokevirtual 130, 3) := by decide +kernel
theorem dX6_reader_187 : decode cX6_reader 187 = .ok (.ifCond .eq 7, 3) := by decide +kernel
theorem dX6_reader_190 : decode cX6_reader 190 = .ok (.iconst 1, 1) := by decide +kernel
theorem dX6_reader_191 : decode cX6_reader 191 = .ok (.goto 4, 3) := by decide +kernel
theorem dX6_reader_194 : decode cX6_reader 194 = .ok (.iconst 0, 1) := by decide +kernel
theorem dX6_reader_195 : decode cX6_reader 195 = .ok (.ireturn, 1) := by decide +kernel
theorem dX6_reader_196 : decode cX6_reader 196 = .ok (.aload_n 3, 1) := by decide +kernel
theorem dX6_reader_197 : decode cX6_reader 197 = .ok (.invokevirtual 59, 3) := by decide +kernel
theorem dX6_reader_200 : decode cX6_reader 200 = .ok (.ifCond .eq 14, 3) := by decide +kernel
theorem dX6_reader_203 : decode cX6_reader 203 = .ok (.aload_n 0, 1) := by decide +kernel
theorem dX6_reader_204 : decode cX6_reader 204 = .ok (.getfield 12, 3) := by decide +kernel
theorem dX6_reader_207 : decode cX6_reader 207 = .ok (.aload_n 3, 1) := by decide +kernel
theorem dX6_reader_208 : decode cX6_reader 208 = .ok (.invokevirtual 134, 3) := by decide +kernel
theorem dX6_reader_211 : decode cX6_reader 211 = .ok (.goto 4, 3) := by decide +kernel
theorem dX6_reader_214 : decode cX6_reader 214 = .ok (.iconst 0, 1) := by decide +kernel
theorem dX6_reader_215 : decode cX6_reader 215 = .ok (.ireturn, 1) := by decide +kernel
theorem dX6_reader_216 : decode cX6_reader 216 = .ok (.bipush (-2), 2) := by decide +kernel
theorem dX6_reader_218 : decode cX6_reader 218 = .ok (.ireturn, 1) := by decide +kernel
theorem dX6_lasts_0 : decode cX6_lasts 0 = .ok (.aload_n 0, 1) := by decide +kernel
theorem dX6_lasts_1 : decode cX6_lasts 1 = .ok (.getfield 12, 3) := by decide +kernel
theorem dX6_lasts_4 : decode cX6_lasts 4 = .ok (.iload_n 1, 1) := by decide +kernel
theorem dX6_lasts_5 : decode cX6_lasts 5 = .ok (.invokevirtual 51, 3) := by decide +kernel
theorem dX6_lasts_8 : decode cX6_lasts 8 = .ok (.ifCond .ne 5, 3) := by decide +kernel
theorem dX6_lasts_11 : decode cX6_lasts 11 = .ok (.iconst (-1), 1) := by decide +kernel
theorem dX6_lasts_12 : decode cX6_lasts 12 = .ok (.ireturn, 1) := by decide +kernel
theorem dX6_lasts_13 : decode cX6_lasts 13 = .ok (.aload_n 0, 1) := by decide +kernel
theorem dX6_lasts_14 : decode cX6_lasts 14 = .ok (.getfield 12, 3) := by decide +kernel
theorem dX6_lasts_17 : decode cX6_lasts 17 = .ok (.getfield 55, 3) := by decide +kernel
theorem dX6_lasts_20 : decode cX6_lasts 20 = .ok (.iload_n 1, 1) := by decide +kernel
theorem dX6_lasts_21 : decode cX6_lasts 21 = .ok (.aaload, 1) := by decide +kernel
theorem dX6_lasts_22 : decode cX6_lasts 22 = .ok (.invokevirtual 59, 3) := by decide +kernel
theorem dX6_lasts_25 : decode cX6_lasts 25 = .ok (.ifCond .ne 6, 3) := by decide +kernel
theorem dX6_lasts_28 : decode cX6_lasts 28 = .ok (.bipush (-4), 2) := by decide +kernel
theorem dX6_lasts_30 : decode cX6_lasts 30 = .ok (.ireturn, 1) := by decide +kernel
theorem dX6_lasts_31 : decode cX6_lasts 31 = .ok (.aload_n 0, 1) := by decide +kernel
theorem dX6_lasts_32 : decode cX6_lasts 32 = .ok (.getfield 16, 3) := by decide +kernel
theorem dX6_lasts_35 : decode cX6_lasts 35 = .ok (.aload_n 0, 1) := by decide +kernel
theorem dX6_lasts_36 : decode cX6_lasts 36 = .ok (.getfield 12, 3) := by decide +kernel
theorem dX6_lasts_39 : decode cX6_lasts 39 = .ok (.invokevirtual 169, 3) := by decide +kernel
theorem dX6_lasts_42 : decode cX6_lasts 42 = .ok (.aload_n 0, 1) := by decide +kernel
theorem dX6_lasts_43 : decode cX6_lasts 43 = .ok (.getfield 16, 3) := by decide +kernel
theorem dX6_lasts_46 : decode cX6_lasts 46 = .ok (.sipush 200, 3) := by decide +kernel
theorem dX6_lasts_49 : decode cX6_lasts 49 = .ok (.iload_n 1, 1) := by decide +kernel
theorem dX6_lasts_50 : decode cX6_lasts 50 = .ok (.invokevirtual 95, 3) := by decide +kernel
theorem dX6_lasts_53 : decode cX6_lasts 53 = .ok (.aload_n 0, 1) := by decide +kernel
theorem dX6_lasts_54 : decode cX6_lasts 54 = .ok (.getfield 16, 3) := by decide +kernel
theorem dX6_lasts_57 : decode cX6_lasts 57 = .ok (.getfield 55, 3) := by decide +kernel
theorem dX6_lasts_60 : decode cX6_lasts 60 = .ok (.iload_n 1, 1) := by decide +kernel
theorem dX6_lasts_61 : decode cX6_lasts 61 = .ok (.aaload, 1) := by decide +kernel
theorem dX6_lasts_62 : decode cX6_lasts 62 = .ok (.invokevirtual 59, 3) := by decide +kernel
theorem dX6_lasts_65 : decode cX6_lasts 65 = .ok (.ifCond .eq 8, 3) := by decide +kernel
theorem dX6_lasts_68 : decode cX6_lasts 68 = .ok (.bipush (-5), 2) := by decide +kernel
theorem dX6_lasts_70 : decode cX6_lasts 70 = .ok (.goto 18, 3) := by decide +kernel
theorem dX6_lasts_73 : decode cX6_lasts 73 = .ok (.aload_n 0, 1) := by decide +kernel
theorem dX6_lasts_74 : decode cX6_lasts 74 = .ok (.getfield 16, 3) := by decide +kernel
theorem dX6_lasts_77 : decode cX6_lasts 77 = .ok (.getfield 207, 3) := by decide +kernel
theorem dX6_lasts_80 : decode cX6_lasts 80 = .ok (.aload_n 0, 1) := by decide +kernel
theorem dX6_lasts_81 : decode cX6_lasts 81 = .ok (.getfield 12, 3) := by decide +kernel
theorem dX6_lasts_84 : decode cX6_lasts 84 = .ok (.getfield 207, 3) := by decide +kernel
theorem dX6_lasts_87 : decode cX6_lasts 87 = .ok (.isub, 1) := by decide +kernel
theorem dX6_lasts_88 : decode cX6_lasts 88 = .ok (.ireturn, 1) := by decide +kernel
theorem dX6_committed_0 : decode cX6_committed 0 = .ok (.iload_n 1, 1) := by decide +kernel
theorem dX6_committed_1 : decode cX6_committed 1 = .ok (.ifCond .lt 14, 3) := by decide +kernel
theorem dX6_committed_4 : decode cX6_committed 4 = .ok (.iload_n 1, 1) := by decide +kernel
theorem dX6_committed_5 : decode cX6_committed 5 = .ok (.aload_n 0, 1) := by decide +kernel
theorem dX6_committed_6 : decode cX6_committed 6 = .ok (.getfield 12, 3) := by decide +kernel
theorem dX6_committed_9 : decode cX6_committed 9 = .ok (.getfield 210, 3) := by decide +kernel
theorem dX6_committed_12 : decode cX6_committed 12 = .ok (.if_icmp .lt 5, 3) := by decide +kernel
theorem dX6_committed_15 : decode cX6_committed 15 = .ok (.iconst (-1), 1) := by decide +kernel
theorem dX6_committed_16 : decode cX6_committed 16 = .ok (.ireturn, 1) := by decide +kernel
theorem dX6_committed_17 : decode cX6_committed 17 = .ok (.aload_n 0, 1) := by decide +kernel
theorem dX6_committed_18 : decode cX6_committed 18 = .ok (.getfield 12, 3) := by decide +kernel
theorem dX6_committed_21 : decode cX6_committed 21 = .ok (.getfield 213, 3) := by decide +kernel
theorem dX6_committed_24 : decode cX6_committed 24 = .ok (.iload_n 1, 1) := by decide +kernel
theorem dX6_committed_25 : decode cX6_committed 25 = .ok (.aaload, 1) := by decide +kernel
theorem dX6_committed_26 : decode cX6_committed 26 = .ok (.astore_n 3, 1) := by decide +kernel
theorem dX6_committed_27 : decode cX6_committed 27 = .ok (.iload_n 2, 1) := by decide +kernel
theorem dX6_committed_28 : decode cX6_committed 28 = .ok (.tableswitch 70 0 5 #[40, 45, 50, 55, 60, 65], 40) := by decide +kernel
theorem dX6_committed_68 : decode cX6_committed 68 = .ok (.aload_n 3, 1) := by decide +kernel
theorem dX6_committed_69 : decode cX6_committed 69 = .ok (.getfield 217, 3) := by decide +kernel
theorem dX6_committed_72 : decode cX6_committed 72 = .ok (.ireturn, 1) := by decide +kernel
theorem dX6_committed_73 : decode cX6_committed 73 = .ok (.aload_n 3, 1) := by decide +kernel
theorem dX6_committed_74 : decode cX6_committed 74 = .ok (.getfield 222, 3) := by decide +kernel
theorem dX6_committed_77 : decode cX6_committed 77 = .ok (.ireturn, 1) := by decide +kernel
theorem dX6_committed_78 : decode cX6_committed 78 = .ok (.aload_n 3, 1) := by decide +kernel
theorem dX6_committed_79 : decode cX6_committed 79 = .ok (.getfield 225, 3) := by decide +kernel
theorem dX6_committed_82 : decode cX6_committed 82 = .ok (.ireturn, 1) := by decide +kernel
theorem dX6_committed_83 : decode cX6_committed 83 = .ok (.aload_n 3, 1) := by decide +kernel
theorem dX6_committed_84 : decode cX6_committed 84 = .ok (.getfield 228, 3) := by decide +kernel
theorem dX6_committed_87 : decode cX6_committed 87 = .ok (.ireturn, 1) := by decide +kernel
theorem dX6_committed_88 : decode cX6_committed 88 = .ok (.aload_n 3, 1) := by decide +kernel
theorem dX6_committed_89 : decode cX6_committed 89 = .ok (.getfield 229, 3) := by decide +kernel
theorem dX6_committed_92 : decode cX6_committed 92 = .ok (.ireturn, 1) := by decide +kernel
theorem dX6_committed_93 : decode cX6_committed 93 = .ok (.aload_n 3, 1) := by decide +kernel
theorem dX6_committed_94 : decode cX6_committed 94 = .ok (.getfield 230, 3) := by decide +kernel
theorem dX6_committed_97 : decode cX6_committed 97 = .ok (.ireturn, 1) := by decide +kernel
theorem dX6_committed_98 : decode cX6_committed 98 = .ok (.bipush (-2), 2) := by decide +kernel
theorem dX6_committed_100 : decode cX6_committed 100 = .ok (.ireturn, 1) := by decide +kernel
theorem dX6_count_0 : decode cX6_count 0 = .ok (.iload_n 1, 1) := by decide +kernel
theorem dX6_count_1 : decode cX6_count 1 = .ok (.tableswitch 231 0 16 #[83, 91, 99, 107, 116, 125, 134, 143, 151, 159, 167, 175, 183, 191, 207, 215, 223], 83) := by decide +kernel
theorem dX6_count_84 : decode cX6_count 84 = .ok (.aload_n 0, 1) := by decide +kernel
theorem dX6_count_85 : decode cX6_count 85 = .ok (.getfield 12, 3) := by decide +kernel
theorem dX6_count_88 : decode cX6_count 88 = .ok (.getfield 144, 3) := by decide +kernel
theorem dX6_count_91 : decode cX6_count 91 = .ok (.ireturn, 1) := by decide +kernel
theorem dX6_count_92 : decode cX6_count 92 = .ok (.aload_n 0, 1) := by decide +kernel
theorem dX6_count_93 : decode cX6_count 93 = .ok (.getfield 12, 3) := by decide +kernel
theorem dX6_count_96 : decode cX6_count 96 = .ok (.getfield 207, 3) := by decide +kernel
theorem dX6_count_99 : decode cX6_count 99 = .ok (.ireturn, 1) := by decide +kernel
theorem dX6_count_100 : decode cX6_count 100 = .ok (.aload_n 0, 1) := by decide +kernel
theorem dX6_count_101 : decode cX6_count 101 = .ok (.getfield 12, 3) := by decide +kernel
theorem dX6_count_104 : decode cX6_count 104 = .ok (.getfield 36, 3) := by decide +kernel
theorem dX6_count_107 : decode cX6_count 107 = .ok (.ireturn, 1) := by decide +kernel
theorem dX6_count_108 : decode cX6_count 108 = .ok (.aload_n 0, 1) := by decide +kernel
theorem dX6_count_109 : decode cX6_count 109 = .ok (.getfield 12, 3) := by decide +kernel
theorem dX6_count_112 : decode cX6_count 112 = .ok (.iconst 0, 1) := by decide +kernel
theorem dX6_count_113 : decode cX6_count 113 = .ok (.invokevirtual 40, 3) := by decide +kernel
theorem dX6_count_116 : decode cX6_count 116 = .ok (.ireturn, 1) := by decide +kernel
theorem dX6_count_117 : decode cX6_count 117 = .ok (.aload_n 0, 1) := by decide +kernel
theorem dX6_count_118 : decode cX6_count 118 = .ok (.getfield 12, 3) := by decide +kernel
theorem dX6_count_121 : decode cX6_count 121 = .ok (.iconst 1, 1) := by decide +kernel
theorem dX6_count_122 : decode cX6_count 122 = .ok (.invokevirtual 40, 3) := by decide +kernel
theorem dX6_count_125 : decode cX6_count 125 = .ok (.ireturn, 1) := by decide +kernel
theorem dX6_count_126 : decode cX6_count 126 = .ok (.aload_n 0, 1) := by decide +kernel
theorem dX6_count_127 : decode cX6_count 127 = .ok (.getfield 12, 3) := by decide +kernel
theorem dX6_count_130 : decode cX6_count 130 = .ok (.iconst 2, 1) := by decide +kernel
theorem dX6_count_131 : decode cX6_count 131 = .ok (.invokevirtual 40, 3) := by decide +kernel
theorem dX6_count_134 : decode cX6_count 134 = .ok (.ireturn, 1) := by decide +kernel
theorem dX6_count_135 : decode cX6_count 135 = .ok (.aload_n 0, 1) := by decide +kernel
theorem dX6_count_136 : decode cX6_count 136 = .ok (.getfield 12, 3) := by decide +kernel
theorem dX6_count_139 : decode cX6_count 139 = .ok (.iconst 3, 1) := by decide +kernel
theorem dX6_count_140 : decode cX6_count 140 = .ok (.invokevirtual 40, 3) := by decide +kernel
theorem dX6_count_143 : decode cX6_count 143 = .ok (.ireturn, 1) := by decide +kernel
theorem dX6_count_144 : decode cX6_count 144 = .ok (.aload_n 0, 1) := by decide +kernel
theorem dX6_count_145 : decode cX6_count 145 = .ok (.getfield 12, 3) := by decide +kernel
theorem dX6_count_148 : decode cX6_count 148 = .ok (.invokevirtual 233, 3) := by decide +kernel
theorem dX6_count_151 : decode cX6_count 151 = .ok (.ireturn, 1) := by decide +kernel
theorem dX6_count_152 : decode cX6_count 152 = .ok (.aload_n 0, 1) := by decide +kernel
theorem dX6_count_153 : decode cX6_count 153 = .ok (.getfield 12, 3) := by decide +kernel
theorem dX6_count_156 : decode cX6_count 156 = .ok (.getfield 236, 3) := by decide +kernel
theorem dX6_count_159 : decode cX6_count 159 = .ok (.ireturn, 1) := by decide +kernel
theorem dX6_count_160 : decode cX6_count 160 = .ok (.aload_n 0, 1) := by decide +kernel
theorem dX6_count_161 : decode cX6_count 161 = .ok (.getfield 12, 3) := by decide +kernel
theorem dX6_count_164 : decode cX6_count 164 = .ok (.getfield 86, 3) := by decide +kernel
theorem dX6_count_167 : decode cX6_count 167 = .ok (.ireturn, 1) := by decide +kernel
theorem dX6_count_168 : decode cX6_count 168 = .ok (.aload_n 0, 1) := by decide +kernel
theorem dX6_count_169 : decode cX6_count 169 = .ok (.getfield 12, 3) := by decide +kernel
theorem dX6_count_172 : decode cX6_count 172 = .ok (.invokevirtual 239, 3) := by decide +kernel
theorem dX6_count_175 : decode cX6_count 175 = .ok (.ireturn, 1) := by decide +kernel
theorem dX6_count_176 : decode cX6_count 176 = .ok (.aload_n 0, 1) := by decide +kernel
theorem dX6_count_177 : decode cX6_count 177 = .ok (.getfield 12, 3) := by decide +kernel
theorem dX6_count_180 : decode cX6_count 180 = .ok (.getfield 210, 3) := by decide +kernel
theorem dX6_count_183 : decode cX6_count 183 = .ok (.ireturn, 1) := by decide +kernel
theorem dX6_count_184 : decode cX6_count 184 = .ok (.aload_n 0, 1) := by decide +kernel
theorem dX6_count_185 : decode cX6_count 185 = .ok (.getfield 12, 3) := by decide +kernel
theorem dX6_count_188 : decode cX6_count 188 = .ok (.invokevirtual 92, 3) := by decide +kernel
theorem dX6_count_191 : decode cX6_count 191 = .ok (.ireturn, 1) := by decide +kernel
theorem dX6_count_192 : decode cX6_count 192 = .ok (.aload_n 0, 1) := by decide +kernel
theorem dX6_count_193 : decode cX6_count 193 = .ok (.getfield 12, 3) := by decide +kernel
theorem dX6_count_196 : decode cX6_count 196 = .ok (.getfield 89, 3) := by decide +kernel
theorem dX6_count_199 : decode cX6_count 199 = .ok (.ifCond .eq 7, 3) := by decide +kernel
theorem dX6_count_202 : decode cX6_count 202 = .ok (.iconst 1, 1) := by decide +kernel
theorem dX6_count_203 : decode cX6_count 203 = .ok (.goto 4, 3) := by decide +kernel
theorem dX6_count_206 : decode cX6_count 206 = .ok (.iconst 0, 1) := by decide +kernel
theorem dX6_count_207 : decode cX6_count 207 = .ok (.ireturn, 1) := by decide +kernel
theorem dX6_count_208 : decode cX6_count 208 = .ok (.aload_n 0, 1) := by decide +kernel
theorem dX6_count_209 : decode cX6_count 209 = .ok (.getfield 12, 3) := by decide +kernel
theorem dX6_count_212 : decode cX6_count 212 = .ok (.invokevirtual 242, 3) := by decide +kernel
theorem dX6_count_215 : decode cX6_count 215 = .ok (.ireturn, 1) := by decide +kernel
theorem dX6_count_216 : decode cX6_count 216 = .ok (.aload_n 0, 1) := by decide +kernel
theorem dX6_count_217 : decode cX6_count 217 = .ok (.getfield 25, 3) := by decide +kernel
theorem dX6_count_220 : decode cX6_count 220 = .ok (.getfield 165, 3) := by decide +kernel
theorem dX6_count_223 : decode cX6_count 223 = .ok (.ireturn, 1) := by decide +kernel
theorem dX6_count_224 : decode cX6_count 224 = .ok (.aload_n 0, 1) := by decide +kernel
theorem dX6_count_225 : decode cX6_count 225 = .ok (.getfield 32, 3) := by decide +kernel
theorem dX6_count_228 : decode cX6_count 228 = .ok (.getfield 145, 3) := by decide +kernel
theorem dX6_count_231 : decode cX6_count 231 = .ok (.ireturn, 1) := by decide +kernel
theorem dX6_count_232 : decode cX6_count 232 = .ok (.bipush (-2), 2) := by decide +kernel
theorem dX6_count_234 : decode cX6_count 234 = .ok (.ireturn, 1) := by decide +kernel
theorem dX6_isCell_0 : decode cX6_isCell 0 = .ok (.iload_n 0, 1) := by decide +kernel
theorem dX6_isCell_1 : decode cX6_isCell 1 = .ok (.ifCond .lt 13, 3) := by decide +kernel
theorem dX6_isCell_4 : decode cX6_isCell 4 = .ok (.iload_n 0, 1) := by decide +kernel
theorem dX6_isCell_5 : decode cX6_isCell 5 = .ok (.bipush 12, 2) := by decide +kernel
theorem dX6_isCell_7 : decode cX6_isCell 7 = .ok (.if_icmp .ge 7, 3) := by decide +kernel
theorem dX6_isCell_10 : decode cX6_isCell 10 = .ok (.iconst 1, 1) := by decide +kernel
theorem dX6_isCell_11 : decode cX6_isCell 11 = .ok (.goto 4, 3) := by decide +kernel
theorem dX6_isCell_14 : decode cX6_isCell 14 = .ok (.iconst 0, 1) := by decide +kernel
theorem dX6_isCell_15 : decode cX6_isCell 15 = .ok (.ireturn, 1) := by decide +kernel
theorem dX7_init_0 : decode cX7_init 0 = .ok (.aload_n 0, 1) := by decide +kernel
theorem dX7_init_1 : decode cX7_init 1 = .ok (.invokespecial 1, 3) := by decide +kernel
theorem dX7_init_4 : decode cX7_init 4 = .ok (.aload_n 0, 1) := by decide +kernel
theorem dX7_init_5 : decode cX7_init 5 = .ok (.sipush 1201, 3) := by decide +kernel
theorem dX7_init_8 : decode cX7_init 8 = .ok (.newarray .int, 2) := by decide +kernel
theorem dX7_init_10 : decode cX7_init 10 = .ok (.putfield 7, 3) := by decide +kernel
theorem dX7_init_13 : decode cX7_init 13 = .ok (.aload_n 0, 1) := by decide +kernel
theorem dX7_init_14 : decode cX7_init 14 = .ok (.sipush 7206, 3) := by decide +kernel
theorem dX7_init_17 : decode cX7_init 17 = .ok (.newarray .int, 2) := by decide +kernel
theorem dX7_init_19 : decode cX7_init 19 = .ok (.putfield 13, 3) := by decide +kernel
theorem dX7_init_22 : decode cX7_init 22 = .ok (.aload_n 0, 1) := by decide +kernel
theorem dX7_init_23 : decode cX7_init 23 = .ok (.bipush 60, 2) := by decide +kernel
theorem dX7_init_25 : decode cX7_init 25 = .ok (.newarray .int, 2) := by decide +kernel
theorem dX7_init_27 : decode cX7_init 27 = .ok (.putfield 16, 3) := by decide +kernel
theorem dX7_init_30 : decode cX7_init 30 = .ok (.aload_n 0, 1) := by decide +kernel
theorem dX7_init_31 : decode cX7_init 31 = .ok (.bipush 30, 2) := by decide +kernel
theorem dX7_init_33 : decode cX7_init 33 = .ok (.newarray .int, 2) := by decide +kernel
theorem dX7_init_35 : decode cX7_init 35 = .ok (.putfield 19, 3) := by decide +kernel
theorem dX7_init_38 : decode cX7_init 38 = .ok (.aload_n 0, 1) := by decide +kernel
theorem dX7_init_39 : decode cX7_init 39 = .ok (.bipush 30, 2) := by decide +kernel
theorem dX7_init_41 : decode cX7_init 41 = .ok (.newarray .int, 2) := by decide +kernel
theorem dX7_init_43 : decode cX7_init 43 = .ok (.putfield 22, 3) := by decide +kernel
theorem dX7_init_46 : decode cX7_init 46 = .ok (.aload_n 0, 1) := by decide +kernel
theorem dX7_init_47 : decode cX7_init 47 = .ok (.bipush 40, 2) := by decide +kernel
theorem dX7_init_49 : decode cX7_init 49 = .ok (.newarray .int, 2) := by decide +kernel
theorem dX7_init_51 : decode cX7_init 51 = .ok (.putfield 25, 3) := by decide +kernel
theorem dX7_init_54 : decode cX7_init 54 = .ok (.aload_n 0, 1) := by decide +kernel
theorem dX7_init_55 : decode cX7_init 55 = .ok (.getfield 7, 3) := by decide +kernel
theorem dX7_init_58 : decode cX7_init 58 = .ok (.iconst 4, 1) := by decide +kernel
theorem dX7_init_59 : decode cX7_init 59 = .ok (.iconst 4, 1) := by decide +kernel
theorem dX7_init_60 : decode cX7_init 60 = .ok (.iastore, 1) := by decide +kernel
theorem dX7_init_61 : decode cX7_init 61 = .ok (.aload_n 0, 1) := by decide +kernel
theorem dX7_init_62 : decode cX7_init 62 = .ok (.getfield 7, 3) := by decide +kernel
theorem dX7_init_65 : decode cX7_init 65 = .ok (.bipush 8, 2) := by decide +kernel
theorem dX7_init_67 : decode cX7_init 67 = .ok (.bipush 12, 2) := by decide +kernel
theorem dX7_init_69 : decode cX7_init 69 = .ok (.iastore, 1) := by decide +kernel
theorem dX7_init_70 : decode cX7_init 70 = .ok (.iconst 0, 1) := by decide +kernel
theorem dX7_init_71 : decode cX7_init 71 = .ok (.istore_n 1, 1) := by decide +kernel
theorem dX7_init_72 : decode cX7_init 72 = .ok (.iload_n 1, 1) := by decide +kernel
theorem dX7_init_73 : decode cX7_init 73 = .ok (.bipush 12, 2) := by decide +kernel
theorem dX7_init_75 : decode cX7_init 75 = .ok (.if_icmp .ge 24, 3) := by decide +kernel
theorem dX7_init_78 : decode cX7_init 78 = .ok (.aload_n 0, 1) := by decide +kernel
theorem dX7_init_79 : decode cX7_init 79 = .ok (.getfield 7, 3) := by decide +kernel
theorem dX7_init_82 : decode cX7_init 82 = .ok (.sipush 809, 3) := by decide +kernel
theorem dX7_init_85 : decode cX7_init 85 = .ok (.iconst 3, 1) := by decide +kernel
theorem dX7_init_86 : decode cX7_init 86 = .ok (.iload_n 1, 1) := by decide +kernel
theorem dX7_init_87 : decode cX7_init 87 = .ok (.imul, 1) := by decide +kernel
theorem dX7_init_88 : decode cX7_init 88 = .ok (.iadd, 1) := by decide +kernel
theorem dX7_init_89 : decode cX7_init 89 = .ok (.iconst 0, 1) := by decide +kernel
theorem dX7_init_90 : decode cX7_init 90 = .ok (.iadd, 1) := by decide +kernel
theorem dX7_init_91 : decode cX7_init 91 = .ok (.iload_n 1, 1) := by decide +kernel
theorem dX7_init_92 : decode cX7_init 92 = .ok (.iastore, 1) := by decide +kernel
theorem dX7_init_93 : decode cX7_init 93 = .ok (.iinc 1 1, 3) := by decide +kernel
theorem dX7_init_96 : decode cX7_init 96 = .ok (.goto (-24), 3) := by decide +kernel
theorem dX7_init_99 : decode cX7_init 99 = .ok (.return_, 1) := by decide +kernel
theorem dX7_isIn_0 : decode cX7_isIn 0 = .ok (.iload_n 0, 1) := by decide +kernel
theorem dX7_isIn_1 : decode cX7_isIn 1 = .ok (.iload_n 1, 1) := by decide +kernel
theorem dX7_isIn_2 : decode cX7_isIn 2 = .ok (.if_icmp .lt 12, 3) := by decide +kernel
theorem dX7_isIn_5 : decode cX7_isIn 5 = .ok (.iload_n 0, 1) := by decide +kernel
theorem dX7_isIn_6 : decode cX7_isIn 6 = .ok (.iload_n 2, 1) := by decide +kernel
theorem dX7_isIn_7 : decode cX7_isIn 7 = .ok (.if_icmp .gt 7, 3) := by decide +kernel
theorem dX7_isIn_10 : decode cX7_isIn 10 = .ok (.iconst 1, 1) := by decide +kernel
theorem dX7_isIn_11 : decode cX7_isIn 11 = .ok (.goto 4, 3) := by decide +kernel
theorem dX7_isIn_14 : decode cX7_isIn 14 = .ok (.iconst 0, 1) := by decide +kernel
theorem dX7_isIn_15 : decode cX7_isIn 15 = .ok (.ireturn, 1) := by decide +kernel
theorem dX7_has_0 : decode cX7_has 0 = .ok (.iload_n 0, 1) := by decide +kernel
theorem dX7_has_1 : decode cX7_has 1 = .ok (.iload_n 1, 1) := by decide +kernel
theorem dX7_has_2 : decode cX7_has 2 = .ok (.ishr, 1) := by decide +kernel
theorem dX7_has_3 : decode cX7_has 3 = .ok (.iconst 1, 1) := by decide +kernel
theorem dX7_has_4 : decode cX7_has 4 = .ok (.iand, 1) := by decide +kernel
theorem dX7_has_5 : decode cX7_has 5 = .ok (.iconst 1, 1) := by decide +kernel
theorem dX7_has_6 : decode cX7_has 6 = .ok (.if_icmp .ne 7, 3) := by decide +kernel
theorem dX7_has_9 : decode cX7_has 9 = .ok (.iconst 1, 1) := by decide +kernel
theorem dX7_has_10 : decode cX7_has 10 = .ok (.goto 4, 3) := by decide +kernel
theorem dX7_has_13 : decode cX7_has 13 = .ok (.iconst 0, 1) := by decide +kernel
theorem dX7_has_14 : decode cX7_has 14 = .ok (.ireturn, 1) := by decide +kernel
theorem dX7_ones_0 : decode cX7_ones 0 = .ok (.iconst 0, 1) := by decide +kernel
theorem dX7_ones_1 : decode cX7_ones 1 = .ok (.istore_n 1, 1) := by decide +kernel
theorem dX7_ones_2 : decode cX7_ones 2 = .ok (.iconst 0, 1) := by decide +kernel
theorem dX7_ones_3 : decode cX7_ones 3 = .ok (.istore_n 2, 1) := by decide +kernel
theorem dX7_ones_4 : decode cX7_ones 4 = .ok (.iload_n 2, 1) := by decide +kernel
theorem dX7_ones_5 : decode cX7_ones 5 = .ok (.bipush 12, 2) := by decide +kernel
theorem dX7_ones_7 : decode cX7_ones 7 = .ok (.if_icmp .ge 17, 3) := by decide +kernel
theorem dX7_ones_10 : decode cX7_ones 10 = .ok (.iload_n 1, 1) := by decide +kernel
theorem dX7_ones_11 : decode cX7_ones 11 = .ok (.iload_n 0, 1) := by decide +kernel
theorem dX7_ones_12 : decode cX7_ones 12 = .ok (.iload_n 2, 1) := by decide +kernel
theorem dX7_ones_13 : decode cX7_ones 13 = .ok (.ishr, 1) := by decide +kernel
theorem dX7_ones_14 : decode cX7_ones 14 = .ok (.iconst 1, 1) := by decide +kernel
theorem dX7_ones_15 : decode cX7_ones 15 = .ok (.iand, 1) := by decide +kernel
theorem dX7_ones_16 : decode cX7_ones 16 = .ok (.iadd, 1) := by decide +kernel
theorem dX7_ones_17 : decode cX7_ones 17 = .ok (.istore_n 1, 1) := by decide +kernel
theorem dX7_ones_18 : decode cX7_ones 18 = .ok (.iinc 2 1, 3) := by decide +kernel
theorem dX7_ones_21 : decode cX7_ones 21 = .ok (.goto (-17), 3) := by decide +kernel
theorem dX7_ones_24 : decode cX7_ones 24 = .ok (.iload_n 1, 1) := by decide +kernel
theorem dX7_ones_25 : decode cX7_ones 25 = .ok (.ireturn, 1) := by decide +kernel
theorem dX7_ofR_0 : decode cX7_ofR 0 = .ok (.aload_n 0, 1) := by decide +kernel
theorem dX7_ofR_1 : decode cX7_ofR 1 = .ok (.getfield 7, 3) := by decide +kernel
theorem dX7_ofR_4 : decode cX7_ofR 4 = .ok (.bipush 9, 2) := by decide +kernel
theorem dX7_ofR_6 : decode cX7_ofR 6 = .ok (.bipush 20, 2) := by decide +kernel
theorem dX7_ofR_8 : decode cX7_ofR 8 = .ok (.iload_n 1, 1) := by decide +kernel
theorem dX7_ofR_9 : decode cX7_ofR 9 = .ok (.imul, 1) := by decide +kernel
theorem dX7_ofR_10 : decode cX7_ofR 10 = .ok (.iadd, 1) := by decide +kernel
theorem dX7_ofR_11 : decode cX7_ofR 11 = .ok (.iload_n 2, 1) := by decide +kernel
theorem dX7_ofR_12 : decode cX7_ofR 12 = .ok (.iadd, 1) := by decide +kernel
theorem dX7_ofR_13 : decode cX7_ofR 13 = .ok (.iaload, 1) := by decide +kernel
theorem dX7_ofR_14 : decode cX7_ofR 14 = .ok (.ireturn, 1) := by decide +kernel
theorem dX7_setsR_0 : decode cX7_setsR 0 = .ok (.aload_n 0, 1) := by decide +kernel
theorem dX7_setsR_1 : decode cX7_setsR 1 = .ok (.getfield 7, 3) := by decide +kernel
theorem dX7_setsR_4 : decode cX7_setsR 4 = .ok (.bipush 9, 2) := by decide +kernel
theorem dX7_setsR_6 : decode cX7_setsR 6 = .ok (.bipush 20, 2) := by decide +kernel
theorem dX7_setsR_8 : decode cX7_setsR 8 = .ok (.iload_n 1, 1) := by decide +kernel
theorem dX7_setsR_9 : decode cX7_setsR 9 = .ok (.imul, 1) := by decide +kernel
theorem dX7_setsR_10 : decode cX7_setsR 10 = .ok (.iadd, 1) := by decide +kernel
theorem dX7_setsR_11 : decode cX7_setsR 11 = .ok (.iload_n 2, 1) := by decide +kernel
theorem dX7_setsR_12 : decode cX7_setsR 12 = .ok (.iadd, 1) := by decide +kernel
theorem dX7_setsR_13 : decode cX7_setsR 13 = .ok (.iload_n 3, 1) := by decide +kernel
theorem dX7_setsR_14 : decode cX7_setsR 14 = .ok (.iastore, 1) := by decide +kernel
theorem dX7_setsR_15 : decode cX7_setsR 15 = .ok (.return_, 1) := by decide +kernel
theorem dX7_ofV_0 : decode cX7_ofV 0 = .ok (.aload_n 0, 1) := by decide +kernel
theorem dX7_ofV_1 : decode cX7_ofV 1 = .ok (.getfield 7, 3) := by decide +kernel
theorem dX7_ofV_4 : decode cX7_ofV 4 = .ok (.sipush 809, 3) := by decide +kernel
theorem dX7_ofV_7 : decode cX7_ofV 7 = .ok (.iconst 3, 1) := by decide +kernel
theorem dX7_ofV_8 : decode cX7_ofV 8 = .ok (.iload_n 1, 1) := by decide +kernel
theorem dX7_ofV_9 : decode cX7_ofV 9 = .ok (.imul, 1) := by decide +kernel
theorem dX7_ofV_10 : decode cX7_ofV 10 = .ok (.iadd, 1) := by decide +kernel
theorem dX7_ofV_11 : decode cX7_ofV 11 = .ok (.iload_n 2, 1) := by decide +kernel
theorem dX7_ofV_12 : decode cX7_ofV 12 = .ok (.iadd, 1) := by decide +kernel
theorem dX7_ofV_13 : decode cX7_ofV 13 = .ok (.iaload, 1) := by decide +kernel
theorem dX7_ofV_14 : decode cX7_ofV 14 = .ok (.ireturn, 1) := by decide +kernel
theorem dX7_ofC_0 : decode cX7_ofC 0 = .ok (.aload_n 0, 1) := by decide +kernel
theorem dX7_ofC_1 : decode cX7_ofC 1 = .ok (.getfield 7, 3) := by decide +kernel
theorem dX7_ofC_4 : decode cX7_ofC 4 = .ok (.sipush 1001, 3) := by decide +kernel
theorem dX7_ofC_7 : decode cX7_ofC 7 = .ok (.iconst 5, 1) := by decide +kernel
theorem dX7_ofC_8 : decode cX7_ofC 8 = .ok (.iload_n 1, 1) := by decide +kernel
theorem dX7_ofC_9 : decode cX7_ofC 9 = .ok (.imul, 1) := by decide +kernel
theorem dX7_ofC_10 : decode cX7_ofC 10 = .ok (.iadd, 1) := by decide +kernel
theorem dX7_ofC_11 : decode cX7_ofC 11 = .ok (.iload_n 2, 1) := by decide +kernel
theorem dX7_ofC_12 : decode cX7_ofC 12 = .ok (.iadd, 1) := by decide +kernel
theorem dX7_ofC_13 : decode cX7_ofC 13 = .ok (.iaload, 1) := by decide +kernel
theorem dX7_ofC_14 : decode cX7_ofC 14 = .ok (.ireturn, 1) := by decide +kernel
theorem dX7_isCell_0 : decode cX7_isCell 0 = .ok (.iload_n 0, 1) := by decide +kernel
theorem dX7_isCell_1 : decode cX7_isCell 1 = .ok (.iconst 0, 1) := by decide +kernel
theorem dX7_isCell_2 : decode cX7_isCell 2 = .ok (.bipush 11, 2) := by decide +kernel
theorem dX7_isCell_4 : decode cX7_isCell 4 = .ok (.invokestatic 28, 3) := by decide +kernel
theorem dX7_isCell_7 : decode cX7_isCell 7 = .ok (.ireturn, 1) := by decide +kernel
theorem dX7_isReader_0 : decode cX7_isReader 0 = .ok (.iload_n 1, 1) := by decide +kernel
theorem dX7_isReader_1 : decode cX7_isReader 1 = .ok (.iconst 0, 1) := by decide +kernel
theorem dX7_isReader_2 : decode cX7_isReader 2 = .ok (.aload_n 0, 1) := by decide +kernel
theorem dX7_isReader_3 : decode cX7_isReader 3 = .ok (.getfield 7, 3) := by decide +kernel
theorem dX7_isReader_6 : decode cX7_isReader 6 = .ok (.iconst 2, 1) := by decide +kernel
theorem dX7_isReader_7 : decode cX7_isReader 7 = .ok (.iaload, 1) := by decide +kernel
theorem dX7_isReader_8 : decode cX7_isReader 8 = .ok (.iconst 1, 1) := by decide +kernel
theorem dX7_isReader_9 : decode cX7_isReader 9 = .ok (.isub, 1) := by decide +kernel
theorem dX7_isReader_10 : decode cX7_isReader 10 = .ok (.invokestatic 28, 3) := by decide +kernel
theorem dX7_isReader_13 : decode cX7_isReader 13 = .ok (.ireturn, 1) := by decide +kernel
theorem dX7_isOpen_0 : decode cX7_isOpen 0 = .ok (.aload_n 0, 1) := by decide +kernel
theorem dX7_isOpen_1 : decode cX7_isOpen 1 = .ok (.iload_n 1, 1) := by decide +kernel
theorem dX7_isOpen_2 : decode cX7_isOpen 2 = .ok (.iconst 2, 1) := by decide +kernel
theorem dX7_isOpen_3 : decode cX7_isOpen 3 = .ok (.invokevirtual 32, 3) := by decide +kernel
theorem dX7_isOpen_6 : decode cX7_isOpen 6 = .ok (.ifCond .ne 7, 3) := by decide +kernel
theorem dX7_isOpen_9 : decode cX7_isOpen 9 = .ok (.iconst 1, 1) := by decide +kernel
theorem dX7_isOpen_10 : decode cX7_isOpen 10 = .ok (.goto 4, 3) := by decide +kernel
theorem dX7_isOpen_13 : decode cX7_isOpen 13 = .ok (.iconst 0, 1) := by decide +kernel
theorem dX7_isOpen_14 : decode cX7_isOpen 14 = .ok (.ireturn, 1) := by decide +kernel
theorem dX7_keeps_0 : decode cX7_keeps 0 = .ok (.iconst 0, 1) := by decide +kernel
theorem dX7_keeps_1 : decode cX7_keeps 1 = .ok (.istore_n 2, 1) := by decide +kernel
theorem dX7_keeps_2 : decode cX7_keeps 2 = .ok (.iload_n 2, 1) := by decide +kernel
theorem dX7_keeps_3 : decode cX7_keeps 3 = .ok (.sipush 1201, 3) := by decide +kernel
theorem dX7_keeps_6 : decode cX7_keeps 6 = .ok (.if_icmp .ge 27, 3) := by decide +kernel
theorem dX7_keeps_9 : decode cX7_keeps 9 = .ok (.aload_n 0, 1) := by decide +kernel
theorem dX7_keeps_10 : decode cX7_keeps 10 = .ok (.getfield 13, 3) := by decide +kernel
theorem dX7_keeps_13 : decode cX7_keeps 13 = .ok (.iload_n 1, 1) := by decide +kernel
theorem dX7_keeps_14 : decode cX7_keeps 14 = .ok (.sipush 1201, 3) := by decide +kernel
theorem dX7_keeps_17 : decode cX7_keeps 17 = .ok (.imul, 1) := by decide +kernel
theorem dX7_keeps_18 : decode cX7_keeps 18 = .ok (.iload_n 2, 1) := by decide +kernel
theorem dX7_keeps_19 : decode cX7_keeps 19 = .ok (.iadd, 1) := by decide +kernel
theorem dX7_keeps_20 : decode cX7_keeps 20 = .ok (.aload_n 0, 1) := by decide +kernel
theorem dX7_keeps_21 : decode cX7_keeps 21 = .ok (.getfield 7, 3) := by decide +kernel
theorem dX7_keeps_24 : decode cX7_keeps 24 = .ok (.iload_n 2, 1) := by decide +kernel
theorem dX7_keeps_25 : decode cX7_keeps 25 = .ok (.iaload, 1) := by decide +kernel
theorem dX7_keeps_26 : decode cX7_keeps 26 = .ok (.iastore, 1) := by decide +kernel
theorem dX7_keeps_27 : decode cX7_keeps 27 = .ok (.iinc 2 1, 3) := by decide +kernel
theorem dX7_keeps_30 : decode cX7_keeps 30 = .ok (.goto (-28), 3) := by decide +kernel
theorem dX7_keeps_33 : decode cX7_keeps 33 = .ok (.return_, 1) := by decide +kernel
theorem dX7_brings_0 : decode cX7_brings 0 = .ok (.iconst 0, 1) := by decide +kernel
theorem dX7_brings_1 : decode cX7_brings 1 = .ok (.istore_n 2, 1) := by decide +kernel
theorem dX7_brings_2 : decode cX7_brings 2 = .ok (.iload_n 2, 1) := by decide +kernel
theorem dX7_brings_3 : decode cX7_brings 3 = .ok (.sipush 1201, 3) := by decide +kernel
theorem dX7_brings_6 : decode cX7_brings 6 = .ok (.if_icmp .ge 27, 3) := by decide +kernel
theorem dX7_brings_9 : decode cX7_brings 9 = .ok (.aload_n 0, 1) := by decide +kernel
theorem dX7_brings_10 : decode cX7_brings 10 = .ok (.getfield 7, 3) := by decide +kernel
theorem dX7_brings_13 : decode cX7_brings 13 = .ok (.iload_n 2, 1) := by decide +kernel
theorem dX7_brings_14 : decode cX7_brings 14 = .ok (.aload_n 0, 1) := by decide +kernel
theorem dX7_brings_15 : decode cX7_brings 15 = .ok (.getfield 13, 3) := by decide +kernel
theorem dX7_brings_18 : decode cX7_brings 18 = .ok (.iload_n 1, 1) := by decide +kernel
theorem dX7_brings_19 : decode cX7_brings 19 = .ok (.sipush 1201, 3) := by decide +kernel
theorem dX7_brings_22 : decode cX7_brings 22 = .ok (.imul, 1) := by decide +kernel
theorem dX7_brings_23 : decode cX7_brings 23 = .ok (.iload_n 2, 1) := by decide +kernel
theorem dX7_brings_24 : decode cX7_brings 24 = .ok (.iadd, 1) := by decide +kernel
theorem dX7_brings_25 : decode cX7_brings 25 = .ok (.iaload, 1) := by decide +kernel
theorem dX7_brings_26 : decode cX7_brings 26 = .ok (.iastore, 1) := by decide +kernel
theorem dX7_brings_27 : decode cX7_brings 27 = .ok (.iinc 2 1, 3) := by decide +kernel
theorem dX7_brings_30 : decode cX7_brings 30 = .ok (.goto (-28), 3) := by decide +kernel
theorem dX7_brings_33 : decode cX7_brings 33 = .ok (.return_, 1) := by decide +kernel
theorem dX7_records_0 : decode cX7_records 0 = .ok (.aload_n 0, 1) := by decide +kernel
theorem dX7_records_1 : decode cX7_records 1 = .ok (.getfield 36, 3) := by decide +kernel
theorem dX7_records_4 : decode cX7_records 4 = .ok (.iconst 4, 1) := by decide +kernel
theorem dX7_records_5 : decode cX7_records 5 = .ok (.if_icmp .ne 44, 3) := by decide +kernel
theorem dX7_records_8 : decode cX7_records 8 = .ok (.iconst 0, 1) := by decide +kernel
theorem dX7_records_9 : decode cX7_records 9 = .ok (.istore_n 1, 1) := by decide +kernel
theorem dX7_records_10 : decode cX7_records 10 = .ok (.iload_n 1, 1) := by decide +kernel
theorem dX7_records_11 : decode cX7_records 11 = .ok (.sipush 3603, 3) := by decide +kernel
theorem dX7_records_14 : decode cX7_records 14 = .ok (.if_icmp .ge 25, 3) := by decide +kernel
theorem dX7_records_17 : decode cX7_records 17 = .ok (.aload_n 0, 1) := by decide +kernel
theorem dX7_records_18 : decode cX7_records 18 = .ok (.getfield 13, 3) := by decide +kernel
theorem dX7_records_21 : decode cX7_records 21 = .ok (.iload_n 1, 1) := by decide +kernel
theorem dX7_records_22 : decode cX7_records 22 = .ok (.aload_n 0, 1) := by decide +kernel
theorem dX7_records_23 : decode cX7_records 23 = .ok (.getfield 13, 3) := by decide +kernel
theorem dX7_records_26 : decode cX7_records 26 = .ok (.iload_n 1, 1) := by decide +kernel
theorem dX7_records_27 : decode cX7_records 27 = .ok (.sipush 1201, 3) := by decide +kernel
theorem dX7_records_30 : decode cX7_records 30 = .ok (.iadd, 1) := by decide +kernel
theorem dX7_records_31 : decode cX7_records 31 = .ok (.iaload, 1) := by decide +kernel
theorem dX7_records_32 : decode cX7_records 32 = .ok (.iastore, 1) := by decide +kernel
theorem dX7_records_33 : decode cX7_records 33 = .ok (.iinc 1 1, 3) := by decide +kernel
