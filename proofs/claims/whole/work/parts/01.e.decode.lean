theorem dX7_type_32 : decode cX7_type 32 = .ok (.aload_n 0, 1) := by decide +kernel
theorem dX7_type_33 : decode cX7_type 33 = .ok (.getfield 145, 3) := by decide +kernel
theorem dX7_type_36 : decode cX7_type 36 = .ok (.ireturn, 1) := by decide +kernel
theorem dX7_clearText_0 : decode cX7_clearText 0 = .ok (.aload_n 0, 1) := by decide +kernel
theorem dX7_clearText_1 : decode cX7_clearText 1 = .ok (.getfield 145, 3) := by decide +kernel
theorem dX7_clearText_4 : decode cX7_clearText 4 = .ok (.istore_n 1, 1) := by decide +kernel
theorem dX7_clearText_5 : decode cX7_clearText 5 = .ok (.aload_n 0, 1) := by decide +kernel
theorem dX7_clearText_6 : decode cX7_clearText 6 = .ok (.iconst 0, 1) := by decide +kernel
theorem dX7_clearText_7 : decode cX7_clearText 7 = .ok (.putfield 145, 3) := by decide +kernel
theorem dX7_clearText_10 : decode cX7_clearText 10 = .ok (.iload_n 1, 1) := by decide +kernel
theorem dX7_clearText_11 : decode cX7_clearText 11 = .ok (.ireturn, 1) := by decide +kernel
theorem dX7_isHere_0 : decode cX7_isHere 0 = .ok (.aload_n 0, 1) := by decide +kernel
theorem dX7_isHere_1 : decode cX7_isHere 1 = .ok (.getfield 148, 3) := by decide +kernel
theorem dX7_isHere_4 : decode cX7_isHere 4 = .ok (.aload_n 0, 1) := by decide +kernel
theorem dX7_isHere_5 : decode cX7_isHere 5 = .ok (.getfield 145, 3) := by decide +kernel
theorem dX7_isHere_8 : decode cX7_isHere 8 = .ok (.if_icmp .ge 24, 3) := by decide +kernel
theorem dX7_isHere_11 : decode cX7_isHere 11 = .ok (.aload_n 0, 1) := by decide +kernel
theorem dX7_isHere_12 : decode cX7_isHere 12 = .ok (.getfield 16, 3) := by decide +kernel
theorem dX7_isHere_15 : decode cX7_isHere 15 = .ok (.aload_n 0, 1) := by decide +kernel
theorem dX7_isHere_16 : decode cX7_isHere 16 = .ok (.getfield 148, 3) := by decide +kernel
theorem dX7_isHere_19 : decode cX7_isHere 19 = .ok (.iaload, 1) := by decide +kernel
theorem dX7_isHere_20 : decode cX7_isHere 20 = .ok (.iload_n 1, 1) := by decide +kernel
theorem dX7_isHere_21 : decode cX7_isHere 21 = .ok (.iload_n 2, 1) := by decide +kernel
theorem dX7_isHere_22 : decode cX7_isHere 22 = .ok (.invokestatic 28, 3) := by decide +kernel
theorem dX7_isHere_25 : decode cX7_isHere 25 = .ok (.ifCond .eq 7, 3) := by decide +kernel
theorem dX7_isHere_28 : decode cX7_isHere 28 = .ok (.iconst 1, 1) := by decide +kernel
theorem dX7_isHere_29 : decode cX7_isHere 29 = .ok (.goto 4, 3) := by decide +kernel
theorem dX7_isHere_32 : decode cX7_isHere 32 = .ok (.iconst 0, 1) := by decide +kernel
theorem dX7_isHere_33 : decode cX7_isHere 33 = .ok (.ireturn, 1) := by decide +kernel
theorem dX7_passesNumber_0 : decode cX7_passesNumber 0 = .ok (.aload_n 0, 1) := by decide +kernel
theorem dX7_passesNumber_1 : decode cX7_passesNumber 1 = .ok (.bipush 48, 2) := by decide +kernel
theorem dX7_passesNumber_3 : decode cX7_passesNumber 3 = .ok (.bipush 57, 2) := by decide +kernel
theorem dX7_passesNumber_5 : decode cX7_passesNumber 5 = .ok (.invokevirtual 151, 3) := by decide +kernel
theorem dX7_passesNumber_8 : decode cX7_passesNumber 8 = .ok (.ifCond .ne 5, 3) := by decide +kernel
theorem dX7_passesNumber_11 : decode cX7_passesNumber 11 = .ok (.iconst 0, 1) := by decide +kernel
theorem dX7_passesNumber_12 : decode cX7_passesNumber 12 = .ok (.ireturn, 1) := by decide +kernel
theorem dX7_passesNumber_13 : decode cX7_passesNumber 13 = .ok (.aload_n 0, 1) := by decide +kernel
theorem dX7_passesNumber_14 : decode cX7_passesNumber 14 = .ok (.getfield 16, 3) := by decide +kernel
theorem dX7_passesNumber_17 : decode cX7_passesNumber 17 = .ok (.aload_n 0, 1) := by decide +kernel
theorem dX7_passesNumber_18 : decode cX7_passesNumber 18 = .ok (.getfield 148, 3) := by decide +kernel
theorem dX7_passesNumber_21 : decode cX7_passesNumber 21 = .ok (.iaload, 1) := by decide +kernel
theorem dX7_passesNumber_22 : decode cX7_passesNumber 22 = .ok (.bipush 48, 2) := by decide +kernel
theorem dX7_passesNumber_24 : decode cX7_passesNumber 24 = .ok (.isub, 1) := by decide +kernel
theorem dX7_passesNumber_25 : decode cX7_passesNumber 25 = .ok (.istore_n 2, 1) := by decide +kernel
theorem dX7_passesNumber_26 : decode cX7_passesNumber 26 = .ok (.aload_n 0, 1) := by decide +kernel
theorem dX7_passesNumber_27 : decode cX7_passesNumber 27 = .ok (.dup, 1) := by decide +kernel
theorem dX7_passesNumber_28 : decode cX7_passesNumber 28 = .ok (.getfield 148, 3) := by decide +kernel
theorem dX7_passesNumber_31 : decode cX7_passesNumber 31 = .ok (.iconst 1, 1) := by decide +kernel
theorem dX7_passesNumber_32 : decode cX7_passesNumber 32 = .ok (.iadd, 1) := by decide +kernel
theorem dX7_passesNumber_33 : decode cX7_passesNumber 33 = .ok (.putfield 148, 3) := by decide +kernel
theorem dX7_passesNumber_36 : decode cX7_passesNumber 36 = .ok (.iconst 1, 1) := by decide +kernel
theorem dX7_passesNumber_37 : decode cX7_passesNumber 37 = .ok (.istore_n 3, 1) := by decide +kernel
theorem dX7_passesNumber_38 : decode cX7_passesNumber 38 = .ok (.iload_n 3, 1) := by decide +kernel
theorem dX7_passesNumber_39 : decode cX7_passesNumber 39 = .ok (.iload_n 1, 1) := by decide +kernel
theorem dX7_passesNumber_40 : decode cX7_passesNumber 40 = .ok (.if_icmp .ge 52, 3) := by decide +kernel
theorem dX7_passesNumber_43 : decode cX7_passesNumber 43 = .ok (.iload_n 2, 1) := by decide +kernel
theorem dX7_passesNumber_44 : decode cX7_passesNumber 44 = .ok (.ifCond .le 48, 3) := by decide +kernel
theorem dX7_passesNumber_47 : decode cX7_passesNumber 47 = .ok (.aload_n 0, 1) := by decide +kernel
theorem dX7_passesNumber_48 : decode cX7_passesNumber 48 = .ok (.bipush 48, 2) := by decide +kernel
theorem dX7_passesNumber_50 : decode cX7_passesNumber 50 = .ok (.bipush 57, 2) := by decide +kernel
theorem dX7_passesNumber_52 : decode cX7_passesNumber 52 = .ok (.invokevirtual 151, 3) := by decide +kernel
theorem dX7_passesNumber_55 : decode cX7_passesNumber 55 = .ok (.ifCond .eq 37, 3) := by decide +kernel
theorem dX7_passesNumber_58 : decode cX7_passesNumber 58 = .ok (.bipush 10, 2) := by decide +kernel
theorem dX7_passesNumber_60 : decode cX7_passesNumber 60 = .ok (.iload_n 2, 1) := by decide +kernel
theorem dX7_passesNumber_61 : decode cX7_passesNumber 61 = .ok (.imul, 1) := by decide +kernel
theorem dX7_passesNumber_62 : decode cX7_passesNumber 62 = .ok (.aload_n 0, 1) := by decide +kernel
theorem dX7_passesNumber_63 : decode cX7_passesNumber 63 = .ok (.getfield 16, 3) := by decide +kernel
theorem dX7_passesNumber_66 : decode cX7_passesNumber 66 = .ok (.aload_n 0, 1) := by decide +kernel
theorem dX7_passesNumber_67 : decode cX7_passesNumber 67 = .ok (.getfield 148, 3) := by decide +kernel
theorem dX7_passesNumber_70 : decode cX7_passesNumber 70 = .ok (.iaload, 1) := by decide +kernel
theorem dX7_passesNumber_71 : decode cX7_passesNumber 71 = .ok (.iadd, 1) := by decide +kernel
theorem dX7_passesNumber_72 : decode cX7_passesNumber 72 = .ok (.bipush 48, 2) := by decide +kernel
theorem dX7_passesNumber_74 : decode cX7_passesNumber 74 = .ok (.isub, 1) := by decide +kernel
theorem dX7_passesNumber_75 : decode cX7_passesNumber 75 = .ok (.istore_n 2, 1) := by decide +kernel
theorem dX7_passesNumber_76 : decode cX7_passesNumber 76 = .ok (.aload_n 0, 1) := by decide +kernel
theorem dX7_passesNumber_77 : decode cX7_passesNumber 77 = .ok (.dup, 1) := by decide +kernel
theorem dX7_passesNumber_78 : decode cX7_passesNumber 78 = .ok (.getfield 148, 3) := by decide +kernel
theorem dX7_passesNumber_81 : decode cX7_passesNumber 81 = .ok (.iconst 1, 1) := by decide +kernel
theorem dX7_passesNumber_82 : decode cX7_passesNumber 82 = .ok (.iadd, 1) := by decide +kernel
theorem dX7_passesNumber_83 : decode cX7_passesNumber 83 = .ok (.putfield 148, 3) := by decide +kernel
theorem dX7_passesNumber_86 : decode cX7_passesNumber 86 = .ok (.iinc 3 1, 3) := by decide +kernel
theorem dX7_passesNumber_89 : decode cX7_passesNumber 89 = .ok (.goto (-51), 3) := by decide +kernel
theorem dX7_passesNumber_92 : decode cX7_passesNumber 92 = .ok (.aload_n 0, 1) := by decide +kernel
theorem dX7_passesNumber_93 : decode cX7_passesNumber 93 = .ok (.iload_n 2, 1) := by decide +kernel
theorem dX7_passesNumber_94 : decode cX7_passesNumber 94 = .ok (.putfield 154, 3) := by decide +kernel
theorem dX7_passesNumber_97 : decode cX7_passesNumber 97 = .ok (.iconst 1, 1) := by decide +kernel
theorem dX7_passesNumber_98 : decode cX7_passesNumber 98 = .ok (.ireturn, 1) := by decide +kernel
theorem dX7_passesSign_0 : decode cX7_passesSign 0 = .ok (.aload_n 0, 1) := by decide +kernel
theorem dX7_passesSign_1 : decode cX7_passesSign 1 = .ok (.iload_n 1, 1) := by decide +kernel
theorem dX7_passesSign_2 : decode cX7_passesSign 2 = .ok (.iload_n 1, 1) := by decide +kernel
theorem dX7_passesSign_3 : decode cX7_passesSign 3 = .ok (.invokevirtual 151, 3) := by decide +kernel
theorem dX7_passesSign_6 : decode cX7_passesSign 6 = .ok (.istore_n 2, 1) := by decide +kernel
theorem dX7_passesSign_7 : decode cX7_passesSign 7 = .ok (.aload_n 0, 1) := by decide +kernel
theorem dX7_passesSign_8 : decode cX7_passesSign 8 = .ok (.dup, 1) := by decide +kernel
theorem dX7_passesSign_9 : decode cX7_passesSign 9 = .ok (.getfield 148, 3) := by decide +kernel
theorem dX7_passesSign_12 : decode cX7_passesSign 12 = .ok (.iload_n 2, 1) := by decide +kernel
theorem dX7_passesSign_13 : decode cX7_passesSign 13 = .ok (.ifCond .eq 7, 3) := by decide +kernel
theorem dX7_passesSign_16 : decode cX7_passesSign 16 = .ok (.iconst 1, 1) := by decide +kernel
theorem dX7_passesSign_17 : decode cX7_passesSign 17 = .ok (.goto 4, 3) := by decide +kernel
theorem dX7_passesSign_20 : decode cX7_passesSign 20 = .ok (.iconst 0, 1) := by decide +kernel
theorem dX7_passesSign_21 : decode cX7_passesSign 21 = .ok (.iadd, 1) := by decide +kernel
theorem dX7_passesSign_22 : decode cX7_passesSign 22 = .ok (.putfield 148, 3) := by decide +kernel
theorem dX7_passesSign_25 : decode cX7_passesSign 25 = .ok (.iload_n 2, 1) := by decide +kernel
theorem dX7_passesSign_26 : decode cX7_passesSign 26 = .ok (.ireturn, 1) := by decide +kernel
theorem dX7_passesWrite_0 : decode cX7_passesWrite 0 = .ok (.aload_n 0, 1) := by decide +kernel
theorem dX7_passesWrite_1 : decode cX7_passesWrite 1 = .ok (.iconst 2, 1) := by decide +kernel
theorem dX7_passesWrite_2 : decode cX7_passesWrite 2 = .ok (.invokevirtual 157, 3) := by decide +kernel
theorem dX7_passesWrite_5 : decode cX7_passesWrite 5 = .ok (.ifCond .ne 5, 3) := by decide +kernel
theorem dX7_passesWrite_8 : decode cX7_passesWrite 8 = .ok (.iconst 0, 1) := by decide +kernel
theorem dX7_passesWrite_9 : decode cX7_passesWrite 9 = .ok (.ireturn, 1) := by decide +kernel
theorem dX7_passesWrite_10 : decode cX7_passesWrite 10 = .ok (.aload_n 0, 1) := by decide +kernel
theorem dX7_passesWrite_11 : decode cX7_passesWrite 11 = .ok (.getfield 19, 3) := by decide +kernel
theorem dX7_passesWrite_14 : decode cX7_passesWrite 14 = .ok (.aload_n 0, 1) := by decide +kernel
theorem dX7_passesWrite_15 : decode cX7_passesWrite 15 = .ok (.getfield 160, 3) := by decide +kernel
theorem dX7_passesWrite_18 : decode cX7_passesWrite 18 = .ok (.aload_n 0, 1) := by decide +kernel
theorem dX7_passesWrite_19 : decode cX7_passesWrite 19 = .ok (.getfield 154, 3) := by decide +kernel
theorem dX7_passesWrite_22 : decode cX7_passesWrite 22 = .ok (.iastore, 1) := by decide +kernel
theorem dX7_passesWrite_23 : decode cX7_passesWrite 23 = .ok (.aload_n 0, 1) := by decide +kernel
theorem dX7_passesWrite_24 : decode cX7_passesWrite 24 = .ok (.bipush 61, 2) := by decide +kernel
theorem dX7_passesWrite_26 : decode cX7_passesWrite 26 = .ok (.invokevirtual 162, 3) := by decide +kernel
theorem dX7_passesWrite_29 : decode cX7_passesWrite 29 = .ok (.ifCond .eq 11, 3) := by decide +kernel
theorem dX7_passesWrite_32 : decode cX7_passesWrite 32 = .ok (.aload_n 0, 1) := by decide +kernel
theorem dX7_passesWrite_33 : decode cX7_passesWrite 33 = .ok (.iconst 4, 1) := by decide +kernel
theorem dX7_passesWrite_34 : decode cX7_passesWrite 34 = .ok (.invokevirtual 157, 3) := by decide +kernel
theorem dX7_passesWrite_37 : decode cX7_passesWrite 37 = .ok (.ifCond .ne 5, 3) := by decide +kernel
theorem dX7_passesWrite_40 : decode cX7_passesWrite 40 = .ok (.iconst 0, 1) := by decide +kernel
theorem dX7_passesWrite_41 : decode cX7_passesWrite 41 = .ok (.ireturn, 1) := by decide +kernel
theorem dX7_passesWrite_42 : decode cX7_passesWrite 42 = .ok (.aload_n 0, 1) := by decide +kernel
theorem dX7_passesWrite_43 : decode cX7_passesWrite 43 = .ok (.getfield 22, 3) := by decide +kernel
theorem dX7_passesWrite_46 : decode cX7_passesWrite 46 = .ok (.aload_n 0, 1) := by decide +kernel
theorem dX7_passesWrite_47 : decode cX7_passesWrite 47 = .ok (.getfield 160, 3) := by decide +kernel
theorem dX7_passesWrite_50 : decode cX7_passesWrite 50 = .ok (.aload_n 0, 1) := by decide +kernel
theorem dX7_passesWrite_51 : decode cX7_passesWrite 51 = .ok (.getfield 154, 3) := by decide +kernel
theorem dX7_passesWrite_54 : decode cX7_passesWrite 54 = .ok (.iastore, 1) := by decide +kernel
theorem dX7_passesWrite_55 : decode cX7_passesWrite 55 = .ok (.aload_n 0, 1) := by decide +kernel
theorem dX7_passesWrite_56 : decode cX7_passesWrite 56 = .ok (.dup, 1) := by decide +kernel
theorem dX7_passesWrite_57 : decode cX7_passesWrite 57 = .ok (.getfield 160, 3) := by decide +kernel
theorem dX7_passesWrite_60 : decode cX7_passesWrite 60 = .ok (.iconst 1, 1) := by decide +kernel
theorem dX7_passesWrite_61 : decode cX7_passesWrite 61 = .ok (.iadd, 1) := by decide +kernel
theorem dX7_passesWrite_62 : decode cX7_passesWrite 62 = .ok (.putfield 160, 3) := by decide +kernel
theorem dX7_passesWrite_65 : decode cX7_passesWrite 65 = .ok (.iconst 1, 1) := by decide +kernel
theorem dX7_passesWrite_66 : decode cX7_passesWrite 66 = .ok (.ireturn, 1) := by decide +kernel
theorem dX7_faultOf_0 : decode cX7_faultOf 0 = .ok (.aload_n 0, 1) := by decide +kernel
theorem dX7_faultOf_1 : decode cX7_faultOf 1 = .ok (.iconst 0, 1) := by decide +kernel
theorem dX7_faultOf_2 : decode cX7_faultOf 2 = .ok (.putfield 148, 3) := by decide +kernel
theorem dX7_faultOf_5 : decode cX7_faultOf 5 = .ok (.aload_n 0, 1) := by decide +kernel
theorem dX7_faultOf_6 : decode cX7_faultOf 6 = .ok (.iconst 0, 1) := by decide +kernel
theorem dX7_faultOf_7 : decode cX7_faultOf 7 = .ok (.putfield 160, 3) := by decide +kernel
theorem dX7_faultOf_10 : decode cX7_faultOf 10 = .ok (.aload_n 0, 1) := by decide +kernel
theorem dX7_faultOf_11 : decode cX7_faultOf 11 = .ok (.invokevirtual 165, 3) := by decide +kernel
theorem dX7_faultOf_14 : decode cX7_faultOf 14 = .ok (.ifCond .ne 8, 3) := by decide +kernel
theorem dX7_faultOf_17 : decode cX7_faultOf 17 = .ok (.aload_n 0, 1) := by decide +kernel
theorem dX7_faultOf_18 : decode cX7_faultOf 18 = .ok (.getfield 148, 3) := by decide +kernel
theorem dX7_faultOf_21 : decode cX7_faultOf 21 = .ok (.ireturn, 1) := by decide +kernel
theorem dX7_faultOf_22 : decode cX7_faultOf 22 = .ok (.aload_n 0, 1) := by decide +kernel
theorem dX7_faultOf_23 : decode cX7_faultOf 23 = .ok (.getfield 148, 3) := by decide +kernel
theorem dX7_faultOf_26 : decode cX7_faultOf 26 = .ok (.aload_n 0, 1) := by decide +kernel
theorem dX7_faultOf_27 : decode cX7_faultOf 27 = .ok (.getfield 145, 3) := by decide +kernel
theorem dX7_faultOf_30 : decode cX7_faultOf 30 = .ok (.if_icmp .ge 24, 3) := by decide +kernel
theorem dX7_faultOf_33 : decode cX7_faultOf 33 = .ok (.aload_n 0, 1) := by decide +kernel
theorem dX7_faultOf_34 : decode cX7_faultOf 34 = .ok (.bipush 59, 2) := by decide +kernel
theorem dX7_faultOf_36 : decode cX7_faultOf 36 = .ok (.invokevirtual 162, 3) := by decide +kernel
theorem dX7_faultOf_39 : decode cX7_faultOf 39 = .ok (.ifCond .eq 10, 3) := by decide +kernel
theorem dX7_faultOf_42 : decode cX7_faultOf 42 = .ok (.aload_n 0, 1) := by decide +kernel
theorem dX7_faultOf_43 : decode cX7_faultOf 43 = .ok (.invokevirtual 165, 3) := by decide +kernel
theorem dX7_faultOf_46 : decode cX7_faultOf 46 = .ok (.ifCond .ne (-24), 3) := by decide +kernel
theorem dX7_faultOf_49 : decode cX7_faultOf 49 = .ok (.aload_n 0, 1) := by decide +kernel
theorem dX7_faultOf_50 : decode cX7_faultOf 50 = .ok (.getfield 148, 3) := by decide +kernel
theorem dX7_faultOf_53 : decode cX7_faultOf 53 = .ok (.ireturn, 1) := by decide +kernel
theorem dX7_faultOf_54 : decode cX7_faultOf 54 = .ok (.bipush (-5), 2) := by decide +kernel
theorem dX7_faultOf_56 : decode cX7_faultOf 56 = .ok (.ireturn, 1) := by decide +kernel
theorem dX7_readWrites_0 : decode cX7_readWrites 0 = .ok (.aload_n 0, 1) := by decide +kernel
theorem dX7_readWrites_1 : decode cX7_readWrites 1 = .ok (.iload_n 1, 1) := by decide +kernel
theorem dX7_readWrites_2 : decode cX7_readWrites 2 = .ok (.invokevirtual 92, 3) := by decide +kernel
theorem dX7_readWrites_5 : decode cX7_readWrites 5 = .ok (.ifCond .ne 5, 3) := by decide +kernel
theorem dX7_readWrites_8 : decode cX7_readWrites 8 = .ok (.iconst (-1), 1) := by decide +kernel
theorem dX7_readWrites_9 : decode cX7_readWrites 9 = .ok (.ireturn, 1) := by decide +kernel
theorem dX7_readWrites_10 : decode cX7_readWrites 10 = .ok (.aload_n 0, 1) := by decide +kernel
theorem dX7_readWrites_11 : decode cX7_readWrites 11 = .ok (.invokevirtual 169, 3) := by decide +kernel
theorem dX7_readWrites_14 : decode cX7_readWrites 14 = .ok (.istore_n 2, 1) := by decide +kernel
theorem dX7_readWrites_15 : decode cX7_readWrites 15 = .ok (.iload_n 2, 1) := by decide +kernel
theorem dX7_readWrites_16 : decode cX7_readWrites 16 = .ok (.bipush (-5), 2) := by decide +kernel
theorem dX7_readWrites_18 : decode cX7_readWrites 18 = .ok (.if_icmp .eq 8, 3) := by decide +kernel
theorem dX7_readWrites_21 : decode cX7_readWrites 21 = .ok (.bipush (-100), 2) := by decide +kernel
theorem dX7_readWrites_23 : decode cX7_readWrites 23 = .ok (.iload_n 2, 1) := by decide +kernel
theorem dX7_readWrites_24 : decode cX7_readWrites 24 = .ok (.isub, 1) := by decide +kernel
theorem dX7_readWrites_25 : decode cX7_readWrites 25 = .ok (.ireturn, 1) := by decide +kernel
theorem dX7_readWrites_26 : decode cX7_readWrites 26 = .ok (.iconst 0, 1) := by decide +kernel
theorem dX7_readWrites_27 : decode cX7_readWrites 27 = .ok (.istore_n 3, 1) := by decide +kernel
theorem dX7_readWrites_28 : decode cX7_readWrites 28 = .ok (.iload_n 3, 1) := by decide +kernel
theorem dX7_readWrites_29 : decode cX7_readWrites 29 = .ok (.aload_n 0, 1) := by decide +kernel
theorem dX7_readWrites_30 : decode cX7_readWrites 30 = .ok (.getfield 160, 3) := by decide +kernel
theorem dX7_readWrites_33 : decode cX7_readWrites 33 = .ok (.if_icmp .ge 23, 3) := by decide +kernel
theorem dX7_readWrites_36 : decode cX7_readWrites 36 = .ok (.aload_n 0, 1) := by decide +kernel
theorem dX7_readWrites_37 : decode cX7_readWrites 37 = .ok (.getfield 19, 3) := by decide +kernel
theorem dX7_readWrites_40 : decode cX7_readWrites 40 = .ok (.iload_n 3, 1) := by decide +kernel
theorem dX7_readWrites_41 : decode cX7_readWrites 41 = .ok (.iaload, 1) := by decide +kernel
theorem dX7_readWrites_42 : decode cX7_readWrites 42 = .ok (.invokestatic 108, 3) := by decide +kernel
theorem dX7_readWrites_45 : decode cX7_readWrites 45 = .ok (.ifCond .ne 5, 3) := by decide +kernel
theorem dX7_readWrites_48 : decode cX7_readWrites 48 = .ok (.iconst (-1), 1) := by decide +kernel
theorem dX7_readWrites_49 : decode cX7_readWrites 49 = .ok (.ireturn, 1) := by decide +kernel
theorem dX7_readWrites_50 : decode cX7_readWrites 50 = .ok (.iinc 3 1, 3) := by decide +kernel
theorem dX7_readWrites_53 : decode cX7_readWrites 53 = .ok (.goto (-25), 3) := by decide +kernel
theorem dX7_readWrites_56 : decode cX7_readWrites 56 = .ok (.aload_n 0, 1) := by decide +kernel
theorem dX7_readWrites_57 : decode cX7_readWrites 57 = .ok (.iload_n 1, 1) := by decide +kernel
theorem dX7_readWrites_58 : decode cX7_readWrites 58 = .ok (.invokevirtual 64, 3) := by decide +kernel
theorem dX7_readWrites_61 : decode cX7_readWrites 61 = .ok (.ifCond .ne 6, 3) := by decide +kernel
theorem dX7_readWrites_64 : decode cX7_readWrites 64 = .ok (.bipush (-4), 2) := by decide +kernel
theorem dX7_readWrites_66 : decode cX7_readWrites 66 = .ok (.ireturn, 1) := by decide +kernel
theorem dX7_readWrites_67 : decode cX7_readWrites 67 = .ok (.aload_n 0, 1) := by decide +kernel
theorem dX7_readWrites_68 : decode cX7_readWrites 68 = .ok (.invokevirtual 51, 3) := by decide +kernel
theorem dX7_readWrites_71 : decode cX7_readWrites 71 = .ok (.iconst 0, 1) := by decide +kernel
theorem dX7_readWrites_72 : decode cX7_readWrites 72 = .ok (.istore_n 3, 1) := by decide +kernel
theorem dX7_readWrites_73 : decode cX7_readWrites 73 = .ok (.iload_n 3, 1) := by decide +kernel
theorem dX7_readWrites_74 : decode cX7_readWrites 74 = .ok (.aload_n 0, 1) := by decide +kernel
theorem dX7_readWrites_75 : decode cX7_readWrites 75 = .ok (.getfield 160, 3) := by decide +kernel
theorem dX7_readWrites_78 : decode cX7_readWrites 78 = .ok (.if_icmp .ge 26, 3) := by decide +kernel
theorem dX7_readWrites_81 : decode cX7_readWrites 81 = .ok (.aload_n 0, 1) := by decide +kernel
theorem dX7_readWrites_82 : decode cX7_readWrites 82 = .ok (.iload_n 1, 1) := by decide +kernel
theorem dX7_readWrites_83 : decode cX7_readWrites 83 = .ok (.aload_n 0, 1) := by decide +kernel
theorem dX7_readWrites_84 : decode cX7_readWrites 84 = .ok (.getfield 19, 3) := by decide +kernel
theorem dX7_readWrites_87 : decode cX7_readWrites 87 = .ok (.iload_n 3, 1) := by decide +kernel
theorem dX7_readWrites_88 : decode cX7_readWrites 88 = .ok (.iaload, 1) := by decide +kernel
theorem dX7_readWrites_89 : decode cX7_readWrites 89 = .ok (.aload_n 0, 1) := by decide +kernel
theorem dX7_readWrites_90 : decode cX7_readWrites 90 = .ok (.getfield 22, 3) := by decide +kernel
theorem dX7_readWrites_93 : decode cX7_readWrites 93 = .ok (.iload_n 3, 1) := by decide +kernel
theorem dX7_readWrites_94 : decode cX7_readWrites 94 = .ok (.iaload, 1) := by decide +kernel
theorem dX7_readWrites_95 : decode cX7_readWrites 95 = .ok (.invokevirtual 114, 3) := by decide +kernel
theorem dX7_readWrites_98 : decode cX7_readWrites 98 = .ok (.iinc 3 1, 3) := by decide +kernel
theorem dX7_readWrites_101 : decode cX7_readWrites 101 = .ok (.goto (-28), 3) := by decide +kernel
theorem dX7_readWrites_104 : decode cX7_readWrites 104 = .ok (.aload_n 0, 1) := by decide +kernel
theorem dX7_readWrites_105 : decode cX7_readWrites 105 = .ok (.iload_n 1, 1) := by decide +kernel
theorem dX7_readWrites_106 : decode cX7_readWrites 106 = .ok (.iconst 4, 1) := by decide +kernel
theorem dX7_readWrites_107 : decode cX7_readWrites 107 = .ok (.invokevirtual 32, 3) := by decide +kernel
theorem dX7_readWrites_110 : decode cX7_readWrites 110 = .ok (.invokestatic 117, 3) := by decide +kernel
theorem dX7_readWrites_113 : decode cX7_readWrites 113 = .ok (.ireturn, 1) := by decide +kernel
theorem dX7_versionsOf_0 : decode cX7_versionsOf 0 = .ok (.iconst 0, 1) := by decide +kernel
theorem dX7_versionsOf_1 : decode cX7_versionsOf 1 = .ok (.istore_n 2, 1) := by decide +kernel
theorem dX7_versionsOf_2 : decode cX7_versionsOf 2 = .ok (.iconst 0, 1) := by decide +kernel
theorem dX7_versionsOf_3 : decode cX7_versionsOf 3 = .ok (.istore_n 3, 1) := by decide +kernel
theorem dX7_versionsOf_4 : decode cX7_versionsOf 4 = .ok (.iload_n 3, 1) := by decide +kernel
theorem dX7_versionsOf_5 : decode cX7_versionsOf 5 = .ok (.aload_n 0, 1) := by decide +kernel
theorem dX7_versionsOf_6 : decode cX7_versionsOf 6 = .ok (.getfield 7, 3) := by decide +kernel
theorem dX7_versionsOf_9 : decode cX7_versionsOf 9 = .ok (.bipush 8, 2) := by decide +kernel
theorem dX7_versionsOf_11 : decode cX7_versionsOf 11 = .ok (.iaload, 1) := by decide +kernel
theorem dX7_versionsOf_12 : decode cX7_versionsOf 12 = .ok (.if_icmp .ge 27, 3) := by decide +kernel
theorem dX7_versionsOf_15 : decode cX7_versionsOf 15 = .ok (.iload_n 2, 1) := by decide +kernel
theorem dX7_versionsOf_16 : decode cX7_versionsOf 16 = .ok (.aload_n 0, 1) := by decide +kernel
theorem dX7_versionsOf_17 : decode cX7_versionsOf 17 = .ok (.iload_n 3, 1) := by decide +kernel
theorem dX7_versionsOf_18 : decode cX7_versionsOf 18 = .ok (.iconst 0, 1) := by decide +kernel
theorem dX7_versionsOf_19 : decode cX7_versionsOf 19 = .ok (.invokevirtual 54, 3) := by decide +kernel
theorem dX7_versionsOf_22 : decode cX7_versionsOf 22 = .ok (.iload_n 1, 1) := by decide +kernel
theorem dX7_versionsOf_23 : decode cX7_versionsOf 23 = .ok (.if_icmp .ne 7, 3) := by decide +kernel
theorem dX7_versionsOf_26 : decode cX7_versionsOf 26 = .ok (.iconst 1, 1) := by decide +kernel
theorem dX7_versionsOf_27 : decode cX7_versionsOf 27 = .ok (.goto 4, 3) := by decide +kernel
theorem dX7_versionsOf_30 : decode cX7_versionsOf 30 = .ok (.iconst 0, 1) := by decide +kernel
theorem dX7_versionsOf_31 : decode cX7_versionsOf 31 = .ok (.iadd, 1) := by decide +kernel
theorem dX7_versionsOf_32 : decode cX7_versionsOf 32 = .ok (.istore_n 2, 1) := by decide +kernel
theorem dX7_versionsOf_33 : decode cX7_versionsOf 33 = .ok (.iinc 3 1, 3) := by decide +kernel
theorem dX7_versionsOf_36 : decode cX7_versionsOf 36 = .ok (.goto (-32), 3) := by decide +kernel
theorem dX7_versionsOf_39 : decode cX7_versionsOf 39 = .ok (.iload_n 2, 1) := by decide +kernel
theorem dX7_versionsOf_40 : decode cX7_versionsOf 40 = .ok (.ireturn, 1) := by decide +kernel
theorem dX7_writers_0 : decode cX7_writers 0 = .ok (.iconst 0, 1) := by decide +kernel
theorem dX7_writers_1 : decode cX7_writers 1 = .ok (.istore_n 2, 1) := by decide +kernel
theorem dX7_writers_2 : decode cX7_writers 2 = .ok (.iconst 0, 1) := by decide +kernel
theorem dX7_writers_3 : decode cX7_writers 3 = .ok (.istore_n 3, 1) := by decide +kernel
theorem dX7_writers_4 : decode cX7_writers 4 = .ok (.iload_n 3, 1) := by decide +kernel
theorem dX7_writers_5 : decode cX7_writers 5 = .ok (.aload_n 0, 1) := by decide +kernel
theorem dX7_writers_6 : decode cX7_writers 6 = .ok (.getfield 7, 3) := by decide +kernel
theorem dX7_writers_9 : decode cX7_writers 9 = .ok (.iconst 2, 1) := by decide +kernel
theorem dX7_writers_10 : decode cX7_writers 10 = .ok (.iaload, 1) := by decide +kernel
theorem dX7_writers_11 : decode cX7_writers 11 = .ok (.if_icmp .ge 38, 3) := by decide +kernel
theorem dX7_writers_14 : decode cX7_writers 14 = .ok (.iload_n 2, 1) := by decide +kernel
theorem dX7_writers_15 : decode cX7_writers 15 = .ok (.aload_n 0, 1) := by decide +kernel
theorem dX7_writers_16 : decode cX7_writers 16 = .ok (.iload_n 3, 1) := by decide +kernel
theorem dX7_writers_17 : decode cX7_writers 17 = .ok (.invokevirtual 64, 3) := by decide +kernel
theorem dX7_writers_20 : decode cX7_writers 20 = .ok (.ifCond .eq 20, 3) := by decide +kernel
theorem dX7_writers_23 : decode cX7_writers 23 = .ok (.aload_n 0, 1) := by decide +kernel
theorem dX7_writers_24 : decode cX7_writers 24 = .ok (.iload_n 3, 1) := by decide +kernel
theorem dX7_writers_25 : decode cX7_writers 25 = .ok (.iconst 4, 1) := by decide +kernel
theorem dX7_writers_26 : decode cX7_writers 26 = .ok (.invokevirtual 32, 3) := by decide +kernel
theorem dX7_writers_29 : decode cX7_writers 29 = .ok (.iload_n 1, 1) := by decide +kernel
theorem dX7_writers_30 : decode cX7_writers 30 = .ok (.invokestatic 111, 3) := by decide +kernel
theorem dX7_writers_33 : decode cX7_writers 33 = .ok (.ifCond .eq 7, 3) := by decide +kernel
theorem dX7_writers_36 : decode cX7_writers 36 = .ok (.iconst 1, 1) := by decide +kernel
theorem dX7_writers_37 : decode cX7_writers 37 = .ok (.goto 4, 3) := by decide +kernel
theorem dX7_writers_40 : decode cX7_writers 40 = .ok (.iconst 0, 1) := by decide +kernel
theorem dX7_writers_41 : decode cX7_writers 41 = .ok (.iadd, 1) := by decide +kernel
theorem dX7_writers_42 : decode cX7_writers 42 = .ok (.istore_n 2, 1) := by decide +kernel
theorem dX7_writers_43 : decode cX7_writers 43 = .ok (.iinc 3 1, 3) := by decide +kernel
theorem dX7_writers_46 : decode cX7_writers 46 = .ok (.goto (-42), 3) := by decide +kernel
theorem dX7_writers_49 : decode cX7_writers 49 = .ok (.iload_n 2, 1) := by decide +kernel
theorem dX7_writers_50 : decode cX7_writers 50 = .ok (.ireturn, 1) := by decide +kernel
theorem dX7_cell_0 : decode cX7_cell 0 = .ok (.iload_n 1, 1) := by decide +kernel
theorem dX7_cell_1 : decode cX7_cell 1 = .ok (.invokestatic 108, 3) := by decide +kernel
theorem dX7_cell_4 : decode cX7_cell 4 = .ok (.ifCond .ne 5, 3) := by decide +kernel
theorem dX7_cell_7 : decode cX7_cell 7 = .ok (.iconst (-1), 1) := by decide +kernel
theorem dX7_cell_8 : decode cX7_cell 8 = .ok (.ireturn, 1) := by decide +kernel
theorem dX7_cell_9 : decode cX7_cell 9 = .ok (.iload_n 2, 1) := by decide +kernel
theorem dX7_cell_10 : decode cX7_cell 10 = .ok (.tableswitch 79 0 4 #[34, 45, 56, 62, 73], 34) := by decide +kernel
theorem dX7_cell_44 : decode cX7_cell 44 = .ok (.aload_n 0, 1) := by decide +kernel
theorem dX7_cell_45 : decode cX7_cell 45 = .ok (.aload_n 0, 1) := by decide +kernel
theorem dX7_cell_46 : decode cX7_cell 46 = .ok (.iload_n 1, 1) := by decide +kernel
theorem dX7_cell_47 : decode cX7_cell 47 = .ok (.invokevirtual 60, 3) := by decide +kernel
theorem dX7_cell_50 : decode cX7_cell 50 = .ok (.iconst 2, 1) := by decide +kernel
theorem dX7_cell_51 : decode cX7_cell 51 = .ok (.invokevirtual 54, 3) := by decide +kernel
theorem dX7_cell_54 : decode cX7_cell 54 = .ok (.ireturn, 1) := by decide +kernel
theorem dX7_cell_55 : decode cX7_cell 55 = .ok (.aload_n 0, 1) := by decide +kernel
theorem dX7_cell_56 : decode cX7_cell 56 = .ok (.aload_n 0, 1) := by decide +kernel
theorem dX7_cell_57 : decode cX7_cell 57 = .ok (.iload_n 1, 1) := by decide +kernel
theorem dX7_cell_58 : decode cX7_cell 58 = .ok (.invokevirtual 60, 3) := by decide +kernel
theorem dX7_cell_61 : decode cX7_cell 61 = .ok (.iconst 1, 1) := by decide +kernel
theorem dX7_cell_62 : decode cX7_cell 62 = .ok (.invokevirtual 54, 3) := by decide +kernel
theorem dX7_cell_65 : decode cX7_cell 65 = .ok (.ireturn, 1) := by decide +kernel
theorem dX7_cell_66 : decode cX7_cell 66 = .ok (.aload_n 0, 1) := by decide +kernel
theorem dX7_cell_67 : decode cX7_cell 67 = .ok (.iload_n 1, 1) := by decide +kernel
theorem dX7_cell_68 : decode cX7_cell 68 = .ok (.invokevirtual 172, 3) := by decide +kernel
theorem dX7_cell_71 : decode cX7_cell 71 = .ok (.ireturn, 1) := by decide +kernel
theorem dX7_cell_72 : decode cX7_cell 72 = .ok (.aload_n 0, 1) := by decide +kernel
theorem dX7_cell_73 : decode cX7_cell 73 = .ok (.aload_n 0, 1) := by decide +kernel
theorem dX7_cell_74 : decode cX7_cell 74 = .ok (.iload_n 1, 1) := by decide +kernel
theorem dX7_cell_75 : decode cX7_cell 75 = .ok (.invokevirtual 60, 3) := by decide +kernel
theorem dX7_cell_78 : decode cX7_cell 78 = .ok (.iconst 1, 1) := by decide +kernel
theorem dX7_cell_79 : decode cX7_cell 79 = .ok (.invokevirtual 75, 3) := by decide +kernel
theorem dX7_cell_82 : decode cX7_cell 82 = .ok (.ireturn, 1) := by decide +kernel
theorem dX7_cell_83 : decode cX7_cell 83 = .ok (.aload_n 0, 1) := by decide +kernel
theorem dX7_cell_84 : decode cX7_cell 84 = .ok (.iload_n 1, 1) := by decide +kernel
theorem dX7_cell_85 : decode cX7_cell 85 = .ok (.invokevirtual 175, 3) := by decide +kernel
theorem dX7_cell_88 : decode cX7_cell 88 = .ok (.ireturn, 1) := by decide +kernel
theorem dX7_cell_89 : decode cX7_cell 89 = .ok (.bipush (-2), 2) := by decide +kernel
theorem dX7_cell_91 : decode cX7_cell 91 = .ok (.ireturn, 1) := by decide +kernel
theorem dX7_version_0 : decode cX7_version 0 = .ok (.iload_n 1, 1) := by decide +kernel
theorem dX7_version_1 : decode cX7_version 1 = .ok (.invokestatic 108, 3) := by decide +kernel
theorem dX7_version_4 : decode cX7_version 4 = .ok (.ifCond .ne 5, 3) := by decide +kernel
theorem dX7_version_7 : decode cX7_version 7 = .ok (.iconst (-1), 1) := by decide +kernel
theorem dX7_version_8 : decode cX7_version 8 = .ok (.ireturn, 1) := by decide +kernel
theorem dX7_version_9 : decode cX7_version 9 = .ok (.iload_n 2, 1) := by decide +kernel
theorem dX7_version_10 : decode cX7_version 10 = .ok (.ifCond .lt 12, 3) := by decide +kernel
theorem dX7_version_13 : decode cX7_version 13 = .ok (.iload_n 3, 1) := by decide +kernel
theorem dX7_version_14 : decode cX7_version 14 = .ok (.iconst 0, 1) := by decide +kernel
theorem dX7_version_15 : decode cX7_version 15 = .ok (.iconst 4, 1) := by decide +kernel
theorem dX7_version_16 : decode cX7_version 16 = .ok (.invokestatic 28, 3) := by decide +kernel
theorem dX7_version_19 : decode cX7_version 19 = .ok (.ifCond .ne 6, 3) := by decide +kernel
theorem dX7_version_22 : decode cX7_version 22 = .ok (.bipush (-2), 2) := by decide +kernel
theorem dX7_version_24 : decode cX7_version 24 = .ok (.ireturn, 1) := by decide +kernel
theorem dX7_version_25 : decode cX7_version 25 = .ok (.iload_n 2, 1) := by decide +kernel
theorem dX7_version_26 : decode cX7_version 26 = .ok (.aload_n 0, 1) := by decide +kernel
theorem dX7_version_27 : decode cX7_version 27 = .ok (.iload_n 1, 1) := by decide +kernel
theorem dX7_version_28 : decode cX7_version 28 = .ok (.invokevirtual 172, 3) := by decide +kernel
theorem dX7_version_31 : decode cX7_version 31 = .ok (.if_icmp .lt 6, 3) := by decide +kernel
theorem dX7_version_34 : decode cX7_version 34 = .ok (.bipush (-5), 2) := by decide +kernel
theorem dX7_version_36 : decode cX7_version 36 = .ok (.ireturn, 1) := by decide +kernel
theorem dX7_version_37 : decode cX7_version 37 = .ok (.aload_n 0, 1) := by decide +kernel
theorem dX7_version_38 : decode cX7_version 38 = .ok (.iload_n 1, 1) := by decide +kernel
theorem dX7_version_39 : decode cX7_version 39 = .ok (.invokevirtual 60, 3) := by decide +kernel
theorem dX7_version_42 : decode cX7_version 42 = .ok (.istore 4, 2) := by decide +kernel
theorem dX7_version_44 : decode cX7_version 44 = .ok (.iconst 0, 1) := by decide +kernel
theorem dX7_version_45 : decode cX7_version 45 = .ok (.istore 5, 2) := by decide +kernel
theorem dX7_version_47 : decode cX7_version 47 = .ok (.iload 5, 2) := by decide +kernel
theorem dX7_version_49 : decode cX7_version 49 = .ok (.iload_n 2, 1) := by decide +kernel
theorem dX7_version_50 : decode cX7_version 50 = .ok (.if_icmp .ge 25, 3) := by decide +kernel
theorem dX7_version_53 : decode cX7_version 53 = .ok (.aload_n 0, 1) := by decide +kernel
theorem dX7_version_54 : decode cX7_version 54 = .ok (.iload_n 1, 1) := by decide +kernel
theorem dX7_version_55 : decode cX7_version 55 = .ok (.aload_n 0, 1) := by decide +kernel
theorem dX7_version_56 : decode cX7_version 56 = .ok (.iload 4, 2) := by decide +kernel
theorem dX7_version_58 : decode cX7_version 58 = .ok (.iconst 1, 1) := by decide +kernel
theorem dX7_version_59 : decode cX7_version 59 = .ok (.invokevirtual 54, 3) := by decide +kernel
theorem dX7_version_62 : decode cX7_version 62 = .ok (.iconst 1, 1) := by decide +kernel
theorem dX7_version_63 : decode cX7_version 63 = .ok (.isub, 1) := by decide +kernel
theorem dX7_version_64 : decode cX7_version 64 = .ok (.invokevirtual 57, 3) := by decide +kernel
theorem dX7_version_67 : decode cX7_version 67 = .ok (.istore 4, 2) := by decide +kernel
theorem dX7_version_69 : decode cX7_version 69 = .ok (.iinc 5 1, 3) := by decide +kernel
theorem dX7_version_72 : decode cX7_version 72 = .ok (.goto (-25), 3) := by decide +kernel
theorem dX7_version_75 : decode cX7_version 75 = .ok (.iload_n 3, 1) := by decide +kernel
theorem dX7_version_76 : decode cX7_version 76 = .ok (.tableswitch 64 0 3 #[32, 40, 48, 56], 32) := by decide +kernel
theorem dX7_version_108 : decode cX7_version 108 = .ok (.aload_n 0, 1) := by decide +kernel
theorem dX7_version_109 : decode cX7_version 109 = .ok (.iload 4, 2) := by decide +kernel
theorem dX7_version_111 : decode cX7_version 111 = .ok (.iconst 2, 1) := by decide +kernel
theorem dX7_version_112 : decode cX7_version 112 = .ok (.invokevirtual 54, 3) := by decide +kernel
theorem dX7_version_115 : decode cX7_version 115 = .ok (.ireturn, 1) := by decide +kernel
theorem dX7_version_116 : decode cX7_version 116 = .ok (.aload_n 0, 1) := by decide +kernel
theorem dX7_version_117 : decode cX7_version 117 = .ok (.iload 4, 2) := by decide +kernel
theorem dX7_version_119 : decode cX7_version 119 = .ok (.iconst 1, 1) := by decide +kernel
theorem dX7_version_120 : decode cX7_version 120 = .ok (.invokevirtual 54, 3) := by decide +kernel
theorem dX7_version_123 : decode cX7_version 123 = .ok (.ireturn, 1) := by decide +kernel
theorem dX7_version_124 : decode cX7_version 124 = .ok (.aload_n 0, 1) := by decide +kernel
theorem dX7_version_125 : decode cX7_version 125 = .ok (.iload 4, 2) := by decide +kernel
theorem dX7_version_127 : decode cX7_version 127 = .ok (.iconst 1, 1) := by decide +kernel
theorem dX7_version_128 : decode cX7_version 128 = .ok (.invokevirtual 75, 3) := by decide +kernel
theorem dX7_version_131 : decode cX7_version 131 = .ok (.ireturn, 1) := by decide +kernel
theorem dX7_version_132 : decode cX7_version 132 = .ok (.aload_n 0, 1) := by decide +kernel
theorem dX7_version_133 : decode cX7_version 133 = .ok (.iload 4, 2) := by decide +kernel
theorem dX7_version_135 : decode cX7_version 135 = .ok (.iconst 0, 1) := by decide +kernel
theorem dX7_version_136 : decode cX7_version 136 = .ok (.invokevirtual 75, 3) := by decide +kernel
theorem dX7_version_139 : decode cX7_version 139 = .ok (.ireturn, 1) := by decide +kernel
theorem dX7_version_140 : decode cX7_version 140 = .ok (.iload_n 2, 1) := by decide +kernel
theorem dX7_version_141 : decode cX7_version 141 = .ok (.ifCond .ne 7, 3) := by decide +kernel
theorem dX7_version_144 : decode cX7_version 144 = .ok (.iconst 0, 1) := by decide +kernel
theorem dX7_version_145 : decode cX7_version 145 = .ok (.goto 9, 3) := by decide +kernel
theorem dX7_version_148 : decode cX7_version 148 = .ok (.aload_n 0, 1) := by decide +kernel
theorem dX7_version_149 : decode cX7_version 149 = .ok (.iload 4, 2) := by decide +kernel
theorem dX7_version_151 : decode cX7_version 151 = .ok (.invokevirtual 82, 3) := by decide +kernel
theorem dX7_version_154 : decode cX7_version 154 = .ok (.ireturn, 1) := by decide +kernel
theorem dX7_seen_0 : decode cX7_seen 0 = .ok (.iconst 0, 1) := by decide +kernel
theorem dX7_seen_1 : decode cX7_seen 1 = .ok (.istore_n 3, 1) := by decide +kernel
theorem dX7_seen_2 : decode cX7_seen 2 = .ok (.iconst 0, 1) := by decide +kernel
theorem dX7_seen_3 : decode cX7_seen 3 = .ok (.istore 4, 2) := by decide +kernel
theorem dX7_seen_5 : decode cX7_seen 5 = .ok (.iload 4, 2) := by decide +kernel
theorem dX7_seen_7 : decode cX7_seen 7 = .ok (.bipush 12, 2) := by decide +kernel
theorem dX7_seen_9 : decode cX7_seen 9 = .ok (.if_icmp .ge 62, 3) := by decide +kernel
theorem dX7_seen_12 : decode cX7_seen 12 = .ok (.aload_n 0, 1) := by decide +kernel
theorem dX7_seen_13 : decode cX7_seen 13 = .ok (.iload_n 1, 1) := by decide +kernel
theorem dX7_seen_14 : decode cX7_seen 14 = .ok (.invokevirtual 64, 3) := by decide +kernel
theorem dX7_seen_17 : decode cX7_seen 17 = .ok (.ifCond .eq 54, 3) := by decide +kernel
theorem dX7_seen_20 : decode cX7_seen 20 = .ok (.aload_n 0, 1) := by decide +kernel
theorem dX7_seen_21 : decode cX7_seen 21 = .ok (.iload 4, 2) := by decide +kernel
theorem dX7_seen_23 : decode cX7_seen 23 = .ok (.aload_n 0, 1) := by decide +kernel
theorem dX7_seen_24 : decode cX7_seen 24 = .ok (.iload_n 1, 1) := by decide +kernel
theorem dX7_seen_25 : decode cX7_seen 25 = .ok (.iconst 0, 1) := by decide +kernel
theorem dX7_seen_26 : decode cX7_seen 26 = .ok (.invokevirtual 32, 3) := by decide +kernel
theorem dX7_seen_29 : decode cX7_seen 29 = .ok (.invokevirtual 57, 3) := by decide +kernel
theorem dX7_seen_32 : decode cX7_seen 32 = .ok (.istore 5, 2) := by decide +kernel
theorem dX7_seen_34 : decode cX7_seen 34 = .ok (.iload_n 3, 1) := by decide +kernel
theorem dX7_seen_35 : decode cX7_seen 35 = .ok (.iload_n 2, 1) := by decide +kernel
theorem dX7_seen_36 : decode cX7_seen 36 = .ok (.ifCond .ne 13, 3) := by decide +kernel
theorem dX7_seen_39 : decode cX7_seen 39 = .ok (.aload_n 0, 1) := by decide +kernel
theorem dX7_seen_40 : decode cX7_seen 40 = .ok (.iload 5, 2) := by decide +kernel
theorem dX7_seen_42 : decode cX7_seen 42 = .ok (.iconst 2, 1) := by decide +kernel
theorem dX7_seen_43 : decode cX7_seen 43 = .ok (.invokevirtual 54, 3) := by decide +kernel
theorem dX7_seen_46 : decode cX7_seen 46 = .ok (.goto 17, 3) := by decide +kernel
theorem dX7_seen_49 : decode cX7_seen 49 = .ok (.aload_n 0, 1) := by decide +kernel
theorem dX7_seen_50 : decode cX7_seen 50 = .ok (.iload 5, 2) := by decide +kernel
theorem dX7_seen_52 : decode cX7_seen 52 = .ok (.invokevirtual 79, 3) := by decide +kernel
theorem dX7_seen_55 : decode cX7_seen 55 = .ok (.ifCond .eq 7, 3) := by decide +kernel
theorem dX7_seen_58 : decode cX7_seen 58 = .ok (.iconst 1, 1) := by decide +kernel
theorem dX7_seen_59 : decode cX7_seen 59 = .ok (.goto 4, 3) := by decide +kernel
theorem dX7_seen_62 : decode cX7_seen 62 = .ok (.iconst 0, 1) := by decide +kernel
theorem dX7_seen_63 : decode cX7_seen 63 = .ok (.iadd, 1) := by decide +kernel
theorem dX7_seen_64 : decode cX7_seen 64 = .ok (.istore_n 3, 1) := by decide +kernel
theorem dX7_seen_65 : decode cX7_seen 65 = .ok (.iinc 4 1, 3) := by decide +kernel
theorem dX7_seen_68 : decode cX7_seen 68 = .ok (.goto (-63), 3) := by decide +kernel
theorem dX7_seen_71 : decode cX7_seen 71 = .ok (.iload_n 3, 1) := by decide +kernel
theorem dX7_seen_72 : decode cX7_seen 72 = .ok (.ireturn, 1) := by decide +kernel
theorem dX7_reader_0 : decode cX7_reader 0 = .ok (.aload_n 0, 1) := by decide +kernel
theorem dX7_reader_1 : decode cX7_reader 1 = .ok (.iload_n 1, 1) := by decide +kernel
theorem dX7_reader_2 : decode cX7_reader 2 = .ok (.invokevirtual 92, 3) := by decide +kernel
theorem dX7_reader_5 : decode cX7_reader 5 = .ok (.ifCond .ne 5, 3) := by decide +kernel
theorem dX7_reader_8 : decode cX7_reader 8 = .ok (.iconst (-1), 1) := by decide +kernel
theorem dX7_reader_9 : decode cX7_reader 9 = .ok (.ireturn, 1) := by decide +kernel
theorem dX7_reader_10 : decode cX7_reader 10 = .ok (.iload_n 2, 1) := by decide +kernel
theorem dX7_reader_11 : decode cX7_reader 11 = .ok (.tableswitch 174 0 11 #[61, 68, 75, 82, 88, 95, 102, 109, 117, 117, 134, 156], 61) := by decide +kernel
theorem dX7_reader_72 : decode cX7_reader 72 = .ok (.aload_n 0, 1) := by decide +kernel
theorem dX7_reader_73 : decode cX7_reader 73 = .ok (.iload_n 1, 1) := by decide +kernel
theorem dX7_reader_74 : decode cX7_reader 74 = .ok (.iconst 2, 1) := by decide +kernel
theorem dX7_reader_75 : decode cX7_reader 75 = .ok (.invokevirtual 32, 3) := by decide +kernel
theorem dX7_reader_78 : decode cX7_reader 78 = .ok (.ireturn, 1) := by decide +kernel
theorem dX7_reader_79 : decode cX7_reader 79 = .ok (.aload_n 0, 1) := by decide +kernel
theorem dX7_reader_80 : decode cX7_reader 80 = .ok (.iload_n 1, 1) := by decide +kernel
theorem dX7_reader_81 : decode cX7_reader 81 = .ok (.iconst 0, 1) := by decide +kernel
theorem dX7_reader_82 : decode cX7_reader 82 = .ok (.invokevirtual 32, 3) := by decide +kernel
theorem dX7_reader_85 : decode cX7_reader 85 = .ok (.ireturn, 1) := by decide +kernel
theorem dX7_reader_86 : decode cX7_reader 86 = .ok (.aload_n 0, 1) := by decide +kernel
theorem dX7_reader_87 : decode cX7_reader 87 = .ok (.iload_n 1, 1) := by decide +kernel
theorem dX7_reader_88 : decode cX7_reader 88 = .ok (.iconst 1, 1) := by decide +kernel
theorem dX7_reader_89 : decode cX7_reader 89 = .ok (.invokevirtual 32, 3) := by decide +kernel
theorem dX7_reader_92 : decode cX7_reader 92 = .ok (.ireturn, 1) := by decide +kernel
theorem dX7_reader_93 : decode cX7_reader 93 = .ok (.aload_n 0, 1) := by decide +kernel
theorem dX7_reader_94 : decode cX7_reader 94 = .ok (.iload_n 1, 1) := by decide +kernel
theorem dX7_reader_95 : decode cX7_reader 95 = .ok (.invokevirtual 95, 3) := by decide +kernel
theorem dX7_reader_98 : decode cX7_reader 98 = .ok (.ireturn, 1) := by decide +kernel
theorem dX7_reader_99 : decode cX7_reader 99 = .ok (.aload_n 0, 1) := by decide +kernel
theorem dX7_reader_100 : decode cX7_reader 100 = .ok (.iload_n 1, 1) := by decide +kernel
theorem dX7_reader_101 : decode cX7_reader 101 = .ok (.iconst 3, 1) := by decide +kernel
theorem dX7_reader_102 : decode cX7_reader 102 = .ok (.invokevirtual 32, 3) := by decide +kernel
theorem dX7_reader_105 : decode cX7_reader 105 = .ok (.ireturn, 1) := by decide +kernel
theorem dX7_reader_106 : decode cX7_reader 106 = .ok (.aload_n 0, 1) := by decide +kernel
theorem dX7_reader_107 : decode cX7_reader 107 = .ok (.iload_n 1, 1) := by decide +kernel
theorem dX7_reader_108 : decode cX7_reader 108 = .ok (.iconst 4, 1) := by decide +kernel
theorem dX7_reader_109 : decode cX7_reader 109 = .ok (.invokevirtual 32, 3) := by decide +kernel
theorem dX7_reader_112 : decode cX7_reader 112 = .ok (.ireturn, 1) := by decide +kernel
theorem dX7_reader_113 : decode cX7_reader 113 = .ok (.aload_n 0, 1) := by decide +kernel
theorem dX7_reader_114 : decode cX7_reader 114 = .ok (.iload_n 1, 1) := by decide +kernel
theorem dX7_reader_115 : decode cX7_reader 115 = .ok (.iconst 5, 1) := by decide +kernel
theorem dX7_reader_116 : decode cX7_reader 116 = .ok (.invokevirtual 32, 3) := by decide +kernel
theorem dX7_reader_119 : decode cX7_reader 119 = .ok (.ireturn, 1) := by decide +kernel
theorem dX7_reader_120 : decode cX7_reader 120 = .ok (.aload_n 0, 1) := by decide +kernel
theorem dX7_reader_121 : decode cX7_reader 121 = .ok (.iload_n 1, 1) := by decide +kernel
theorem dX7_reader_122 : decode cX7_reader 122 = .ok (.bipush 7, 2) := by decide +kernel
theorem dX7_reader_124 : decode cX7_reader 124 = .ok (.invokevirtual 32, 3) := by decide +kernel
theorem dX7_reader_127 : decode cX7_reader 127 = .ok (.ireturn, 1) := by decide +kernel
theorem dX7_reader_128 : decode cX7_reader 128 = .ok (.aload_n 0, 1) := by decide +kernel
theorem dX7_reader_129 : decode cX7_reader 129 = .ok (.iload_n 1, 1) := by decide +kernel
theorem dX7_reader_130 : decode cX7_reader 130 = .ok (.iload_n 2, 1) := by decide +kernel
theorem dX7_reader_131 : decode cX7_reader 131 = .ok (.bipush 8, 2) := by decide +kernel
theorem dX7_reader_133 : decode cX7_reader 133 = .ok (.if_icmp .ne 7, 3) := by decide +kernel
theorem dX7_reader_136 : decode cX7_reader 136 = .ok (.iconst 1, 1) := by decide +kernel
theorem dX7_reader_137 : decode cX7_reader 137 = .ok (.goto 4, 3) := by decide +kernel
theorem dX7_reader_140 : decode cX7_reader 140 = .ok (.iconst 0, 1) := by decide +kernel
theorem dX7_reader_141 : decode cX7_reader 141 = .ok (.invokevirtual 178, 3) := by decide +kernel
theorem dX7_reader_144 : decode cX7_reader 144 = .ok (.ireturn, 1) := by decide +kernel
theorem dX7_reader_145 : decode cX7_reader 145 = .ok (.aload_n 0, 1) := by decide +kernel
theorem dX7_reader_146 : decode cX7_reader 146 = .ok (.iload_n 1, 1) := by decide +kernel
theorem dX7_reader_147 : decode cX7_reader 147 = .ok (.invokevirtual 64, 3) := by decide +kernel
theorem dX7_reader_150 : decode cX7_reader 150 = .ok (.ifCond .eq 15, 3) := by decide +kernel
theorem dX7_reader_153 : decode cX7_reader 153 = .ok (.aload_n 0, 1) := by decide +kernel
theorem dX7_reader_154 : decode cX7_reader 154 = .ok (.iload_n 1, 1) := by decide +kernel
theorem dX7_reader_155 : decode cX7_reader 155 = .ok (.invokevirtual 130, 3) := by decide +kernel
theorem dX7_reader_158 : decode cX7_reader 158 = .ok (.ifCond .eq 7, 3) := by decide +kernel
theorem dX7_reader_161 : decode cX7_reader 161 = .ok (.iconst 1, 1) := by decide +kernel
theorem dX7_reader_162 : decode cX7_reader 162 = .ok (.goto 4, 3) := by decide +kernel
theorem dX7_reader_165 : decode cX7_reader 165 = .ok (.iconst 0, 1) := by decide +kernel
theorem dX7_reader_166 : decode cX7_reader 166 = .ok (.ireturn, 1) := by decide +kernel
theorem dX7_reader_167 : decode cX7_reader 167 = .ok (.aload_n 0, 1) := by decide +kernel
theorem dX7_reader_168 : decode cX7_reader 168 = .ok (.iload_n 1, 1) := by decide +kernel
theorem dX7_reader_169 : decode cX7_reader 169 = .ok (.invokevirtual 64, 3) := by decide +kernel
theorem dX7_reader_172 : decode cX7_reader 172 = .ok (.ifCond .eq 11, 3) := by decide +kernel
theorem dX7_reader_175 : decode cX7_reader 175 = .ok (.aload_n 0, 1) := by decide +kernel
theorem dX7_reader_176 : decode cX7_reader 176 = .ok (.iload_n 1, 1) := by decide +kernel
theorem dX7_reader_177 : decode cX7_reader 177 = .ok (.invokevirtual 133, 3) := by decide +kernel
theorem dX7_reader_180 : decode cX7_reader 180 = .ok (.goto 4, 3) := by decide +kernel
theorem dX7_reader_183 : decode cX7_reader 183 = .ok (.iconst 0, 1) := by decide +kernel
theorem dX7_reader_184 : decode cX7_reader 184 = .ok (.ireturn, 1) := by decide +kernel
theorem dX7_reader_185 : decode cX7_reader 185 = .ok (.bipush (-2), 2) := by decide +kernel
theorem dX7_reader_187 : decode cX7_reader 187 = .ok (.ireturn, 1) := by decide +kernel
theorem dX7_committed_0 : decode cX7_committed 0 = .ok (.iload_n 1, 1) := by decide +kernel
theorem dX7_committed_1 : decode cX7_committed 1 = .ok (.iconst 0, 1) := by decide +kernel
theorem dX7_committed_2 : decode cX7_committed 2 = .ok (.aload_n 0, 1) := by decide +kernel
theorem dX7_committed_3 : decode cX7_committed 3 = .ok (.getfield 7, 3) := by decide +kernel
theorem dX7_committed_6 : decode cX7_committed 6 = .ok (.bipush 6, 2) := by decide +kernel
theorem dX7_committed_8 : decode cX7_committed 8 = .ok (.iaload, 1) := by decide +kernel
theorem dX7_committed_9 : decode cX7_committed 9 = .ok (.iconst 1, 1) := by decide +kernel
theorem dX7_committed_10 : decode cX7_committed 10 = .ok (.isub, 1) := by decide +kernel
theorem dX7_committed_11 : decode cX7_committed 11 = .ok (.invokestatic 28, 3) := by decide +kernel
theorem dX7_committed_14 : decode cX7_committed 14 = .ok (.ifCond .ne 5, 3) := by decide +kernel
theorem dX7_committed_17 : decode cX7_committed 17 = .ok (.iconst (-1), 1) := by decide +kernel
theorem dX7_committed_18 : decode cX7_committed 18 = .ok (.ireturn, 1) := by decide +kernel
theorem dX7_committed_19 : decode cX7_committed 19 = .ok (.iload_n 2, 1) := by decide +kernel
theorem dX7_committed_20 : decode cX7_committed 20 = .ok (.iconst 0, 1) := by decide +kernel
theorem dX7_committed_21 : decode cX7_committed 21 = .ok (.iconst 5, 1) := by decide +kernel
theorem dX7_committed_22 : decode cX7_committed 22 = .ok (.invokestatic 28, 3) := by decide +kernel
theorem dX7_committed_25 : decode cX7_committed 25 = .ok (.ifCond .ne 6, 3) := by decide +kernel
theorem dX7_committed_28 : decode cX7_committed 28 = .ok (.bipush (-2), 2) := by decide +kernel
theorem dX7_committed_30 : decode cX7_committed 30 = .ok (.ireturn, 1) := by decide +kernel
theorem dX7_committed_31 : decode cX7_committed 31 = .ok (.iload_n 2, 1) := by decide +kernel
theorem dX7_committed_32 : decode cX7_committed 32 = .ok (.iconst 5, 1) := by decide +kernel
theorem dX7_committed_33 : decode cX7_committed 33 = .ok (.if_icmp .ne 11, 3) := by decide +kernel
theorem dX7_committed_36 : decode cX7_committed 36 = .ok (.aload_n 0, 1) := by decide +kernel
theorem dX7_committed_37 : decode cX7_committed 37 = .ok (.iload_n 1, 1) := by decide +kernel
theorem dX7_committed_38 : decode cX7_committed 38 = .ok (.invokevirtual 127, 3) := by decide +kernel
theorem dX7_committed_41 : decode cX7_committed 41 = .ok (.goto 9, 3) := by decide +kernel
theorem dX7_committed_44 : decode cX7_committed 44 = .ok (.aload_n 0, 1) := by decide +kernel
theorem dX7_committed_45 : decode cX7_committed 45 = .ok (.iload_n 1, 1) := by decide +kernel
theorem dX7_committed_46 : decode cX7_committed 46 = .ok (.iload_n 2, 1) := by decide +kernel
theorem dX7_committed_47 : decode cX7_committed 47 = .ok (.invokevirtual 120, 3) := by decide +kernel
theorem dX7_committed_50 : decode cX7_committed 50 = .ok (.ireturn, 1) := by decide +kernel
theorem dX7_widows_0 : decode cX7_widows 0 = .ok (.iconst 0, 1) := by decide +kernel
theorem dX7_widows_1 : decode cX7_widows 1 = .ok (.istore_n 1, 1) := by decide +kernel
theorem dX7_widows_2 : decode cX7_widows 2 = .ok (.iconst 0, 1) := by decide +kernel
theorem dX7_widows_3 : decode cX7_widows 3 = .ok (.istore_n 2, 1) := by decide +kernel
theorem dX7_widows_4 : decode cX7_widows 4 = .ok (.iload_n 2, 1) := by decide +kernel
theorem dX7_widows_5 : decode cX7_widows 5 = .ok (.aload_n 0, 1) := by decide +kernel
theorem dX7_widows_6 : decode cX7_widows 6 = .ok (.getfield 7, 3) := by decide +kernel
theorem dX7_widows_9 : decode cX7_widows 9 = .ok (.iconst 2, 1) := by decide +kernel
theorem dX7_widows_10 : decode cX7_widows 10 = .ok (.iaload, 1) := by decide +kernel
theorem dX7_widows_11 : decode cX7_widows 11 = .ok (.if_icmp .ge 33, 3) := by decide +kernel
theorem dX7_widows_14 : decode cX7_widows 14 = .ok (.iload_n 1, 1) := by decide +kernel
theorem dX7_widows_15 : decode cX7_widows 15 = .ok (.aload_n 0, 1) := by decide +kernel
theorem dX7_widows_16 : decode cX7_widows 16 = .ok (.iload_n 2, 1) := by decide +kernel
theorem dX7_widows_17 : decode cX7_widows 17 = .ok (.invokevirtual 64, 3) := by decide +kernel
theorem dX7_widows_20 : decode cX7_widows 20 = .ok (.ifCond .eq 15, 3) := by decide +kernel
theorem dX7_widows_23 : decode cX7_widows 23 = .ok (.aload_n 0, 1) := by decide +kernel
theorem dX7_widows_24 : decode cX7_widows 24 = .ok (.iload_n 2, 1) := by decide +kernel
theorem dX7_widows_25 : decode cX7_widows 25 = .ok (.invokevirtual 72, 3) := by decide +kernel
theorem dX7_widows_28 : decode cX7_widows 28 = .ok (.ifCond .eq 7, 3) := by decide +kernel
theorem dX7_widows_31 : decode cX7_widows 31 = .ok (.iconst 1, 1) := by decide +kernel
theorem dX7_widows_32 : decode cX7_widows 32 = .ok (.goto 4, 3) := by decide +kernel
theorem dX7_widows_35 : decode cX7_widows 35 = .ok (.iconst 0, 1) := by decide +kernel
theorem dX7_widows_36 : decode cX7_widows 36 = .ok (.iadd, 1) := by decide +kernel
theorem dX7_widows_37 : decode cX7_widows 37 = .ok (.istore_n 1, 1) := by decide +kernel
theorem dX7_widows_38 : decode cX7_widows 38 = .ok (.iinc 2 1, 3) := by decide +kernel
theorem dX7_widows_41 : decode cX7_widows 41 = .ok (.goto (-37), 3) := by decide +kernel
theorem dX7_widows_44 : decode cX7_widows 44 = .ok (.iload_n 1, 1) := by decide +kernel
theorem dX7_widows_45 : decode cX7_widows 45 = .ok (.ireturn, 1) := by decide +kernel
theorem dX7_count_0 : decode cX7_count 0 = .ok (.iload_n 1, 1) := by decide +kernel
theorem dX7_count_1 : decode cX7_count 1 = .ok (.tableswitch 160 0 16 #[83, 83, 83, 90, 90, 90, 90, 98, 103, 110, 117, 124, 132, 137, 145, 150, 155], 83) := by decide +kernel
theorem dX7_count_84 : decode cX7_count 84 = .ok (.aload_n 0, 1) := by decide +kernel
theorem dX7_count_85 : decode cX7_count 85 = .ok (.getfield 7, 3) := by decide +kernel
theorem dX7_count_88 : decode cX7_count 88 = .ok (.iload_n 1, 1) := by decide +kernel
theorem dX7_count_89 : decode cX7_count 89 = .ok (.iaload, 1) := by decide +kernel
theorem dX7_count_90 : decode cX7_count 90 = .ok (.ireturn, 1) := by decide +kernel
theorem dX7_count_91 : decode cX7_count 91 = .ok (.aload_n 0, 1) := by decide +kernel
theorem dX7_count_92 : decode cX7_count 92 = .ok (.iload_n 1, 1) := by decide +kernel
theorem dX7_count_93 : decode cX7_count 93 = .ok (.iconst 3, 1) := by decide +kernel
theorem dX7_count_94 : decode cX7_count 94 = .ok (.isub, 1) := by decide +kernel
theorem dX7_count_95 : decode cX7_count 95 = .ok (.invokevirtual 85, 3) := by decide +kernel
theorem dX7_count_98 : decode cX7_count 98 = .ok (.ireturn, 1) := by decide +kernel
theorem dX7_count_99 : decode cX7_count 99 = .ok (.aload_n 0, 1) := by decide +kernel
theorem dX7_count_100 : decode cX7_count 100 = .ok (.invokevirtual 139, 3) := by decide +kernel
theorem dX7_count_103 : decode cX7_count 103 = .ok (.ireturn, 1) := by decide +kernel
theorem dX7_count_104 : decode cX7_count 104 = .ok (.aload_n 0, 1) := by decide +kernel
theorem dX7_count_105 : decode cX7_count 105 = .ok (.getfield 7, 3) := by decide +kernel
theorem dX7_count_108 : decode cX7_count 108 = .ok (.iconst 3, 1) := by decide +kernel
theorem dX7_count_109 : decode cX7_count 109 = .ok (.iaload, 1) := by decide +kernel
theorem dX7_count_110 : decode cX7_count 110 = .ok (.ireturn, 1) := by decide +kernel
theorem dX7_count_111 : decode cX7_count 111 = .ok (.aload_n 0, 1) := by decide +kernel
theorem dX7_count_112 : decode cX7_count 112 = .ok (.getfield 7, 3) := by decide +kernel
theorem dX7_count_115 : decode cX7_count 115 = .ok (.iconst 4, 1) := by decide +kernel
theorem dX7_count_116 : decode cX7_count 116 = .ok (.iaload, 1) := by decide +kernel
theorem dX7_count_117 : decode cX7_count 117 = .ok (.ireturn, 1) := by decide +kernel
theorem dX7_count_118 : decode cX7_count 118 = .ok (.aload_n 0, 1) := by decide +kernel
theorem dX7_count_119 : decode cX7_count 119 = .ok (.getfield 7, 3) := by decide +kernel
theorem dX7_count_122 : decode cX7_count 122 = .ok (.iconst 5, 1) := by decide +kernel
theorem dX7_count_123 : decode cX7_count 123 = .ok (.iaload, 1) := by decide +kernel
theorem dX7_count_124 : decode cX7_count 124 = .ok (.ireturn, 1) := by decide +kernel
theorem dX7_count_125 : decode cX7_count 125 = .ok (.aload_n 0, 1) := by decide +kernel
theorem dX7_count_126 : decode cX7_count 126 = .ok (.getfield 7, 3) := by decide +kernel
theorem dX7_count_129 : decode cX7_count 129 = .ok (.bipush 6, 2) := by decide +kernel
theorem dX7_count_131 : decode cX7_count 131 = .ok (.iaload, 1) := by decide +kernel
theorem dX7_count_132 : decode cX7_count 132 = .ok (.ireturn, 1) := by decide +kernel
theorem dX7_count_133 : decode cX7_count 133 = .ok (.aload_n 0, 1) := by decide +kernel
theorem dX7_count_134 : decode cX7_count 134 = .ok (.invokevirtual 102, 3) := by decide +kernel
theorem dX7_count_137 : decode cX7_count 137 = .ok (.ireturn, 1) := by decide +kernel
theorem dX7_count_138 : decode cX7_count 138 = .ok (.aload_n 0, 1) := by decide +kernel
theorem dX7_count_139 : decode cX7_count 139 = .ok (.getfield 7, 3) := by decide +kernel
theorem dX7_count_142 : decode cX7_count 142 = .ok (.bipush 7, 2) := by decide +kernel
theorem dX7_count_144 : decode cX7_count 144 = .ok (.iaload, 1) := by decide +kernel
theorem dX7_count_145 : decode cX7_count 145 = .ok (.ireturn, 1) := by decide +kernel
theorem dX7_count_146 : decode cX7_count 146 = .ok (.aload_n 0, 1) := by decide +kernel
theorem dX7_count_147 : decode cX7_count 147 = .ok (.invokevirtual 181, 3) := by decide +kernel
theorem dX7_count_150 : decode cX7_count 150 = .ok (.ireturn, 1) := by decide +kernel
theorem dX7_count_151 : decode cX7_count 151 = .ok (.aload_n 0, 1) := by decide +kernel
theorem dX7_count_152 : decode cX7_count 152 = .ok (.getfield 36, 3) := by decide +kernel
theorem dX7_count_155 : decode cX7_count 155 = .ok (.ireturn, 1) := by decide +kernel
theorem dX7_count_156 : decode cX7_count 156 = .ok (.aload_n 0, 1) := by decide +kernel
theorem dX7_count_157 : decode cX7_count 157 = .ok (.getfield 145, 3) := by decide +kernel
theorem dX7_count_160 : decode cX7_count 160 = .ok (.ireturn, 1) := by decide +kernel
theorem dX7_count_161 : decode cX7_count 161 = .ok (.bipush (-2), 2) := by decide +kernel
theorem dX7_count_163 : decode cX7_count 163 = .ok (.ireturn, 1) := by decide +kernel
theorem dJ6_bitCount_0f7a4_0 : decode cJ6_bitCount_0f7a4 0 = .ok (.iload_n 0, 1) := by decide +kernel
theorem dJ6_bitCount_0f7a4_1 : decode cJ6_bitCount_0f7a4 1 = .ok (.iload_n 0, 1) := by decide +kernel
theorem dJ6_bitCount_0f7a4_2 : decode cJ6_bitCount_0f7a4 2 = .ok (.iconst 1, 1) := by decide +kernel
theorem dJ6_bitCount_0f7a4_3 : decode cJ6_bitCount_0f7a4 3 = .ok (.iushr, 1) := by decide +kernel
theorem dJ6_bitCount_0f7a4_4 : decode cJ6_bitCount_0f7a4 4 = .ok (.ldc_w 265, 3) := by decide +kernel
theorem dJ6_bitCount_0f7a4_7 : decode cJ6_bitCount_0f7a4 7 = .ok (.iand, 1) := by decide +kernel
theorem dJ6_bitCount_0f7a4_8 : decode cJ6_bitCount_0f7a4 8 = .ok (.isub, 1) := by decide +kernel
theorem dJ6_bitCount_0f7a4_9 : decode cJ6_bitCount_0f7a4 9 = .ok (.istore_n 0, 1) := by decide +kernel
theorem dJ6_bitCount_0f7a4_10 : decode cJ6_bitCount_0f7a4 10 = .ok (.iload_n 0, 1) := by decide +kernel
theorem dJ6_bitCount_0f7a4_11 : decode cJ6_bitCount_0f7a4 11 = .ok (.ldc_w 266, 3) := by decide +kernel
theorem dJ6_bitCount_0f7a4_14 : decode cJ6_bitCount_0f7a4 14 = .ok (.iand, 1) := by decide +kernel
theorem dJ6_bitCount_0f7a4_15 : decode cJ6_bitCount_0f7a4 15 = .ok (.iload_n 0, 1) := by decide +kernel
theorem dJ6_bitCount_0f7a4_16 : decode cJ6_bitCount_0f7a4 16 = .ok (.iconst 2, 1) := by decide +kernel
theorem dJ6_bitCount_0f7a4_17 : decode cJ6_bitCount_0f7a4 17 = .ok (.iushr, 1) := by decide +kernel
theorem dJ6_bitCount_0f7a4_18 : decode cJ6_bitCount_0f7a4 18 = .ok (.ldc_w 266, 3) := by decide +kernel
theorem dJ6_bitCount_0f7a4_21 : decode cJ6_bitCount_0f7a4 21 = .ok (.iand, 1) := by decide +kernel
theorem dJ6_bitCount_0f7a4_22 : decode cJ6_bitCount_0f7a4 22 = .ok (.iadd, 1) := by decide +kernel
theorem dJ6_bitCount_0f7a4_23 : decode cJ6_bitCount_0f7a4 23 = .ok (.istore_n 0, 1) := by decide +kernel
theorem dJ6_bitCount_0f7a4_24 : decode cJ6_bitCount_0f7a4 24 = .ok (.iload_n 0, 1) := by decide +kernel
theorem dJ6_bitCount_0f7a4_25 : decode cJ6_bitCount_0f7a4 25 = .ok (.iload_n 0, 1) := by decide +kernel
theorem dJ6_bitCount_0f7a4_26 : decode cJ6_bitCount_0f7a4 26 = .ok (.iconst 4, 1) := by decide +kernel
theorem dJ6_bitCount_0f7a4_27 : decode cJ6_bitCount_0f7a4 27 = .ok (.iushr, 1) := by decide +kernel
theorem dJ6_bitCount_0f7a4_28 : decode cJ6_bitCount_0f7a4 28 = .ok (.iadd, 1) := by decide +kernel
theorem dJ6_bitCount_0f7a4_29 : decode cJ6_bitCount_0f7a4 29 = .ok (.ldc_w 267, 3) := by decide +kernel
theorem dJ6_bitCount_0f7a4_32 : decode cJ6_bitCount_0f7a4 32 = .ok (.iand, 1) := by decide +kernel
theorem dJ6_bitCount_0f7a4_33 : decode cJ6_bitCount_0f7a4 33 = .ok (.istore_n 0, 1) := by decide +kernel
theorem dJ6_bitCount_0f7a4_34 : decode cJ6_bitCount_0f7a4 34 = .ok (.iload_n 0, 1) := by decide +kernel
theorem dJ6_bitCount_0f7a4_35 : decode cJ6_bitCount_0f7a4 35 = .ok (.iload_n 0, 1) := by decide +kernel
theorem dJ6_bitCount_0f7a4_36 : decode cJ6_bitCount_0f7a4 36 = .ok (.bipush 8, 2) := by decide +kernel
theorem dJ6_bitCount_0f7a4_38 : decode cJ6_bitCount_0f7a4 38 = .ok (.iushr, 1) := by decide +kernel
theorem dJ6_bitCount_0f7a4_39 : decode cJ6_bitCount_0f7a4 39 = .ok (.iadd, 1) := by decide +kernel
theorem dJ6_bitCount_0f7a4_40 : decode cJ6_bitCount_0f7a4 40 = .ok (.istore_n 0, 1) := by decide +kernel
theorem dJ6_bitCount_0f7a4_41 : decode cJ6_bitCount_0f7a4 41 = .ok (.iload_n 0, 1) := by decide +kernel
theorem dJ6_bitCount_0f7a4_42 : decode cJ6_bitCount_0f7a4 42 = .ok (.iload_n 0, 1) := by decide +kernel
theorem dJ6_bitCount_0f7a4_43 : decode cJ6_bitCount_0f7a4 43 = .ok (.bipush 16, 2) := by decide +kernel
theorem dJ6_bitCount_0f7a4_45 : decode cJ6_bitCount_0f7a4 45 = .ok (.iushr, 1) := by decide +kernel
theorem dJ6_bitCount_0f7a4_46 : decode cJ6_bitCount_0f7a4 46 = .ok (.iadd, 1) := by decide +kernel
theorem dJ6_bitCount_0f7a4_47 : decode cJ6_bitCount_0f7a4 47 = .ok (.istore_n 0, 1) := by decide +kernel
theorem dJ6_bitCount_0f7a4_48 : decode cJ6_bitCount_0f7a4 48 = .ok (.iload_n 0, 1) := by decide +kernel
theorem dJ6_bitCount_0f7a4_49 : decode cJ6_bitCount_0f7a4 49 = .ok (.bipush 63, 2) := by decide +kernel
theorem dJ6_bitCount_0f7a4_51 : decode cJ6_bitCount_0f7a4 51 = .ok (.iand, 1) := by decide +kernel
theorem dJ6_bitCount_0f7a4_52 : decode cJ6_bitCount_0f7a4 52 = .ok (.ireturn, 1) := by decide +kernel
theorem dJ9_max_7cf53_0 : decode cJ9_max_7cf53 0 = .ok (.iload_n 0, 1) := by decide +kernel
theorem dJ9_max_7cf53_1 : decode cJ9_max_7cf53 1 = .ok (.iload_n 1, 1) := by decide +kernel
theorem dJ9_max_7cf53_2 : decode cJ9_max_7cf53 2 = .ok (.if_icmp .lt 7, 3) := by decide +kernel
theorem dJ9_max_7cf53_5 : decode cJ9_max_7cf53 5 = .ok (.iload_n 0, 1) := by decide +kernel
theorem dJ9_max_7cf53_6 : decode cJ9_max_7cf53 6 = .ok (.goto 4, 3) := by decide +kernel
theorem dJ9_max_7cf53_9 : decode cJ9_max_7cf53 9 = .ok (.iload_n 1, 1) := by decide +kernel
theorem dJ9_max_7cf53_10 : decode cJ9_max_7cf53 10 = .ok (.ireturn, 1) := by decide +kernel
theorem dL_law_0 : decode cL_law 0 = .ok (.new 7, 3) := by decide +kernel
theorem dL_law_3 : decode cL_law 3 = .ok (.dup, 1) := by decide +kernel
theorem dL_law_4 : decode cL_law 4 = .ok (.invokespecial 9, 3) := by decide +kernel
theorem dL_law_7 : decode cL_law 7 = .ok (.astore_n 1, 1) := by decide +kernel
theorem dL_law_8 : decode cL_law 8 = .ok (.new 10, 3) := by decide +kernel
theorem dL_law_11 : decode cL_law 11 = .ok (.dup, 1) := by decide +kernel
theorem dL_law_12 : decode cL_law 12 = .ok (.invokespecial 12, 3) := by decide +kernel
theorem dL_law_15 : decode cL_law 15 = .ok (.astore_n 2, 1) := by decide +kernel
theorem dL_law_16 : decode cL_law 16 = .ok (.iconst 0, 1) := by decide +kernel
theorem dL_law_17 : decode cL_law 17 = .ok (.istore_n 3, 1) := by decide +kernel
theorem dL_law_18 : decode cL_law 18 = .ok (.iload_n 3, 1) := by decide +kernel
theorem dL_law_19 : decode cL_law 19 = .ok (.aload_n 0, 1) := by decide +kernel
theorem dL_law_20 : decode cL_law 20 = .ok (.arraylength, 1) := by decide +kernel
theorem dL_law_21 : decode cL_law 21 = .ok (.iconst 4, 1) := by decide +kernel
theorem dL_law_22 : decode cL_law 22 = .ok (.isub, 1) := by decide +kernel
theorem dL_law_23 : decode cL_law 23 = .ok (.if_icmp .gt 703, 3) := by decide +kernel
theorem dL_law_26 : decode cL_law 26 = .ok (.aload_n 0, 1) := by decide +kernel
theorem dL_law_27 : decode cL_law 27 = .ok (.iload_n 3, 1) := by decide +kernel
theorem dL_law_28 : decode cL_law 28 = .ok (.iaload, 1) := by decide +kernel
theorem dL_law_29 : decode cL_law 29 = .ok (.bipush 31, 2) := by decide +kernel
theorem dL_law_31 : decode cL_law 31 = .ok (.iand, 1) := by decide +kernel
theorem dL_law_32 : decode cL_law 32 = .ok (.tableswitch 688 0 21 #[104, 127, 160, 193, 216, 239, 278, 301, 334, 377, 400, 425, 438, 461, 474, 487, 500, 533, 576, 609, 632, 665], 104) := by decide +kernel
theorem dL_law_136 : decode cL_law 136 = .ok (.aload_n 1, 1) := by decide +kernel
theorem dL_law_137 : decode cL_law 137 = .ok (.aload_n 0, 1) := by decide +kernel
theorem dL_law_138 : decode cL_law 138 = .ok (.iload_n 3, 1) := by decide +kernel
theorem dL_law_139 : decode cL_law 139 = .ok (.iconst 1, 1) := by decide +kernel
theorem dL_law_140 : decode cL_law 140 = .ok (.iadd, 1) := by decide +kernel
theorem dL_law_141 : decode cL_law 141 = .ok (.iaload, 1) := by decide +kernel
theorem dL_law_142 : decode cL_law 142 = .ok (.invokevirtual 13, 3) := by decide +kernel
theorem dL_law_145 : decode cL_law 145 = .ok (.aload_n 2, 1) := by decide +kernel
theorem dL_law_146 : decode cL_law 146 = .ok (.aload_n 0, 1) := by decide +kernel
theorem dL_law_147 : decode cL_law 147 = .ok (.iload_n 3, 1) := by decide +kernel
theorem dL_law_148 : decode cL_law 148 = .ok (.iconst 1, 1) := by decide +kernel
theorem dL_law_149 : decode cL_law 149 = .ok (.iadd, 1) := by decide +kernel
theorem dL_law_150 : decode cL_law 150 = .ok (.iaload, 1) := by decide +kernel
theorem dL_law_151 : decode cL_law 151 = .ok (.invokevirtual 17, 3) := by decide +kernel
theorem dL_law_154 : decode cL_law 154 = .ok (.if_icmp .eq 566, 3) := by decide +kernel
theorem dL_law_157 : decode cL_law 157 = .ok (.iconst 0, 1) := by decide +kernel
theorem dL_law_158 : decode cL_law 158 = .ok (.ireturn, 1) := by decide +kernel
theorem dL_law_159 : decode cL_law 159 = .ok (.aload_n 1, 1) := by decide +kernel
theorem dL_law_160 : decode cL_law 160 = .ok (.aload_n 0, 1) := by decide +kernel
theorem dL_law_161 : decode cL_law 161 = .ok (.iload_n 3, 1) := by decide +kernel
theorem dL_law_162 : decode cL_law 162 = .ok (.iconst 1, 1) := by decide +kernel
theorem dL_law_163 : decode cL_law 163 = .ok (.iadd, 1) := by decide +kernel
theorem dL_law_164 : decode cL_law 164 = .ok (.iaload, 1) := by decide +kernel
theorem dL_law_165 : decode cL_law 165 = .ok (.aload_n 0, 1) := by decide +kernel
theorem dL_law_166 : decode cL_law 166 = .ok (.iload_n 3, 1) := by decide +kernel
theorem dL_law_167 : decode cL_law 167 = .ok (.iconst 2, 1) := by decide +kernel
theorem dL_law_168 : decode cL_law 168 = .ok (.iadd, 1) := by decide +kernel
theorem dL_law_169 : decode cL_law 169 = .ok (.iaload, 1) := by decide +kernel
theorem dL_law_170 : decode cL_law 170 = .ok (.invokevirtual 18, 3) := by decide +kernel
theorem dL_law_173 : decode cL_law 173 = .ok (.aload_n 2, 1) := by decide +kernel
theorem dL_law_174 : decode cL_law 174 = .ok (.aload_n 0, 1) := by decide +kernel
theorem dL_law_175 : decode cL_law 175 = .ok (.iload_n 3, 1) := by decide +kernel
theorem dL_law_176 : decode cL_law 176 = .ok (.iconst 1, 1) := by decide +kernel
theorem dL_law_177 : decode cL_law 177 = .ok (.iadd, 1) := by decide +kernel
theorem dL_law_178 : decode cL_law 178 = .ok (.iaload, 1) := by decide +kernel
theorem dL_law_179 : decode cL_law 179 = .ok (.aload_n 0, 1) := by decide +kernel
theorem dL_law_180 : decode cL_law 180 = .ok (.iload_n 3, 1) := by decide +kernel
theorem dL_law_181 : decode cL_law 181 = .ok (.iconst 2, 1) := by decide +kernel
theorem dL_law_182 : decode cL_law 182 = .ok (.iadd, 1) := by decide +kernel
theorem dL_law_183 : decode cL_law 183 = .ok (.iaload, 1) := by decide +kernel
theorem dL_law_184 : decode cL_law 184 = .ok (.invokevirtual 22, 3) := by decide +kernel
theorem dL_law_187 : decode cL_law 187 = .ok (.if_icmp .eq 533, 3) := by decide +kernel
theorem dL_law_190 : decode cL_law 190 = .ok (.iconst 0, 1) := by decide +kernel
theorem dL_law_191 : decode cL_law 191 = .ok (.ireturn, 1) := by decide +kernel
theorem dL_law_192 : decode cL_law 192 = .ok (.aload_n 1, 1) := by decide +kernel
theorem dL_law_193 : decode cL_law 193 = .ok (.aload_n 0, 1) := by decide +kernel
theorem dL_law_194 : decode cL_law 194 = .ok (.iload_n 3, 1) := by decide +kernel
theorem dL_law_195 : decode cL_law 195 = .ok (.iconst 1, 1) := by decide +kernel
theorem dL_law_196 : decode cL_law 196 = .ok (.iadd, 1) := by decide +kernel
theorem dL_law_197 : decode cL_law 197 = .ok (.iaload, 1) := by decide +kernel
theorem dL_law_198 : decode cL_law 198 = .ok (.aload_n 0, 1) := by decide +kernel
theorem dL_law_199 : decode cL_law 199 = .ok (.iload_n 3, 1) := by decide +kernel
theorem dL_law_200 : decode cL_law 200 = .ok (.iconst 2, 1) := by decide +kernel
theorem dL_law_201 : decode cL_law 201 = .ok (.iadd, 1) := by decide +kernel
theorem dL_law_202 : decode cL_law 202 = .ok (.iaload, 1) := by decide +kernel
theorem dL_law_203 : decode cL_law 203 = .ok (.invokevirtual 23, 3) := by decide +kernel
theorem dL_law_206 : decode cL_law 206 = .ok (.aload_n 2, 1) := by decide +kernel
theorem dL_law_207 : decode cL_law 207 = .ok (.aload_n 0, 1) := by decide +kernel
theorem dL_law_208 : decode cL_law 208 = .ok (.iload_n 3, 1) := by decide +kernel
theorem dL_law_209 : decode cL_law 209 = .ok (.iconst 1, 1) := by decide +kernel
theorem dL_law_210 : decode cL_law 210 = .ok (.iadd, 1) := by decide +kernel
theorem dL_law_211 : decode cL_law 211 = .ok (.iaload, 1) := by decide +kernel
theorem dL_law_212 : decode cL_law 212 = .ok (.aload_n 0, 1) := by decide +kernel
theorem dL_law_213 : decode cL_law 213 = .ok (.iload_n 3, 1) := by decide +kernel
theorem dL_law_214 : decode cL_law 214 = .ok (.iconst 2, 1) := by decide +kernel
theorem dL_law_215 : decode cL_law 215 = .ok (.iadd, 1) := by decide +kernel
theorem dL_law_216 : decode cL_law 216 = .ok (.iaload, 1) := by decide +kernel
theorem dL_law_217 : decode cL_law 217 = .ok (.invokevirtual 26, 3) := by decide +kernel
theorem dL_law_220 : decode cL_law 220 = .ok (.if_icmp .eq 500, 3) := by decide +kernel
theorem dL_law_223 : decode cL_law 223 = .ok (.iconst 0, 1) := by decide +kernel
theorem dL_law_224 : decode cL_law 224 = .ok (.ireturn, 1) := by decide +kernel
theorem dL_law_225 : decode cL_law 225 = .ok (.aload_n 1, 1) := by decide +kernel
theorem dL_law_226 : decode cL_law 226 = .ok (.aload_n 0, 1) := by decide +kernel
theorem dL_law_227 : decode cL_law 227 = .ok (.iload_n 3, 1) := by decide +kernel
theorem dL_law_228 : decode cL_law 228 = .ok (.iconst 1, 1) := by decide +kernel
theorem dL_law_229 : decode cL_law 229 = .ok (.iadd, 1) := by decide +kernel
theorem dL_law_230 : decode cL_law 230 = .ok (.iaload, 1) := by decide +kernel
theorem dL_law_231 : decode cL_law 231 = .ok (.invokevirtual 27, 3) := by decide +kernel
theorem dL_law_234 : decode cL_law 234 = .ok (.aload_n 2, 1) := by decide +kernel
theorem dL_law_235 : decode cL_law 235 = .ok (.aload_n 0, 1) := by decide +kernel
theorem dL_law_236 : decode cL_law 236 = .ok (.iload_n 3, 1) := by decide +kernel
theorem dL_law_237 : decode cL_law 237 = .ok (.iconst 1, 1) := by decide +kernel
theorem dL_law_238 : decode cL_law 238 = .ok (.iadd, 1) := by decide +kernel
theorem dL_law_239 : decode cL_law 239 = .ok (.iaload, 1) := by decide +kernel
theorem dL_law_240 : decode cL_law 240 = .ok (.invokevirtual 30, 3) := by decide +kernel
theorem dL_law_243 : decode cL_law 243 = .ok (.if_icmp .eq 477, 3) := by decide +kernel
theorem dL_law_246 : decode cL_law 246 = .ok (.iconst 0, 1) := by decide +kernel
theorem dL_law_247 : decode cL_law 247 = .ok (.ireturn, 1) := by decide +kernel
theorem dL_law_248 : decode cL_law 248 = .ok (.aload_n 1, 1) := by decide +kernel
theorem dL_law_249 : decode cL_law 249 = .ok (.aload_n 0, 1) := by decide +kernel
theorem dL_law_250 : decode cL_law 250 = .ok (.iload_n 3, 1) := by decide +kernel
theorem dL_law_251 : decode cL_law 251 = .ok (.iconst 1, 1) := by decide +kernel
theorem dL_law_252 : decode cL_law 252 = .ok (.iadd, 1) := by decide +kernel
theorem dL_law_253 : decode cL_law 253 = .ok (.iaload, 1) := by decide +kernel
theorem dL_law_254 : decode cL_law 254 = .ok (.invokevirtual 31, 3) := by decide +kernel
theorem dL_law_257 : decode cL_law 257 = .ok (.aload_n 2, 1) := by decide +kernel
theorem dL_law_258 : decode cL_law 258 = .ok (.aload_n 0, 1) := by decide +kernel
theorem dL_law_259 : decode cL_law 259 = .ok (.iload_n 3, 1) := by decide +kernel
theorem dL_law_260 : decode cL_law 260 = .ok (.iconst 1, 1) := by decide +kernel
theorem dL_law_261 : decode cL_law 261 = .ok (.iadd, 1) := by decide +kernel
theorem dL_law_262 : decode cL_law 262 = .ok (.iaload, 1) := by decide +kernel
theorem dL_law_263 : decode cL_law 263 = .ok (.invokevirtual 34, 3) := by decide +kernel
theorem dL_law_266 : decode cL_law 266 = .ok (.if_icmp .eq 454, 3) := by decide +kernel
theorem dL_law_269 : decode cL_law 269 = .ok (.iconst 0, 1) := by decide +kernel
theorem dL_law_270 : decode cL_law 270 = .ok (.ireturn, 1) := by decide +kernel
theorem dL_law_271 : decode cL_law 271 = .ok (.aload_n 1, 1) := by decide +kernel
theorem dL_law_272 : decode cL_law 272 = .ok (.aload_n 0, 1) := by decide +kernel
theorem dL_law_273 : decode cL_law 273 = .ok (.iload_n 3, 1) := by decide +kernel
theorem dL_law_274 : decode cL_law 274 = .ok (.iconst 1, 1) := by decide +kernel
theorem dL_law_275 : decode cL_law 275 = .ok (.iadd, 1) := by decide +kernel
theorem dL_law_276 : decode cL_law 276 = .ok (.iaload, 1) := by decide +kernel
theorem dL_law_277 : decode cL_law 277 = .ok (.ifCond .eq 7, 3) := by decide +kernel
theorem dL_law_280 : decode cL_law 280 = .ok (.iconst 1, 1) := by decide +kernel
theorem dL_law_281 : decode cL_law 281 = .ok (.goto 4, 3) := by decide +kernel
theorem dL_law_284 : decode cL_law 284 = .ok (.iconst 0, 1) := by decide +kernel
theorem dL_law_285 : decode cL_law 285 = .ok (.invokevirtual 35, 3) := by decide +kernel
theorem dL_law_288 : decode cL_law 288 = .ok (.aload_n 2, 1) := by decide +kernel
theorem dL_law_289 : decode cL_law 289 = .ok (.aload_n 0, 1) := by decide +kernel
theorem dL_law_290 : decode cL_law 290 = .ok (.iload_n 3, 1) := by decide +kernel
theorem dL_law_291 : decode cL_law 291 = .ok (.iconst 1, 1) := by decide +kernel
theorem dL_law_292 : decode cL_law 292 = .ok (.iadd, 1) := by decide +kernel
theorem dL_law_293 : decode cL_law 293 = .ok (.iaload, 1) := by decide +kernel
theorem dL_law_294 : decode cL_law 294 = .ok (.ifCond .eq 7, 3) := by decide +kernel
theorem dL_law_297 : decode cL_law 297 = .ok (.iconst 1, 1) := by decide +kernel
theorem dL_law_298 : decode cL_law 298 = .ok (.goto 4, 3) := by decide +kernel
theorem dL_law_301 : decode cL_law 301 = .ok (.iconst 0, 1) := by decide +kernel
theorem dL_law_302 : decode cL_law 302 = .ok (.invokevirtual 39, 3) := by decide +kernel
theorem dL_law_305 : decode cL_law 305 = .ok (.if_icmp .eq 415, 3) := by decide +kernel
theorem dL_law_308 : decode cL_law 308 = .ok (.iconst 0, 1) := by decide +kernel
theorem dL_law_309 : decode cL_law 309 = .ok (.ireturn, 1) := by decide +kernel
theorem dL_law_310 : decode cL_law 310 = .ok (.aload_n 1, 1) := by decide +kernel
theorem dL_law_311 : decode cL_law 311 = .ok (.aload_n 0, 1) := by decide +kernel
theorem dL_law_312 : decode cL_law 312 = .ok (.iload_n 3, 1) := by decide +kernel
theorem dL_law_313 : decode cL_law 313 = .ok (.iconst 1, 1) := by decide +kernel
theorem dL_law_314 : decode cL_law 314 = .ok (.iadd, 1) := by decide +kernel
theorem dL_law_315 : decode cL_law 315 = .ok (.iaload, 1) := by decide +kernel
theorem dL_law_316 : decode cL_law 316 = .ok (.invokevirtual 40, 3) := by decide +kernel
theorem dL_law_319 : decode cL_law 319 = .ok (.aload_n 2, 1) := by decide +kernel
theorem dL_law_320 : decode cL_law 320 = .ok (.aload_n 0, 1) := by decide +kernel
theorem dL_law_321 : decode cL_law 321 = .ok (.iload_n 3, 1) := by decide +kernel
theorem dL_law_322 : decode cL_law 322 = .ok (.iconst 1, 1) := by decide +kernel
theorem dL_law_323 : decode cL_law 323 = .ok (.iadd, 1) := by decide +kernel
theorem dL_law_324 : decode cL_law 324 = .ok (.iaload, 1) := by decide +kernel
theorem dL_law_325 : decode cL_law 325 = .ok (.invokevirtual 43, 3) := by decide +kernel
theorem dL_law_328 : decode cL_law 328 = .ok (.if_icmp .eq 392, 3) := by decide +kernel
theorem dL_law_331 : decode cL_law 331 = .ok (.iconst 0, 1) := by decide +kernel
theorem dL_law_332 : decode cL_law 332 = .ok (.ireturn, 1) := by decide +kernel
theorem dL_law_333 : decode cL_law 333 = .ok (.aload_n 1, 1) := by decide +kernel
theorem dL_law_334 : decode cL_law 334 = .ok (.aload_n 0, 1) := by decide +kernel
theorem dL_law_335 : decode cL_law 335 = .ok (.iload_n 3, 1) := by decide +kernel
theorem dL_law_336 : decode cL_law 336 = .ok (.iconst 1, 1) := by decide +kernel
theorem dL_law_337 : decode cL_law 337 = .ok (.iadd, 1) := by decide +kernel
theorem dL_law_338 : decode cL_law 338 = .ok (.iaload, 1) := by decide +kernel
theorem dL_law_339 : decode cL_law 339 = .ok (.aload_n 0, 1) := by decide +kernel
theorem dL_law_340 : decode cL_law 340 = .ok (.iload_n 3, 1) := by decide +kernel
theorem dL_law_341 : decode cL_law 341 = .ok (.iconst 2, 1) := by decide +kernel
theorem dL_law_342 : decode cL_law 342 = .ok (.iadd, 1) := by decide +kernel
theorem dL_law_343 : decode cL_law 343 = .ok (.iaload, 1) := by decide +kernel
theorem dL_law_344 : decode cL_law 344 = .ok (.invokevirtual 44, 3) := by decide +kernel
theorem dL_law_347 : decode cL_law 347 = .ok (.aload_n 2, 1) := by decide +kernel
theorem dL_law_348 : decode cL_law 348 = .ok (.aload_n 0, 1) := by decide +kernel
theorem dL_law_349 : decode cL_law 349 = .ok (.iload_n 3, 1) := by decide +kernel
theorem dL_law_350 : decode cL_law 350 = .ok (.iconst 1, 1) := by decide +kernel
theorem dL_law_351 : decode cL_law 351 = .ok (.iadd, 1) := by decide +kernel
theorem dL_law_352 : decode cL_law 352 = .ok (.iaload, 1) := by decide +kernel
theorem dL_law_353 : decode cL_law 353 = .ok (.aload_n 0, 1) := by decide +kernel
theorem dL_law_354 : decode cL_law 354 = .ok (.iload_n 3, 1) := by decide +kernel
theorem dL_law_355 : decode cL_law 355 = .ok (.iconst 2, 1) := by decide +kernel
theorem dL_law_356 : decode cL_law 356 = .ok (.iadd, 1) := by decide +kernel
theorem dL_law_357 : decode cL_law 357 = .ok (.iaload, 1) := by decide +kernel
theorem dL_law_358 : decode cL_law 358 = .ok (.invokevirtual 47, 3) := by decide +kernel
theorem dL_law_361 : decode cL_law 361 = .ok (.if_icmp .eq 359, 3) := by decide +kernel
theorem dL_law_364 : decode cL_law 364 = .ok (.iconst 0, 1) := by decide +kernel
theorem dL_law_365 : decode cL_law 365 = .ok (.ireturn, 1) := by decide +kernel
theorem dL_law_366 : decode cL_law 366 = .ok (.aload_n 1, 1) := by decide +kernel
theorem dL_law_367 : decode cL_law 367 = .ok (.aload_n 0, 1) := by decide +kernel
theorem dL_law_368 : decode cL_law 368 = .ok (.iload_n 3, 1) := by decide +kernel
theorem dL_law_369 : decode cL_law 369 = .ok (.iconst 1, 1) := by decide +kernel
theorem dL_law_370 : decode cL_law 370 = .ok (.iadd, 1) := by decide +kernel
theorem dL_law_371 : decode cL_law 371 = .ok (.iaload, 1) := by decide +kernel
theorem dL_law_372 : decode cL_law 372 = .ok (.aload_n 0, 1) := by decide +kernel
theorem dL_law_373 : decode cL_law 373 = .ok (.iload_n 3, 1) := by decide +kernel
theorem dL_law_374 : decode cL_law 374 = .ok (.iconst 2, 1) := by decide +kernel
theorem dL_law_375 : decode cL_law 375 = .ok (.iadd, 1) := by decide +kernel
theorem dL_law_376 : decode cL_law 376 = .ok (.iaload, 1) := by decide +kernel
theorem dL_law_377 : decode cL_law 377 = .ok (.aload_n 0, 1) := by decide +kernel
theorem dL_law_378 : decode cL_law 378 = .ok (.iload_n 3, 1) := by decide +kernel
theorem dL_law_379 : decode cL_law 379 = .ok (.iconst 3, 1) := by decide +kernel
theorem dL_law_380 : decode cL_law 380 = .ok (.iadd, 1) := by decide +kernel
theorem dL_law_381 : decode cL_law 381 = .ok (.iaload, 1) := by decide +kernel
theorem dL_law_382 : decode cL_law 382 = .ok (.invokevirtual 48, 3) := by decide +kernel
theorem dL_law_385 : decode cL_law 385 = .ok (.aload_n 2, 1) := by decide +kernel
theorem dL_law_386 : decode cL_law 386 = .ok (.aload_n 0, 1) := by decide +kernel
theorem dL_law_387 : decode cL_law 387 = .ok (.iload_n 3, 1) := by decide +kernel
theorem dL_law_388 : decode cL_law 388 = .ok (.iconst 1, 1) := by decide +kernel
theorem dL_law_389 : decode cL_law 389 = .ok (.iadd, 1) := by decide +kernel
theorem dL_law_390 : decode cL_law 390 = .ok (.iaload, 1) := by decide +kernel
theorem dL_law_391 : decode cL_law 391 = .ok (.aload_n 0, 1) := by decide +kernel
theorem dL_law_392 : decode cL_law 392 = .ok (.iload_n 3, 1) := by decide +kernel
theorem dL_law_393 : decode cL_law 393 = .ok (.iconst 2, 1) := by decide +kernel
theorem dL_law_394 : decode cL_law 394 = .ok (.iadd, 1) := by decide +kernel
theorem dL_law_395 : decode cL_law 395 = .ok (.iaload, 1) := by decide +kernel
theorem dL_law_396 : decode cL_law 396 = .ok (.aload_n 0, 1) := by decide +kernel
theorem dL_law_397 : decode cL_law 397 = .ok (.iload_n 3, 1) := by decide +kernel
theorem dL_law_398 : decode cL_law 398 = .ok (.iconst 3, 1) := by decide +kernel
theorem dL_law_399 : decode cL_law 399 = .ok (.iadd, 1) := by decide +kernel
theorem dL_law_400 : decode cL_law 400 = .ok (.iaload, 1) := by decide +kernel
theorem dL_law_401 : decode cL_law 401 = .ok (.invokevirtual 52, 3) := by decide +kernel
theorem dL_law_404 : decode cL_law 404 = .ok (.if_icmp .eq 316, 3) := by decide +kernel
theorem dL_law_407 : decode cL_law 407 = .ok (.iconst 0, 1) := by decide +kernel
theorem dL_law_408 : decode cL_law 408 = .ok (.ireturn, 1) := by decide +kernel
theorem dL_law_409 : decode cL_law 409 = .ok (.aload_n 1, 1) := by decide +kernel
theorem dL_law_410 : decode cL_law 410 = .ok (.aload_n 0, 1) := by decide +kernel
theorem dL_law_411 : decode cL_law 411 = .ok (.iload_n 3, 1) := by decide +kernel
theorem dL_law_412 : decode cL_law 412 = .ok (.iconst 1, 1) := by decide +kernel
theorem dL_law_413 : decode cL_law 413 = .ok (.iadd, 1) := by decide +kernel
theorem dL_law_414 : decode cL_law 414 = .ok (.iaload, 1) := by decide +kernel
theorem dL_law_415 : decode cL_law 415 = .ok (.invokevirtual 53, 3) := by decide +kernel
theorem dL_law_418 : decode cL_law 418 = .ok (.aload_n 2, 1) := by decide +kernel
theorem dL_law_419 : decode cL_law 419 = .ok (.aload_n 0, 1) := by decide +kernel
theorem dL_law_420 : decode cL_law 420 = .ok (.iload_n 3, 1) := by decide +kernel
theorem dL_law_421 : decode cL_law 421 = .ok (.iconst 1, 1) := by decide +kernel
theorem dL_law_422 : decode cL_law 422 = .ok (.iadd, 1) := by decide +kernel
theorem dL_law_423 : decode cL_law 423 = .ok (.iaload, 1) := by decide +kernel
theorem dL_law_424 : decode cL_law 424 = .ok (.invokevirtual 56, 3) := by decide +kernel
theorem dL_law_427 : decode cL_law 427 = .ok (.if_icmp .eq 293, 3) := by decide +kernel
theorem dL_law_430 : decode cL_law 430 = .ok (.iconst 0, 1) := by decide +kernel
theorem dL_law_431 : decode cL_law 431 = .ok (.ireturn, 1) := by decide +kernel
theorem dL_law_432 : decode cL_law 432 = .ok (.aload_n 1, 1) := by decide +kernel
theorem dL_law_433 : decode cL_law 433 = .ok (.aload_n 0, 1) := by decide +kernel
theorem dL_law_434 : decode cL_law 434 = .ok (.iload_n 3, 1) := by decide +kernel
theorem dL_law_435 : decode cL_law 435 = .ok (.iconst 1, 1) := by decide +kernel
theorem dL_law_436 : decode cL_law 436 = .ok (.iadd, 1) := by decide +kernel
theorem dL_law_437 : decode cL_law 437 = .ok (.iaload, 1) := by decide +kernel
theorem dL_law_438 : decode cL_law 438 = .ok (.i2c, 1) := by decide +kernel
theorem dL_law_439 : decode cL_law 439 = .ok (.invokevirtual 57, 3) := by decide +kernel
theorem dL_law_442 : decode cL_law 442 = .ok (.aload_n 2, 1) := by decide +kernel
theorem dL_law_443 : decode cL_law 443 = .ok (.aload_n 0, 1) := by decide +kernel
theorem dL_law_444 : decode cL_law 444 = .ok (.iload_n 3, 1) := by decide +kernel
theorem dL_law_445 : decode cL_law 445 = .ok (.iconst 1, 1) := by decide +kernel
theorem dL_law_446 : decode cL_law 446 = .ok (.iadd, 1) := by decide +kernel
theorem dL_law_447 : decode cL_law 447 = .ok (.iaload, 1) := by decide +kernel
theorem dL_law_448 : decode cL_law 448 = .ok (.i2c, 1) := by decide +kernel
theorem dL_law_449 : decode cL_law 449 = .ok (.invokevirtual 61, 3) := by decide +kernel
theorem dL_law_452 : decode cL_law 452 = .ok (.if_icmp .eq 268, 3) := by decide +kernel
theorem dL_law_455 : decode cL_law 455 = .ok (.iconst 0, 1) := by decide +kernel
theorem dL_law_456 : decode cL_law 456 = .ok (.ireturn, 1) := by decide +kernel
theorem dL_law_457 : decode cL_law 457 = .ok (.aload_n 1, 1) := by decide +kernel
theorem dL_law_458 : decode cL_law 458 = .ok (.invokevirtual 62, 3) := by decide +kernel
theorem dL_law_461 : decode cL_law 461 = .ok (.aload_n 2, 1) := by decide +kernel
theorem dL_law_462 : decode cL_law 462 = .ok (.invokevirtual 66, 3) := by decide +kernel
theorem dL_law_465 : decode cL_law 465 = .ok (.if_icmp .eq 255, 3) := by decide +kernel
theorem dL_law_468 : decode cL_law 468 = .ok (.iconst 0, 1) := by decide +kernel
theorem dL_law_469 : decode cL_law 469 = .ok (.ireturn, 1) := by decide +kernel
theorem dL_law_470 : decode cL_law 470 = .ok (.aload_n 1, 1) := by decide +kernel
theorem dL_law_471 : decode cL_law 471 = .ok (.aload_n 0, 1) := by decide +kernel
theorem dL_law_472 : decode cL_law 472 = .ok (.iload_n 3, 1) := by decide +kernel
theorem dL_law_473 : decode cL_law 473 = .ok (.iconst 1, 1) := by decide +kernel
theorem dL_law_474 : decode cL_law 474 = .ok (.iadd, 1) := by decide +kernel
theorem dL_law_475 : decode cL_law 475 = .ok (.iaload, 1) := by decide +kernel
theorem dL_law_476 : decode cL_law 476 = .ok (.invokevirtual 67, 3) := by decide +kernel
theorem dL_law_479 : decode cL_law 479 = .ok (.aload_n 2, 1) := by decide +kernel
theorem dL_law_480 : decode cL_law 480 = .ok (.aload_n 0, 1) := by decide +kernel
theorem dL_law_481 : decode cL_law 481 = .ok (.iload_n 3, 1) := by decide +kernel
theorem dL_law_482 : decode cL_law 482 = .ok (.iconst 1, 1) := by decide +kernel
theorem dL_law_483 : decode cL_law 483 = .ok (.iadd, 1) := by decide +kernel
theorem dL_law_484 : decode cL_law 484 = .ok (.iaload, 1) := by decide +kernel
theorem dL_law_485 : decode cL_law 485 = .ok (.invokevirtual 70, 3) := by decide +kernel
theorem dL_law_488 : decode cL_law 488 = .ok (.if_icmp .eq 232, 3) := by decide +kernel
theorem dL_law_491 : decode cL_law 491 = .ok (.iconst 0, 1) := by decide +kernel
theorem dL_law_492 : decode cL_law 492 = .ok (.ireturn, 1) := by decide +kernel
theorem dL_law_493 : decode cL_law 493 = .ok (.aload_n 1, 1) := by decide +kernel
theorem dL_law_494 : decode cL_law 494 = .ok (.invokevirtual 71, 3) := by decide +kernel
theorem dL_law_497 : decode cL_law 497 = .ok (.aload_n 2, 1) := by decide +kernel
theorem dL_law_498 : decode cL_law 498 = .ok (.invokevirtual 74, 3) := by decide +kernel
theorem dL_law_501 : decode cL_law 501 = .ok (.if_icmp .eq 219, 3) := by decide +kernel
theorem dL_law_504 : decode cL_law 504 = .ok (.iconst 0, 1) := by decide +kernel
theorem dL_law_505 : decode cL_law 505 = .ok (.ireturn, 1) := by decide +kernel
theorem dL_law_506 : decode cL_law 506 = .ok (.aload_n 1, 1) := by decide +kernel
theorem dL_law_507 : decode cL_law 507 = .ok (.invokevirtual 75, 3) := by decide +kernel
theorem dL_law_510 : decode cL_law 510 = .ok (.aload_n 2, 1) := by decide +kernel
theorem dL_law_511 : decode cL_law 511 = .ok (.invokevirtual 78, 3) := by decide +kernel
theorem dL_law_514 : decode cL_law 514 = .ok (.if_icmp .eq 206, 3) := by decide +kernel
theorem dL_law_517 : decode cL_law 517 = .ok (.iconst 0, 1) := by decide +kernel
theorem dL_law_518 : decode cL_law 518 = .ok (.ireturn, 1) := by decide +kernel
theorem dL_law_519 : decode cL_law 519 = .ok (.aload_n 1, 1) := by decide +kernel
theorem dL_law_520 : decode cL_law 520 = .ok (.invokevirtual 79, 3) := by decide +kernel
theorem dL_law_523 : decode cL_law 523 = .ok (.aload_n 2, 1) := by decide +kernel
theorem dL_law_524 : decode cL_law 524 = .ok (.invokevirtual 82, 3) := by decide +kernel
theorem dL_law_527 : decode cL_law 527 = .ok (.if_icmp .eq 193, 3) := by decide +kernel
theorem dL_law_530 : decode cL_law 530 = .ok (.iconst 0, 1) := by decide +kernel
theorem dL_law_531 : decode cL_law 531 = .ok (.ireturn, 1) := by decide +kernel
theorem dL_law_532 : decode cL_law 532 = .ok (.aload_n 1, 1) := by decide +kernel
theorem dL_law_533 : decode cL_law 533 = .ok (.aload_n 0, 1) := by decide +kernel
theorem dL_law_534 : decode cL_law 534 = .ok (.iload_n 3, 1) := by decide +kernel
theorem dL_law_535 : decode cL_law 535 = .ok (.iconst 1, 1) := by decide +kernel
theorem dL_law_536 : decode cL_law 536 = .ok (.iadd, 1) := by decide +kernel
theorem dL_law_537 : decode cL_law 537 = .ok (.iaload, 1) := by decide +kernel
theorem dL_law_538 : decode cL_law 538 = .ok (.aload_n 0, 1) := by decide +kernel
theorem dL_law_539 : decode cL_law 539 = .ok (.iload_n 3, 1) := by decide +kernel
theorem dL_law_540 : decode cL_law 540 = .ok (.iconst 2, 1) := by decide +kernel
theorem dL_law_541 : decode cL_law 541 = .ok (.iadd, 1) := by decide +kernel
theorem dL_law_542 : decode cL_law 542 = .ok (.iaload, 1) := by decide +kernel
theorem dL_law_543 : decode cL_law 543 = .ok (.invokevirtual 83, 3) := by decide +kernel
theorem dL_law_546 : decode cL_law 546 = .ok (.aload_n 2, 1) := by decide +kernel
theorem dL_law_547 : decode cL_law 547 = .ok (.aload_n 0, 1) := by decide +kernel
theorem dL_law_548 : decode cL_law 548 = .ok (.iload_n 3, 1) := by decide +kernel
theorem dL_law_549 : decode cL_law 549 = .ok (.iconst 1, 1) := by decide +kernel
theorem dL_law_550 : decode cL_law 550 = .ok (.iadd, 1) := by decide +kernel
theorem dL_law_551 : decode cL_law 551 = .ok (.iaload, 1) := by decide +kernel
theorem dL_law_552 : decode cL_law 552 = .ok (.aload_n 0, 1) := by decide +kernel
theorem dL_law_553 : decode cL_law 553 = .ok (.iload_n 3, 1) := by decide +kernel
theorem dL_law_554 : decode cL_law 554 = .ok (.iconst 2, 1) := by decide +kernel
theorem dL_law_555 : decode cL_law 555 = .ok (.iadd, 1) := by decide +kernel
theorem dL_law_556 : decode cL_law 556 = .ok (.iaload, 1) := by decide +kernel
theorem dL_law_557 : decode cL_law 557 = .ok (.invokevirtual 86, 3) := by decide +kernel
theorem dL_law_560 : decode cL_law 560 = .ok (.if_icmp .eq 160, 3) := by decide +kernel
theorem dL_law_563 : decode cL_law 563 = .ok (.iconst 0, 1) := by decide +kernel
theorem dL_law_564 : decode cL_law 564 = .ok (.ireturn, 1) := by decide +kernel
theorem dL_law_565 : decode cL_law 565 = .ok (.aload_n 1, 1) := by decide +kernel
theorem dL_law_566 : decode cL_law 566 = .ok (.aload_n 0, 1) := by decide +kernel
theorem dL_law_567 : decode cL_law 567 = .ok (.iload_n 3, 1) := by decide +kernel
theorem dL_law_568 : decode cL_law 568 = .ok (.iconst 1, 1) := by decide +kernel
theorem dL_law_569 : decode cL_law 569 = .ok (.iadd, 1) := by decide +kernel
theorem dL_law_570 : decode cL_law 570 = .ok (.iaload, 1) := by decide +kernel
theorem dL_law_571 : decode cL_law 571 = .ok (.aload_n 0, 1) := by decide +kernel
theorem dL_law_572 : decode cL_law 572 = .ok (.iload_n 3, 1) := by decide +kernel
theorem dL_law_573 : decode cL_law 573 = .ok (.iconst 2, 1) := by decide +kernel
theorem dL_law_574 : decode cL_law 574 = .ok (.iadd, 1) := by decide +kernel
theorem dL_law_575 : decode cL_law 575 = .ok (.iaload, 1) := by decide +kernel
theorem dL_law_576 : decode cL_law 576 = .ok (.aload_n 0, 1) := by decide +kernel
theorem dL_law_577 : decode cL_law 577 = .ok (.iload_n 3, 1) := by decide +kernel
theorem dL_law_578 : decode cL_law 578 = .ok (.iconst 3, 1) := by decide +kernel
theorem dL_law_579 : decode cL_law 579 = .ok (.iadd, 1) := by decide +kernel
theorem dL_law_580 : decode cL_law 580 = .ok (.iaload, 1) := by decide +kernel
theorem dL_law_581 : decode cL_law 581 = .ok (.invokevirtual 87, 3) := by decide +kernel
theorem dL_law_584 : decode cL_law 584 = .ok (.aload_n 2, 1) := by decide +kernel
theorem dL_law_585 : decode cL_law 585 = .ok (.aload_n 0, 1) := by decide +kernel
theorem dL_law_586 : decode cL_law 586 = .ok (.iload_n 3, 1) := by decide +kernel
theorem dL_law_587 : decode cL_law 587 = .ok (.iconst 1, 1) := by decide +kernel
theorem dL_law_588 : decode cL_law 588 = .ok (.iadd, 1) := by decide +kernel
theorem dL_law_589 : decode cL_law 589 = .ok (.iaload, 1) := by decide +kernel
theorem dL_law_590 : decode cL_law 590 = .ok (.aload_n 0, 1) := by decide +kernel
theorem dL_law_591 : decode cL_law 591 = .ok (.iload_n 3, 1) := by decide +kernel
theorem dL_law_592 : decode cL_law 592 = .ok (.iconst 2, 1) := by decide +kernel
theorem dL_law_593 : decode cL_law 593 = .ok (.iadd, 1) := by decide +kernel
theorem dL_law_594 : decode cL_law 594 = .ok (.iaload, 1) := by decide +kernel
theorem dL_law_595 : decode cL_law 595 = .ok (.aload_n 0, 1) := by decide +kernel
theorem dL_law_596 : decode cL_law 596 = .ok (.iload_n 3, 1) := by decide +kernel
theorem dL_law_597 : decode cL_law 597 = .ok (.iconst 3, 1) := by decide +kernel
theorem dL_law_598 : decode cL_law 598 = .ok (.iadd, 1) := by decide +kernel
theorem dL_law_599 : decode cL_law 599 = .ok (.iaload, 1) := by decide +kernel
theorem dL_law_600 : decode cL_law 600 = .ok (.invokevirtual 90, 3) := by decide +kernel
theorem dL_law_603 : decode cL_law 603 = .ok (.if_icmp .eq 117, 3) := by decide +kernel
theorem dL_law_606 : decode cL_law 606 = .ok (.iconst 0, 1) := by decide +kernel
theorem dL_law_607 : decode cL_law 607 = .ok (.ireturn, 1) := by decide +kernel
theorem dL_law_608 : decode cL_law 608 = .ok (.aload_n 1, 1) := by decide +kernel
theorem dL_law_609 : decode cL_law 609 = .ok (.aload_n 0, 1) := by decide +kernel
theorem dL_law_610 : decode cL_law 610 = .ok (.iload_n 3, 1) := by decide +kernel
theorem dL_law_611 : decode cL_law 611 = .ok (.iconst 1, 1) := by decide +kernel
theorem dL_law_612 : decode cL_law 612 = .ok (.iadd, 1) := by decide +kernel
theorem dL_law_613 : decode cL_law 613 = .ok (.iaload, 1) := by decide +kernel
theorem dL_law_614 : decode cL_law 614 = .ok (.aload_n 0, 1) := by decide +kernel
theorem dL_law_615 : decode cL_law 615 = .ok (.iload_n 3, 1) := by decide +kernel
theorem dL_law_616 : decode cL_law 616 = .ok (.iconst 2, 1) := by decide +kernel
theorem dL_law_617 : decode cL_law 617 = .ok (.iadd, 1) := by decide +kernel
theorem dL_law_618 : decode cL_law 618 = .ok (.iaload, 1) := by decide +kernel
theorem dL_law_619 : decode cL_law 619 = .ok (.invokevirtual 91, 3) := by decide +kernel
theorem dL_law_622 : decode cL_law 622 = .ok (.aload_n 2, 1) := by decide +kernel
theorem dL_law_623 : decode cL_law 623 = .ok (.aload_n 0, 1) := by decide +kernel
theorem dL_law_624 : decode cL_law 624 = .ok (.iload_n 3, 1) := by decide +kernel
theorem dL_law_625 : decode cL_law 625 = .ok (.iconst 1, 1) := by decide +kernel
theorem dL_law_626 : decode cL_law 626 = .ok (.iadd, 1) := by decide +kernel
theorem dL_law_627 : decode cL_law 627 = .ok (.iaload, 1) := by decide +kernel
theorem dL_law_628 : decode cL_law 628 = .ok (.aload_n 0, 1) := by decide +kernel
theorem dL_law_629 : decode cL_law 629 = .ok (.iload_n 3, 1) := by decide +kernel
theorem dL_law_630 : decode cL_law 630 = .ok (.iconst 2, 1) := by decide +kernel
theorem dL_law_631 : decode cL_law 631 = .ok (.iadd, 1) := by decide +kernel
theorem dL_law_632 : decode cL_law 632 = .ok (.iaload, 1) := by decide +kernel
theorem dL_law_633 : decode cL_law 633 = .ok (.invokevirtual 94, 3) := by decide +kernel
theorem dL_law_636 : decode cL_law 636 = .ok (.if_icmp .eq 84, 3) := by decide +kernel
theorem dL_law_639 : decode cL_law 639 = .ok (.iconst 0, 1) := by decide +kernel
theorem dL_law_640 : decode cL_law 640 = .ok (.ireturn, 1) := by decide +kernel
theorem dL_law_641 : decode cL_law 641 = .ok (.aload_n 1, 1) := by decide +kernel
theorem dL_law_642 : decode cL_law 642 = .ok (.aload_n 0, 1) := by decide +kernel
theorem dL_law_643 : decode cL_law 643 = .ok (.iload_n 3, 1) := by decide +kernel
theorem dL_law_644 : decode cL_law 644 = .ok (.iconst 1, 1) := by decide +kernel
theorem dL_law_645 : decode cL_law 645 = .ok (.iadd, 1) := by decide +kernel
theorem dL_law_646 : decode cL_law 646 = .ok (.iaload, 1) := by decide +kernel
theorem dL_law_647 : decode cL_law 647 = .ok (.invokevirtual 95, 3) := by decide +kernel
theorem dL_law_650 : decode cL_law 650 = .ok (.aload_n 2, 1) := by decide +kernel
theorem dL_law_651 : decode cL_law 651 = .ok (.aload_n 0, 1) := by decide +kernel
theorem dL_law_652 : decode cL_law 652 = .ok (.iload_n 3, 1) := by decide +kernel
theorem dL_law_653 : decode cL_law 653 = .ok (.iconst 1, 1) := by decide +kernel
theorem dL_law_654 : decode cL_law 654 = .ok (.iadd, 1) := by decide +kernel
theorem dL_law_655 : decode cL_law 655 = .ok (.iaload, 1) := by decide +kernel
theorem dL_law_656 : decode cL_law 656 = .ok (.invokevirtual 98, 3) := by decide +kernel
theorem dL_law_659 : decode cL_law 659 = .ok (.if_icmp .eq 61, 3) := by decide +kernel
theorem dL_law_662 : decode cL_law 662 = .ok (.iconst 0, 1) := by decide +kernel
theorem dL_law_663 : decode cL_law 663 = .ok (.ireturn, 1) := by decide +kernel
theorem dL_law_664 : decode cL_law 664 = .ok (.aload_n 1, 1) := by decide +kernel
theorem dL_law_665 : decode cL_law 665 = .ok (.aload_n 0, 1) := by decide +kernel
theorem dL_law_666 : decode cL_law 666 = .ok (.iload_n 3, 1) := by decide +kernel
theorem dL_law_667 : decode cL_law 667 = .ok (.iconst 1, 1) := by decide +kernel
theorem dL_law_668 : decode cL_law 668 = .ok (.iadd, 1) := by decide +kernel
theorem dL_law_669 : decode cL_law 669 = .ok (.iaload, 1) := by decide +kernel
theorem dL_law_670 : decode cL_law 670 = .ok (.aload_n 0, 1) := by decide +kernel
theorem dL_law_671 : decode cL_law 671 = .ok (.iload_n 3, 1) := by decide +kernel
theorem dL_law_672 : decode cL_law 672 = .ok (.iconst 2, 1) := by decide +kernel
theorem dL_law_673 : decode cL_law 673 = .ok (.iadd, 1) := by decide +kernel
theorem dL_law_674 : decode cL_law 674 = .ok (.iaload, 1) := by decide +kernel
theorem dL_law_675 : decode cL_law 675 = .ok (.invokevirtual 99, 3) := by decide +kernel
theorem dL_law_678 : decode cL_law 678 = .ok (.aload_n 2, 1) := by decide +kernel
theorem dL_law_679 : decode cL_law 679 = .ok (.aload_n 0, 1) := by decide +kernel
theorem dL_law_680 : decode cL_law 680 = .ok (.iload_n 3, 1) := by decide +kernel
theorem dL_law_681 : decode cL_law 681 = .ok (.iconst 1, 1) := by decide +kernel
theorem dL_law_682 : decode cL_law 682 = .ok (.iadd, 1) := by decide +kernel
theorem dL_law_683 : decode cL_law 683 = .ok (.iaload, 1) := by decide +kernel
theorem dL_law_684 : decode cL_law 684 = .ok (.aload_n 0, 1) := by decide +kernel
theorem dL_law_685 : decode cL_law 685 = .ok (.iload_n 3, 1) := by decide +kernel
theorem dL_law_686 : decode cL_law 686 = .ok (.iconst 2, 1) := by decide +kernel
theorem dL_law_687 : decode cL_law 687 = .ok (.iadd, 1) := by decide +kernel
theorem dL_law_688 : decode cL_law 688 = .ok (.iaload, 1) := by decide +kernel
theorem dL_law_689 : decode cL_law 689 = .ok (.invokevirtual 102, 3) := by decide +kernel
theorem dL_law_692 : decode cL_law 692 = .ok (.if_icmp .eq 28, 3) := by decide +kernel
theorem dL_law_695 : decode cL_law 695 = .ok (.iconst 0, 1) := by decide +kernel
theorem dL_law_696 : decode cL_law 696 = .ok (.ireturn, 1) := by decide +kernel
theorem dL_law_697 : decode cL_law 697 = .ok (.aload_n 1, 1) := by decide +kernel
theorem dL_law_698 : decode cL_law 698 = .ok (.aload_n 0, 1) := by decide +kernel
theorem dL_law_699 : decode cL_law 699 = .ok (.iload_n 3, 1) := by decide +kernel
theorem dL_law_700 : decode cL_law 700 = .ok (.iconst 1, 1) := by decide +kernel
theorem dL_law_701 : decode cL_law 701 = .ok (.iadd, 1) := by decide +kernel
theorem dL_law_702 : decode cL_law 702 = .ok (.iaload, 1) := by decide +kernel
theorem dL_law_703 : decode cL_law 703 = .ok (.invokevirtual 103, 3) := by decide +kernel
theorem dL_law_706 : decode cL_law 706 = .ok (.aload_n 2, 1) := by decide +kernel
theorem dL_law_707 : decode cL_law 707 = .ok (.aload_n 0, 1) := by decide +kernel
theorem dL_law_708 : decode cL_law 708 = .ok (.iload_n 3, 1) := by decide +kernel
theorem dL_law_709 : decode cL_law 709 = .ok (.iconst 1, 1) := by decide +kernel
theorem dL_law_710 : decode cL_law 710 = .ok (.iadd, 1) := by decide +kernel
theorem dL_law_711 : decode cL_law 711 = .ok (.iaload, 1) := by decide +kernel
theorem dL_law_712 : decode cL_law 712 = .ok (.invokevirtual 106, 3) := by decide +kernel
theorem dL_law_715 : decode cL_law 715 = .ok (.if_icmp .eq 5, 3) := by decide +kernel
theorem dL_law_718 : decode cL_law 718 = .ok (.iconst 0, 1) := by decide +kernel
theorem dL_law_719 : decode cL_law 719 = .ok (.ireturn, 1) := by decide +kernel
theorem dL_law_720 : decode cL_law 720 = .ok (.iinc 3 4, 3) := by decide +kernel
theorem dL_law_723 : decode cL_law 723 = .ok (.goto (-705), 3) := by decide +kernel
theorem dL_law_726 : decode cL_law 726 = .ok (.iconst 1, 1) := by decide +kernel
theorem dL_law_727 : decode cL_law 727 = .ok (.ireturn, 1) := by decide +kernel
