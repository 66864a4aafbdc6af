theorem dX0_init_0 : decode cX0_init 0 = .ok (.aload_n 0, 1) := by decide +kernel
theorem dX0_init_1 : decode cX0_init 1 = .ok (.invokespecial 3, 3) := by decide +kernel
theorem dX0_init_4 : decode cX0_init 4 = .ok (.aload_n 0, 1) := by decide +kernel
theorem dX0_init_5 : decode cX0_init 5 = .ok (.ldc 9, 2) := by decide +kernel
theorem dX0_init_7 : decode cX0_init 7 = .ok (.newarray .int, 2) := by decide +kernel
theorem dX0_init_9 : decode cX0_init 9 = .ok (.putfield 10, 3) := by decide +kernel
theorem dX0_init_12 : decode cX0_init 12 = .ok (.aload_n 0, 1) := by decide +kernel
theorem dX0_init_13 : decode cX0_init 13 = .ok (.bipush 64, 2) := by decide +kernel
theorem dX0_init_15 : decode cX0_init 15 = .ok (.newarray .int, 2) := by decide +kernel
theorem dX0_init_17 : decode cX0_init 17 = .ok (.putfield 16, 3) := by decide +kernel
theorem dX0_init_20 : decode cX0_init 20 = .ok (.aload_n 0, 1) := by decide +kernel
theorem dX0_init_21 : decode cX0_init 21 = .ok (.iconst 0, 1) := by decide +kernel
theorem dX0_init_22 : decode cX0_init 22 = .ok (.putfield 19, 3) := by decide +kernel
theorem dX0_init_25 : decode cX0_init 25 = .ok (.aload_n 0, 1) := by decide +kernel
theorem dX0_init_26 : decode cX0_init 26 = .ok (.iconst 0, 1) := by decide +kernel
theorem dX0_init_27 : decode cX0_init 27 = .ok (.putfield 23, 3) := by decide +kernel
theorem dX0_init_30 : decode cX0_init 30 = .ok (.aload_n 0, 1) := by decide +kernel
theorem dX0_init_31 : decode cX0_init 31 = .ok (.iconst 0, 1) := by decide +kernel
theorem dX0_init_32 : decode cX0_init 32 = .ok (.putfield 26, 3) := by decide +kernel
theorem dX0_init_35 : decode cX0_init 35 = .ok (.aload_n 0, 1) := by decide +kernel
theorem dX0_init_36 : decode cX0_init 36 = .ok (.iconst 0, 1) := by decide +kernel
theorem dX0_init_37 : decode cX0_init 37 = .ok (.putfield 29, 3) := by decide +kernel
theorem dX0_init_40 : decode cX0_init 40 = .ok (.return_, 1) := by decide +kernel
theorem dX0_renew_0 : decode cX0_renew 0 = .ok (.aload_n 0, 1) := by decide +kernel
theorem dX0_renew_1 : decode cX0_renew 1 = .ok (.getfield 10, 3) := by decide +kernel
theorem dX0_renew_4 : decode cX0_renew 4 = .ok (.iconst 0, 1) := by decide +kernel
theorem dX0_renew_5 : decode cX0_renew 5 = .ok (.invokestatic 32, 3) := by decide +kernel
theorem dX0_renew_8 : decode cX0_renew 8 = .ok (.aload_n 0, 1) := by decide +kernel
theorem dX0_renew_9 : decode cX0_renew 9 = .ok (.iload_n 1, 1) := by decide +kernel
theorem dX0_renew_10 : decode cX0_renew 10 = .ok (.putfield 19, 3) := by decide +kernel
theorem dX0_renew_13 : decode cX0_renew 13 = .ok (.aload_n 0, 1) := by decide +kernel
theorem dX0_renew_14 : decode cX0_renew 14 = .ok (.iload_n 2, 1) := by decide +kernel
theorem dX0_renew_15 : decode cX0_renew 15 = .ok (.putfield 23, 3) := by decide +kernel
theorem dX0_renew_18 : decode cX0_renew 18 = .ok (.aload_n 0, 1) := by decide +kernel
theorem dX0_renew_19 : decode cX0_renew 19 = .ok (.iconst 0, 1) := by decide +kernel
theorem dX0_renew_20 : decode cX0_renew 20 = .ok (.putfield 26, 3) := by decide +kernel
theorem dX0_renew_23 : decode cX0_renew 23 = .ok (.aload_n 0, 1) := by decide +kernel
theorem dX0_renew_24 : decode cX0_renew 24 = .ok (.iconst 0, 1) := by decide +kernel
theorem dX0_renew_25 : decode cX0_renew 25 = .ok (.putfield 29, 3) := by decide +kernel
theorem dX0_renew_28 : decode cX0_renew 28 = .ok (.return_, 1) := by decide +kernel
theorem dX0_wordsInBlock_0 : decode cX0_wordsInBlock 0 = .ok (.aload_n 0, 1) := by decide +kernel
theorem dX0_wordsInBlock_1 : decode cX0_wordsInBlock 1 = .ok (.getfield 23, 3) := by decide +kernel
theorem dX0_wordsInBlock_4 : decode cX0_wordsInBlock 4 = .ok (.ireturn, 1) := by decide +kernel
theorem dX0_writesDone_0 : decode cX0_writesDone 0 = .ok (.aload_n 0, 1) := by decide +kernel
theorem dX0_writesDone_1 : decode cX0_writesDone 1 = .ok (.getfield 26, 3) := by decide +kernel
theorem dX0_writesDone_4 : decode cX0_writesDone 4 = .ok (.ireturn, 1) := by decide +kernel
theorem dX0_writesToFailure_0 : decode cX0_writesToFailure 0 = .ok (.aload_n 0, 1) := by decide +kernel
theorem dX0_writesToFailure_1 : decode cX0_writesToFailure 1 = .ok (.getfield 29, 3) := by decide +kernel
theorem dX0_writesToFailure_4 : decode cX0_writesToFailure 4 = .ok (.ireturn, 1) := by decide +kernel
theorem dX0_arm_0 : decode cX0_arm 0 = .ok (.aload_n 0, 1) := by decide +kernel
theorem dX0_arm_1 : decode cX0_arm 1 = .ok (.iload_n 1, 1) := by decide +kernel
theorem dX0_arm_2 : decode cX0_arm 2 = .ok (.iconst 0, 1) := by decide +kernel
theorem dX0_arm_3 : decode cX0_arm 3 = .ok (.invokestatic 38, 3) := by decide +kernel
theorem dX0_arm_6 : decode cX0_arm 6 = .ok (.putfield 29, 3) := by decide +kernel
theorem dX0_arm_9 : decode cX0_arm 9 = .ok (.return_, 1) := by decide +kernel
theorem dX0_wordAt_0 : decode cX0_wordAt 0 = .ok (.iload_n 1, 1) := by decide +kernel
theorem dX0_wordAt_1 : decode cX0_wordAt 1 = .ok (.ifCond .lt 23, 3) := by decide +kernel
theorem dX0_wordAt_4 : decode cX0_wordAt 4 = .ok (.iload_n 1, 1) := by decide +kernel
theorem dX0_wordAt_5 : decode cX0_wordAt 5 = .ok (.aload_n 0, 1) := by decide +kernel
theorem dX0_wordAt_6 : decode cX0_wordAt 6 = .ok (.getfield 19, 3) := by decide +kernel
theorem dX0_wordAt_9 : decode cX0_wordAt 9 = .ok (.if_icmp .ge 15, 3) := by decide +kernel
theorem dX0_wordAt_12 : decode cX0_wordAt 12 = .ok (.iload_n 2, 1) := by decide +kernel
theorem dX0_wordAt_13 : decode cX0_wordAt 13 = .ok (.ifCond .lt 11, 3) := by decide +kernel
theorem dX0_wordAt_16 : decode cX0_wordAt 16 = .ok (.iload_n 2, 1) := by decide +kernel
theorem dX0_wordAt_17 : decode cX0_wordAt 17 = .ok (.aload_n 0, 1) := by decide +kernel
theorem dX0_wordAt_18 : decode cX0_wordAt 18 = .ok (.getfield 23, 3) := by decide +kernel
theorem dX0_wordAt_21 : decode cX0_wordAt 21 = .ok (.if_icmp .lt 5, 3) := by decide +kernel
theorem dX0_wordAt_24 : decode cX0_wordAt 24 = .ok (.iconst 0, 1) := by decide +kernel
theorem dX0_wordAt_25 : decode cX0_wordAt 25 = .ok (.ireturn, 1) := by decide +kernel
theorem dX0_wordAt_26 : decode cX0_wordAt 26 = .ok (.aload_n 0, 1) := by decide +kernel
theorem dX0_wordAt_27 : decode cX0_wordAt 27 = .ok (.getfield 10, 3) := by decide +kernel
theorem dX0_wordAt_30 : decode cX0_wordAt 30 = .ok (.iload_n 1, 1) := by decide +kernel
theorem dX0_wordAt_31 : decode cX0_wordAt 31 = .ok (.aload_n 0, 1) := by decide +kernel
theorem dX0_wordAt_32 : decode cX0_wordAt 32 = .ok (.getfield 23, 3) := by decide +kernel
theorem dX0_wordAt_35 : decode cX0_wordAt 35 = .ok (.imul, 1) := by decide +kernel
theorem dX0_wordAt_36 : decode cX0_wordAt 36 = .ok (.iload_n 2, 1) := by decide +kernel
theorem dX0_wordAt_37 : decode cX0_wordAt 37 = .ok (.iadd, 1) := by decide +kernel
theorem dX0_wordAt_38 : decode cX0_wordAt 38 = .ok (.iaload, 1) := by decide +kernel
theorem dX0_wordAt_39 : decode cX0_wordAt 39 = .ok (.ireturn, 1) := by decide +kernel
theorem dX0_isGood_0 : decode cX0_isGood 0 = .ok (.aload_n 0, 1) := by decide +kernel
theorem dX0_isGood_1 : decode cX0_isGood 1 = .ok (.iload_n 1, 1) := by decide +kernel
theorem dX0_isGood_2 : decode cX0_isGood 2 = .ok (.aload_n 0, 1) := by decide +kernel
theorem dX0_isGood_3 : decode cX0_isGood 3 = .ok (.getfield 23, 3) := by decide +kernel
theorem dX0_isGood_6 : decode cX0_isGood 6 = .ok (.iconst 1, 1) := by decide +kernel
theorem dX0_isGood_7 : decode cX0_isGood 7 = .ok (.isub, 1) := by decide +kernel
theorem dX0_isGood_8 : decode cX0_isGood 8 = .ok (.invokevirtual 44, 3) := by decide +kernel
theorem dX0_isGood_11 : decode cX0_isGood 11 = .ok (.aload_n 0, 1) := by decide +kernel
theorem dX0_isGood_12 : decode cX0_isGood 12 = .ok (.iload_n 1, 1) := by decide +kernel
theorem dX0_isGood_13 : decode cX0_isGood 13 = .ok (.invokevirtual 47, 3) := by decide +kernel
theorem dX0_isGood_16 : decode cX0_isGood 16 = .ok (.if_icmp .ne 7, 3) := by decide +kernel
theorem dX0_isGood_19 : decode cX0_isGood 19 = .ok (.iconst 1, 1) := by decide +kernel
theorem dX0_isGood_20 : decode cX0_isGood 20 = .ok (.goto 4, 3) := by decide +kernel
theorem dX0_isGood_23 : decode cX0_isGood 23 = .ok (.iconst 0, 1) := by decide +kernel
theorem dX0_isGood_24 : decode cX0_isGood 24 = .ok (.ireturn, 1) := by decide +kernel
theorem dX0_clearPage_0 : decode cX0_clearPage 0 = .ok (.aload_n 0, 1) := by decide +kernel
theorem dX0_clearPage_1 : decode cX0_clearPage 1 = .ok (.getfield 16, 3) := by decide +kernel
theorem dX0_clearPage_4 : decode cX0_clearPage 4 = .ok (.iconst 0, 1) := by decide +kernel
theorem dX0_clearPage_5 : decode cX0_clearPage 5 = .ok (.invokestatic 32, 3) := by decide +kernel
theorem dX0_clearPage_8 : decode cX0_clearPage 8 = .ok (.return_, 1) := by decide +kernel
theorem dX0_setPage_0 : decode cX0_setPage 0 = .ok (.iload_n 1, 1) := by decide +kernel
theorem dX0_setPage_1 : decode cX0_setPage 1 = .ok (.ifCond .lt 20, 3) := by decide +kernel
theorem dX0_setPage_4 : decode cX0_setPage 4 = .ok (.iload_n 1, 1) := by decide +kernel
theorem dX0_setPage_5 : decode cX0_setPage 5 = .ok (.aload_n 0, 1) := by decide +kernel
theorem dX0_setPage_6 : decode cX0_setPage 6 = .ok (.getfield 23, 3) := by decide +kernel
theorem dX0_setPage_9 : decode cX0_setPage 9 = .ok (.iconst 1, 1) := by decide +kernel
theorem dX0_setPage_10 : decode cX0_setPage 10 = .ok (.isub, 1) := by decide +kernel
theorem dX0_setPage_11 : decode cX0_setPage 11 = .ok (.if_icmp .ge 10, 3) := by decide +kernel
theorem dX0_setPage_14 : decode cX0_setPage 14 = .ok (.aload_n 0, 1) := by decide +kernel
theorem dX0_setPage_15 : decode cX0_setPage 15 = .ok (.getfield 16, 3) := by decide +kernel
theorem dX0_setPage_18 : decode cX0_setPage 18 = .ok (.iload_n 1, 1) := by decide +kernel
theorem dX0_setPage_19 : decode cX0_setPage 19 = .ok (.iload_n 2, 1) := by decide +kernel
theorem dX0_setPage_20 : decode cX0_setPage 20 = .ok (.iastore, 1) := by decide +kernel
theorem dX0_setPage_21 : decode cX0_setPage 21 = .ok (.return_, 1) := by decide +kernel
theorem dX0_writePage_0 : decode cX0_writePage 0 = .ok (.aload_n 0, 1) := by decide +kernel
theorem dX0_writePage_1 : decode cX0_writePage 1 = .ok (.getfield 23, 3) := by decide +kernel
theorem dX0_writePage_4 : decode cX0_writePage 4 = .ok (.iconst 1, 1) := by decide +kernel
theorem dX0_writePage_5 : decode cX0_writePage 5 = .ok (.if_icmp .lt 15, 3) := by decide +kernel
theorem dX0_writePage_8 : decode cX0_writePage 8 = .ok (.iload_n 1, 1) := by decide +kernel
theorem dX0_writePage_9 : decode cX0_writePage 9 = .ok (.ifCond .lt 11, 3) := by decide +kernel
theorem dX0_writePage_12 : decode cX0_writePage 12 = .ok (.iload_n 1, 1) := by decide +kernel
theorem dX0_writePage_13 : decode cX0_writePage 13 = .ok (.aload_n 0, 1) := by decide +kernel
theorem dX0_writePage_14 : decode cX0_writePage 14 = .ok (.getfield 19, 3) := by decide +kernel
theorem dX0_writePage_17 : decode cX0_writePage 17 = .ok (.if_icmp .lt 5, 3) := by decide +kernel
theorem dX0_writePage_20 : decode cX0_writePage 20 = .ok (.iconst 0, 1) := by decide +kernel
theorem dX0_writePage_21 : decode cX0_writePage 21 = .ok (.ireturn, 1) := by decide +kernel
theorem dX0_writePage_22 : decode cX0_writePage 22 = .ok (.aload_n 0, 1) := by decide +kernel
theorem dX0_writePage_23 : decode cX0_writePage 23 = .ok (.getfield 29, 3) := by decide +kernel
theorem dX0_writePage_26 : decode cX0_writePage 26 = .ok (.ifCond .le 22, 3) := by decide +kernel
theorem dX0_writePage_29 : decode cX0_writePage 29 = .ok (.aload_n 0, 1) := by decide +kernel
theorem dX0_writePage_30 : decode cX0_writePage 30 = .ok (.dup, 1) := by decide +kernel
theorem dX0_writePage_31 : decode cX0_writePage 31 = .ok (.getfield 29, 3) := by decide +kernel
theorem dX0_writePage_34 : decode cX0_writePage 34 = .ok (.iconst 1, 1) := by decide +kernel
theorem dX0_writePage_35 : decode cX0_writePage 35 = .ok (.isub, 1) := by decide +kernel
theorem dX0_writePage_36 : decode cX0_writePage 36 = .ok (.putfield 29, 3) := by decide +kernel
theorem dX0_writePage_39 : decode cX0_writePage 39 = .ok (.aload_n 0, 1) := by decide +kernel
theorem dX0_writePage_40 : decode cX0_writePage 40 = .ok (.getfield 29, 3) := by decide +kernel
theorem dX0_writePage_43 : decode cX0_writePage 43 = .ok (.ifCond .ne 5, 3) := by decide +kernel
theorem dX0_writePage_46 : decode cX0_writePage 46 = .ok (.iconst 0, 1) := by decide +kernel
theorem dX0_writePage_47 : decode cX0_writePage 47 = .ok (.ireturn, 1) := by decide +kernel
theorem dX0_writePage_48 : decode cX0_writePage 48 = .ok (.aload_n 0, 1) := by decide +kernel
theorem dX0_writePage_49 : decode cX0_writePage 49 = .ok (.getfield 16, 3) := by decide +kernel
theorem dX0_writePage_52 : decode cX0_writePage 52 = .ok (.iconst 0, 1) := by decide +kernel
theorem dX0_writePage_53 : decode cX0_writePage 53 = .ok (.aload_n 0, 1) := by decide +kernel
theorem dX0_writePage_54 : decode cX0_writePage 54 = .ok (.getfield 10, 3) := by decide +kernel
theorem dX0_writePage_57 : decode cX0_writePage 57 = .ok (.iload_n 1, 1) := by decide +kernel
theorem dX0_writePage_58 : decode cX0_writePage 58 = .ok (.aload_n 0, 1) := by decide +kernel
theorem dX0_writePage_59 : decode cX0_writePage 59 = .ok (.getfield 23, 3) := by decide +kernel
theorem dX0_writePage_62 : decode cX0_writePage 62 = .ok (.imul, 1) := by decide +kernel
theorem dX0_writePage_63 : decode cX0_writePage 63 = .ok (.aload_n 0, 1) := by decide +kernel
theorem dX0_writePage_64 : decode cX0_writePage 64 = .ok (.getfield 23, 3) := by decide +kernel
theorem dX0_writePage_67 : decode cX0_writePage 67 = .ok (.invokestatic 51, 3) := by decide +kernel
theorem dX0_writePage_70 : decode cX0_writePage 70 = .ok (.aload_n 0, 1) := by decide +kernel
theorem dX0_writePage_71 : decode cX0_writePage 71 = .ok (.getfield 10, 3) := by decide +kernel
theorem dX0_writePage_74 : decode cX0_writePage 74 = .ok (.iload_n 1, 1) := by decide +kernel
theorem dX0_writePage_75 : decode cX0_writePage 75 = .ok (.aload_n 0, 1) := by decide +kernel
theorem dX0_writePage_76 : decode cX0_writePage 76 = .ok (.getfield 23, 3) := by decide +kernel
theorem dX0_writePage_79 : decode cX0_writePage 79 = .ok (.imul, 1) := by decide +kernel
theorem dX0_writePage_80 : decode cX0_writePage 80 = .ok (.aload_n 0, 1) := by decide +kernel
theorem dX0_writePage_81 : decode cX0_writePage 81 = .ok (.getfield 23, 3) := by decide +kernel
theorem dX0_writePage_84 : decode cX0_writePage 84 = .ok (.iadd, 1) := by decide +kernel
theorem dX0_writePage_85 : decode cX0_writePage 85 = .ok (.iconst 1, 1) := by decide +kernel
theorem dX0_writePage_86 : decode cX0_writePage 86 = .ok (.isub, 1) := by decide +kernel
theorem dX0_writePage_87 : decode cX0_writePage 87 = .ok (.aload_n 0, 1) := by decide +kernel
theorem dX0_writePage_88 : decode cX0_writePage 88 = .ok (.iload_n 1, 1) := by decide +kernel
theorem dX0_writePage_89 : decode cX0_writePage 89 = .ok (.invokevirtual 47, 3) := by decide +kernel
theorem dX0_writePage_92 : decode cX0_writePage 92 = .ok (.iastore, 1) := by decide +kernel
theorem dX0_writePage_93 : decode cX0_writePage 93 = .ok (.aload_n 0, 1) := by decide +kernel
theorem dX0_writePage_94 : decode cX0_writePage 94 = .ok (.dup, 1) := by decide +kernel
theorem dX0_writePage_95 : decode cX0_writePage 95 = .ok (.getfield 26, 3) := by decide +kernel
theorem dX0_writePage_98 : decode cX0_writePage 98 = .ok (.iconst 1, 1) := by decide +kernel
theorem dX0_writePage_99 : decode cX0_writePage 99 = .ok (.iadd, 1) := by decide +kernel
theorem dX0_writePage_100 : decode cX0_writePage 100 = .ok (.putfield 26, 3) := by decide +kernel
theorem dX0_writePage_103 : decode cX0_writePage 103 = .ok (.iconst 1, 1) := by decide +kernel
theorem dX0_writePage_104 : decode cX0_writePage 104 = .ok (.ireturn, 1) := by decide +kernel
theorem dX0_sumOf_0 : decode cX0_sumOf 0 = .ok (.bipush 7, 2) := by decide +kernel
theorem dX0_sumOf_2 : decode cX0_sumOf 2 = .ok (.istore_n 2, 1) := by decide +kernel
theorem dX0_sumOf_3 : decode cX0_sumOf 3 = .ok (.iconst 0, 1) := by decide +kernel
theorem dX0_sumOf_4 : decode cX0_sumOf 4 = .ok (.istore_n 3, 1) := by decide +kernel
theorem dX0_sumOf_5 : decode cX0_sumOf 5 = .ok (.iload_n 3, 1) := by decide +kernel
theorem dX0_sumOf_6 : decode cX0_sumOf 6 = .ok (.aload_n 0, 1) := by decide +kernel
theorem dX0_sumOf_7 : decode cX0_sumOf 7 = .ok (.getfield 23, 3) := by decide +kernel
theorem dX0_sumOf_10 : decode cX0_sumOf 10 = .ok (.iconst 1, 1) := by decide +kernel
theorem dX0_sumOf_11 : decode cX0_sumOf 11 = .ok (.isub, 1) := by decide +kernel
theorem dX0_sumOf_12 : decode cX0_sumOf 12 = .ok (.if_icmp .ge 21, 3) := by decide +kernel
theorem dX0_sumOf_15 : decode cX0_sumOf 15 = .ok (.bipush 31, 2) := by decide +kernel
theorem dX0_sumOf_17 : decode cX0_sumOf 17 = .ok (.iload_n 2, 1) := by decide +kernel
theorem dX0_sumOf_18 : decode cX0_sumOf 18 = .ok (.imul, 1) := by decide +kernel
theorem dX0_sumOf_19 : decode cX0_sumOf 19 = .ok (.aload_n 0, 1) := by decide +kernel
theorem dX0_sumOf_20 : decode cX0_sumOf 20 = .ok (.iload_n 1, 1) := by decide +kernel
theorem dX0_sumOf_21 : decode cX0_sumOf 21 = .ok (.iload_n 3, 1) := by decide +kernel
theorem dX0_sumOf_22 : decode cX0_sumOf 22 = .ok (.invokevirtual 44, 3) := by decide +kernel
theorem dX0_sumOf_25 : decode cX0_sumOf 25 = .ok (.iadd, 1) := by decide +kernel
theorem dX0_sumOf_26 : decode cX0_sumOf 26 = .ok (.istore_n 2, 1) := by decide +kernel
theorem dX0_sumOf_27 : decode cX0_sumOf 27 = .ok (.iinc 3 1, 3) := by decide +kernel
theorem dX0_sumOf_30 : decode cX0_sumOf 30 = .ok (.goto (-25), 3) := by decide +kernel
theorem dX0_sumOf_33 : decode cX0_sumOf 33 = .ok (.iload_n 2, 1) := by decide +kernel
theorem dX0_sumOf_34 : decode cX0_sumOf 34 = .ok (.ireturn, 1) := by decide +kernel
theorem dX1_init_0 : decode cX1_init 0 = .ok (.aload_n 0, 1) := by decide +kernel
theorem dX1_init_1 : decode cX1_init 1 = .ok (.invokespecial 1, 3) := by decide +kernel
theorem dX1_init_4 : decode cX1_init 4 = .ok (.aload_n 0, 1) := by decide +kernel
theorem dX1_init_5 : decode cX1_init 5 = .ok (.iconst 0, 1) := by decide +kernel
theorem dX1_init_6 : decode cX1_init 6 = .ok (.putfield 7, 3) := by decide +kernel
theorem dX1_init_9 : decode cX1_init 9 = .ok (.aload_n 0, 1) := by decide +kernel
theorem dX1_init_10 : decode cX1_init 10 = .ok (.iconst 0, 1) := by decide +kernel
theorem dX1_init_11 : decode cX1_init 11 = .ok (.putfield 13, 3) := by decide +kernel
theorem dX1_init_14 : decode cX1_init 14 = .ok (.aload_n 0, 1) := by decide +kernel
theorem dX1_init_15 : decode cX1_init 15 = .ok (.iconst 0, 1) := by decide +kernel
theorem dX1_init_16 : decode cX1_init 16 = .ok (.putfield 16, 3) := by decide +kernel
theorem dX1_init_19 : decode cX1_init 19 = .ok (.aload_n 0, 1) := by decide +kernel
theorem dX1_init_20 : decode cX1_init 20 = .ok (.aload_n 1, 1) := by decide +kernel
theorem dX1_init_21 : decode cX1_init 21 = .ok (.putfield 19, 3) := by decide +kernel
theorem dX1_init_24 : decode cX1_init 24 = .ok (.return_, 1) := by decide +kernel
theorem dX1_layOut_0 : decode cX1_layOut 0 = .ok (.aload_n 0, 1) := by decide +kernel
theorem dX1_layOut_1 : decode cX1_layOut 1 = .ok (.iload_n 1, 1) := by decide +kernel
theorem dX1_layOut_2 : decode cX1_layOut 2 = .ok (.putfield 7, 3) := by decide +kernel
theorem dX1_layOut_5 : decode cX1_layOut 5 = .ok (.aload_n 0, 1) := by decide +kernel
theorem dX1_layOut_6 : decode cX1_layOut 6 = .ok (.invokevirtual 23, 3) := by decide +kernel
theorem dX1_layOut_9 : decode cX1_layOut 9 = .ok (.return_, 1) := by decide +kernel
theorem dX1_restart_0 : decode cX1_restart 0 = .ok (.aload_n 0, 1) := by decide +kernel
theorem dX1_restart_1 : decode cX1_restart 1 = .ok (.iconst 0, 1) := by decide +kernel
theorem dX1_restart_2 : decode cX1_restart 2 = .ok (.putfield 13, 3) := by decide +kernel
theorem dX1_restart_5 : decode cX1_restart 5 = .ok (.aload_n 0, 1) := by decide +kernel
theorem dX1_restart_6 : decode cX1_restart 6 = .ok (.iconst 0, 1) := by decide +kernel
theorem dX1_restart_7 : decode cX1_restart 7 = .ok (.putfield 16, 3) := by decide +kernel
theorem dX1_restart_10 : decode cX1_restart 10 = .ok (.return_, 1) := by decide +kernel
theorem dX1_usedBlocks_0 : decode cX1_usedBlocks 0 = .ok (.aload_n 0, 1) := by decide +kernel
theorem dX1_usedBlocks_1 : decode cX1_usedBlocks 1 = .ok (.getfield 13, 3) := by decide +kernel
theorem dX1_usedBlocks_4 : decode cX1_usedBlocks 4 = .ok (.ireturn, 1) := by decide +kernel
theorem dX1_recordCount_0 : decode cX1_recordCount 0 = .ok (.aload_n 0, 1) := by decide +kernel
theorem dX1_recordCount_1 : decode cX1_recordCount 1 = .ok (.getfield 16, 3) := by decide +kernel
theorem dX1_recordCount_4 : decode cX1_recordCount 4 = .ok (.ireturn, 1) := by decide +kernel
theorem dX1_hasRoom_0 : decode cX1_hasRoom 0 = .ok (.aload_n 0, 1) := by decide +kernel
theorem dX1_hasRoom_1 : decode cX1_hasRoom 1 = .ok (.iload_n 1, 1) := by decide +kernel
theorem dX1_hasRoom_2 : decode cX1_hasRoom 2 = .ok (.invokevirtual 26, 3) := by decide +kernel
theorem dX1_hasRoom_5 : decode cX1_hasRoom 5 = .ok (.aload_n 0, 1) := by decide +kernel
theorem dX1_hasRoom_6 : decode cX1_hasRoom 6 = .ok (.getfield 7, 3) := by decide +kernel
theorem dX1_hasRoom_9 : decode cX1_hasRoom 9 = .ok (.aload_n 0, 1) := by decide +kernel
theorem dX1_hasRoom_10 : decode cX1_hasRoom 10 = .ok (.getfield 13, 3) := by decide +kernel
theorem dX1_hasRoom_13 : decode cX1_hasRoom 13 = .ok (.isub, 1) := by decide +kernel
theorem dX1_hasRoom_14 : decode cX1_hasRoom 14 = .ok (.if_icmp .gt 7, 3) := by decide +kernel
theorem dX1_hasRoom_17 : decode cX1_hasRoom 17 = .ok (.iconst 1, 1) := by decide +kernel
theorem dX1_hasRoom_18 : decode cX1_hasRoom 18 = .ok (.goto 4, 3) := by decide +kernel
theorem dX1_hasRoom_21 : decode cX1_hasRoom 21 = .ok (.iconst 0, 1) := by decide +kernel
theorem dX1_hasRoom_22 : decode cX1_hasRoom 22 = .ok (.ireturn, 1) := by decide +kernel
theorem dX1_append_0 : decode cX1_append 0 = .ok (.aload_n 0, 1) := by decide +kernel
theorem dX1_append_1 : decode cX1_append 1 = .ok (.aload_n 1, 1) := by decide +kernel
theorem dX1_append_2 : decode cX1_append 2 = .ok (.invokevirtual 30, 3) := by decide +kernel
theorem dX1_append_5 : decode cX1_append 5 = .ok (.invokevirtual 26, 3) := by decide +kernel
theorem dX1_append_8 : decode cX1_append 8 = .ok (.istore 5, 2) := by decide +kernel
theorem dX1_append_10 : decode cX1_append 10 = .ok (.iload 5, 2) := by decide +kernel
theorem dX1_append_12 : decode cX1_append 12 = .ok (.ifCond .ne 5, 3) := by decide +kernel
theorem dX1_append_15 : decode cX1_append 15 = .ok (.iconst 1, 1) := by decide +kernel
theorem dX1_append_16 : decode cX1_append 16 = .ok (.ireturn, 1) := by decide +kernel
theorem dX1_append_17 : decode cX1_append 17 = .ok (.iconst 0, 1) := by decide +kernel
theorem dX1_append_18 : decode cX1_append 18 = .ok (.istore 6, 2) := by decide +kernel
theorem dX1_append_20 : decode cX1_append 20 = .ok (.iload 6, 2) := by decide +kernel
theorem dX1_append_22 : decode cX1_append 22 = .ok (.iload 5, 2) := by decide +kernel
theorem dX1_append_24 : decode cX1_append 24 = .ok (.if_icmp .ge 93, 3) := by decide +kernel
theorem dX1_append_27 : decode cX1_append 27 = .ok (.aload_n 0, 1) := by decide +kernel
theorem dX1_append_28 : decode cX1_append 28 = .ok (.getfield 19, 3) := by decide +kernel
theorem dX1_append_31 : decode cX1_append 31 = .ok (.invokevirtual 36, 3) := by decide +kernel
theorem dX1_append_34 : decode cX1_append 34 = .ok (.aload_n 0, 1) := by decide +kernel
theorem dX1_append_35 : decode cX1_append 35 = .ok (.getfield 19, 3) := by decide +kernel
theorem dX1_append_38 : decode cX1_append 38 = .ok (.iconst 0, 1) := by decide +kernel
theorem dX1_append_39 : decode cX1_append 39 = .ok (.iload_n 3, 1) := by decide +kernel
theorem dX1_append_40 : decode cX1_append 40 = .ok (.invokevirtual 41, 3) := by decide +kernel
theorem dX1_append_43 : decode cX1_append 43 = .ok (.aload_n 0, 1) := by decide +kernel
theorem dX1_append_44 : decode cX1_append 44 = .ok (.getfield 19, 3) := by decide +kernel
theorem dX1_append_47 : decode cX1_append 47 = .ok (.iconst 1, 1) := by decide +kernel
theorem dX1_append_48 : decode cX1_append 48 = .ok (.aload_n 0, 1) := by decide +kernel
theorem dX1_append_49 : decode cX1_append 49 = .ok (.getfield 16, 3) := by decide +kernel
theorem dX1_append_52 : decode cX1_append 52 = .ok (.iconst 1, 1) := by decide +kernel
theorem dX1_append_53 : decode cX1_append 53 = .ok (.iadd, 1) := by decide +kernel
theorem dX1_append_54 : decode cX1_append 54 = .ok (.invokevirtual 41, 3) := by decide +kernel
theorem dX1_append_57 : decode cX1_append 57 = .ok (.aload_n 0, 1) := by decide +kernel
theorem dX1_append_58 : decode cX1_append 58 = .ok (.getfield 19, 3) := by decide +kernel
theorem dX1_append_61 : decode cX1_append 61 = .ok (.iconst 2, 1) := by decide +kernel
theorem dX1_append_62 : decode cX1_append 62 = .ok (.iload 6, 2) := by decide +kernel
theorem dX1_append_64 : decode cX1_append 64 = .ok (.invokevirtual 41, 3) := by decide +kernel
theorem dX1_append_67 : decode cX1_append 67 = .ok (.aload_n 0, 1) := by decide +kernel
theorem dX1_append_68 : decode cX1_append 68 = .ok (.getfield 19, 3) := by decide +kernel
theorem dX1_append_71 : decode cX1_append 71 = .ok (.iconst 3, 1) := by decide +kernel
theorem dX1_append_72 : decode cX1_append 72 = .ok (.iload 4, 2) := by decide +kernel
theorem dX1_append_74 : decode cX1_append 74 = .ok (.invokevirtual 41, 3) := by decide +kernel
theorem dX1_append_77 : decode cX1_append 77 = .ok (.aload_n 0, 1) := by decide +kernel
theorem dX1_append_78 : decode cX1_append 78 = .ok (.aload_n 1, 1) := by decide +kernel
theorem dX1_append_79 : decode cX1_append 79 = .ok (.aload_n 2, 1) := by decide +kernel
theorem dX1_append_80 : decode cX1_append 80 = .ok (.iload 6, 2) := by decide +kernel
theorem dX1_append_82 : decode cX1_append 82 = .ok (.aload_n 0, 1) := by decide +kernel
theorem dX1_append_83 : decode cX1_append 83 = .ok (.invokevirtual 45, 3) := by decide +kernel
theorem dX1_append_86 : decode cX1_append 86 = .ok (.imul, 1) := by decide +kernel
theorem dX1_append_87 : decode cX1_append 87 = .ok (.invokevirtual 48, 3) := by decide +kernel
theorem dX1_append_90 : decode cX1_append 90 = .ok (.aload_n 0, 1) := by decide +kernel
theorem dX1_append_91 : decode cX1_append 91 = .ok (.getfield 19, 3) := by decide +kernel
theorem dX1_append_94 : decode cX1_append 94 = .ok (.iconst 1, 1) := by decide +kernel
theorem dX1_append_95 : decode cX1_append 95 = .ok (.aload_n 0, 1) := by decide +kernel
theorem dX1_append_96 : decode cX1_append 96 = .ok (.getfield 13, 3) := by decide +kernel
theorem dX1_append_99 : decode cX1_append 99 = .ok (.iadd, 1) := by decide +kernel
theorem dX1_append_100 : decode cX1_append 100 = .ok (.iload 6, 2) := by decide +kernel
theorem dX1_append_102 : decode cX1_append 102 = .ok (.iadd, 1) := by decide +kernel
theorem dX1_append_103 : decode cX1_append 103 = .ok (.invokevirtual 52, 3) := by decide +kernel
theorem dX1_append_106 : decode cX1_append 106 = .ok (.ifCond .ne 5, 3) := by decide +kernel
theorem dX1_append_109 : decode cX1_append 109 = .ok (.iconst 0, 1) := by decide +kernel
theorem dX1_append_110 : decode cX1_append 110 = .ok (.ireturn, 1) := by decide +kernel
theorem dX1_append_111 : decode cX1_append 111 = .ok (.iinc 6 1, 3) := by decide +kernel
theorem dX1_append_114 : decode cX1_append 114 = .ok (.goto (-94), 3) := by decide +kernel
theorem dX1_append_117 : decode cX1_append 117 = .ok (.aload_n 0, 1) := by decide +kernel
theorem dX1_append_118 : decode cX1_append 118 = .ok (.dup, 1) := by decide +kernel
theorem dX1_append_119 : decode cX1_append 119 = .ok (.getfield 13, 3) := by decide +kernel
theorem dX1_append_122 : decode cX1_append 122 = .ok (.iload 5, 2) := by decide +kernel
theorem dX1_append_124 : decode cX1_append 124 = .ok (.iadd, 1) := by decide +kernel
theorem dX1_append_125 : decode cX1_append 125 = .ok (.putfield 13, 3) := by decide +kernel
theorem dX1_append_128 : decode cX1_append 128 = .ok (.aload_n 0, 1) := by decide +kernel
theorem dX1_append_129 : decode cX1_append 129 = .ok (.dup, 1) := by decide +kernel
theorem dX1_append_130 : decode cX1_append 130 = .ok (.getfield 16, 3) := by decide +kernel
theorem dX1_append_133 : decode cX1_append 133 = .ok (.iconst 1, 1) := by decide +kernel
theorem dX1_append_134 : decode cX1_append 134 = .ok (.iadd, 1) := by decide +kernel
theorem dX1_append_135 : decode cX1_append 135 = .ok (.putfield 16, 3) := by decide +kernel
theorem dX1_append_138 : decode cX1_append 138 = .ok (.iconst 1, 1) := by decide +kernel
theorem dX1_append_139 : decode cX1_append 139 = .ok (.ireturn, 1) := by decide +kernel
theorem dX1_replay_0 : decode cX1_replay 0 = .ok (.aload_n 0, 1) := by decide +kernel
theorem dX1_replay_1 : decode cX1_replay 1 = .ok (.invokevirtual 23, 3) := by decide +kernel
theorem dX1_replay_4 : decode cX1_replay 4 = .ok (.iconst 0, 1) := by decide +kernel
theorem dX1_replay_5 : decode cX1_replay 5 = .ok (.istore_n 3, 1) := by decide +kernel
theorem dX1_replay_6 : decode cX1_replay 6 = .ok (.iload_n 3, 1) := by decide +kernel
theorem dX1_replay_7 : decode cX1_replay 7 = .ok (.aload_n 0, 1) := by decide +kernel
theorem dX1_replay_8 : decode cX1_replay 8 = .ok (.getfield 7, 3) := by decide +kernel
theorem dX1_replay_11 : decode cX1_replay 11 = .ok (.if_icmp .ge 66, 3) := by decide +kernel
theorem dX1_replay_14 : decode cX1_replay 14 = .ok (.iconst 1, 1) := by decide +kernel
theorem dX1_replay_15 : decode cX1_replay 15 = .ok (.aload_n 0, 1) := by decide +kernel
theorem dX1_replay_16 : decode cX1_replay 16 = .ok (.getfield 13, 3) := by decide +kernel
theorem dX1_replay_19 : decode cX1_replay 19 = .ok (.iadd, 1) := by decide +kernel
theorem dX1_replay_20 : decode cX1_replay 20 = .ok (.istore 4, 2) := by decide +kernel
theorem dX1_replay_22 : decode cX1_replay 22 = .ok (.aload_n 0, 1) := by decide +kernel
theorem dX1_replay_23 : decode cX1_replay 23 = .ok (.iload 4, 2) := by decide +kernel
theorem dX1_replay_25 : decode cX1_replay 25 = .ok (.iload_n 2, 1) := by decide +kernel
theorem dX1_replay_26 : decode cX1_replay 26 = .ok (.aload_n 0, 1) := by decide +kernel
theorem dX1_replay_27 : decode cX1_replay 27 = .ok (.getfield 16, 3) := by decide +kernel
theorem dX1_replay_30 : decode cX1_replay 30 = .ok (.iconst 1, 1) := by decide +kernel
theorem dX1_replay_31 : decode cX1_replay 31 = .ok (.iadd, 1) := by decide +kernel
theorem dX1_replay_32 : decode cX1_replay 32 = .ok (.invokevirtual 56, 3) := by decide +kernel
theorem dX1_replay_35 : decode cX1_replay 35 = .ok (.istore 5, 2) := by decide +kernel
theorem dX1_replay_37 : decode cX1_replay 37 = .ok (.iload 5, 2) := by decide +kernel
theorem dX1_replay_39 : decode cX1_replay 39 = .ok (.ifCond .ne 4, 3) := by decide +kernel
theorem dX1_replay_42 : decode cX1_replay 42 = .ok (.return_, 1) := by decide +kernel
theorem dX1_replay_43 : decode cX1_replay 43 = .ok (.aload_n 0, 1) := by decide +kernel
theorem dX1_replay_44 : decode cX1_replay 44 = .ok (.aload_n 1, 1) := by decide +kernel
theorem dX1_replay_45 : decode cX1_replay 45 = .ok (.iload 4, 2) := by decide +kernel
theorem dX1_replay_47 : decode cX1_replay 47 = .ok (.invokevirtual 60, 3) := by decide +kernel
theorem dX1_replay_50 : decode cX1_replay 50 = .ok (.aload_n 0, 1) := by decide +kernel
theorem dX1_replay_51 : decode cX1_replay 51 = .ok (.dup, 1) := by decide +kernel
theorem dX1_replay_52 : decode cX1_replay 52 = .ok (.getfield 13, 3) := by decide +kernel
theorem dX1_replay_55 : decode cX1_replay 55 = .ok (.iload 5, 2) := by decide +kernel
theorem dX1_replay_57 : decode cX1_replay 57 = .ok (.iadd, 1) := by decide +kernel
theorem dX1_replay_58 : decode cX1_replay 58 = .ok (.putfield 13, 3) := by decide +kernel
theorem dX1_replay_61 : decode cX1_replay 61 = .ok (.aload_n 0, 1) := by decide +kernel
theorem dX1_replay_62 : decode cX1_replay 62 = .ok (.dup, 1) := by decide +kernel
theorem dX1_replay_63 : decode cX1_replay 63 = .ok (.getfield 16, 3) := by decide +kernel
theorem dX1_replay_66 : decode cX1_replay 66 = .ok (.iconst 1, 1) := by decide +kernel
theorem dX1_replay_67 : decode cX1_replay 67 = .ok (.iadd, 1) := by decide +kernel
theorem dX1_replay_68 : decode cX1_replay 68 = .ok (.putfield 16, 3) := by decide +kernel
theorem dX1_replay_71 : decode cX1_replay 71 = .ok (.iinc 3 1, 3) := by decide +kernel
theorem dX1_replay_74 : decode cX1_replay 74 = .ok (.goto (-68), 3) := by decide +kernel
theorem dX1_replay_77 : decode cX1_replay 77 = .ok (.return_, 1) := by decide +kernel
theorem dX1_partInts_0 : decode cX1_partInts 0 = .ok (.aload_n 0, 1) := by decide +kernel
theorem dX1_partInts_1 : decode cX1_partInts 1 = .ok (.getfield 19, 3) := by decide +kernel
theorem dX1_partInts_4 : decode cX1_partInts 4 = .ok (.invokevirtual 64, 3) := by decide +kernel
theorem dX1_partInts_7 : decode cX1_partInts 7 = .ok (.iconst 5, 1) := by decide +kernel
theorem dX1_partInts_8 : decode cX1_partInts 8 = .ok (.isub, 1) := by decide +kernel
theorem dX1_partInts_9 : decode cX1_partInts 9 = .ok (.ireturn, 1) := by decide +kernel
theorem dX1_blocksFor_0 : decode cX1_blocksFor 0 = .ok (.iload_n 1, 1) := by decide +kernel
theorem dX1_blocksFor_1 : decode cX1_blocksFor 1 = .ok (.iconst 1, 1) := by decide +kernel
theorem dX1_blocksFor_2 : decode cX1_blocksFor 2 = .ok (.if_icmp .ge 7, 3) := by decide +kernel
theorem dX1_blocksFor_5 : decode cX1_blocksFor 5 = .ok (.iconst 0, 1) := by decide +kernel
theorem dX1_blocksFor_6 : decode cX1_blocksFor 6 = .ok (.goto 15, 3) := by decide +kernel
theorem dX1_blocksFor_9 : decode cX1_blocksFor 9 = .ok (.iconst 1, 1) := by decide +kernel
theorem dX1_blocksFor_10 : decode cX1_blocksFor 10 = .ok (.iconst 3, 1) := by decide +kernel
theorem dX1_blocksFor_11 : decode cX1_blocksFor 11 = .ok (.iload_n 1, 1) := by decide +kernel
theorem dX1_blocksFor_12 : decode cX1_blocksFor 12 = .ok (.imul, 1) := by decide +kernel
theorem dX1_blocksFor_13 : decode cX1_blocksFor 13 = .ok (.iadd, 1) := by decide +kernel
theorem dX1_blocksFor_14 : decode cX1_blocksFor 14 = .ok (.aload_n 0, 1) := by decide +kernel
theorem dX1_blocksFor_15 : decode cX1_blocksFor 15 = .ok (.invokevirtual 45, 3) := by decide +kernel
theorem dX1_blocksFor_18 : decode cX1_blocksFor 18 = .ok (.invokestatic 67, 3) := by decide +kernel
theorem dX1_blocksFor_21 : decode cX1_blocksFor 21 = .ok (.ireturn, 1) := by decide +kernel
theorem dX1_fillPage_0 : decode cX1_fillPage 0 = .ok (.iconst 1, 1) := by decide +kernel
theorem dX1_fillPage_1 : decode cX1_fillPage 1 = .ok (.iconst 3, 1) := by decide +kernel
theorem dX1_fillPage_2 : decode cX1_fillPage 2 = .ok (.aload_n 1, 1) := by decide +kernel
theorem dX1_fillPage_3 : decode cX1_fillPage 3 = .ok (.invokevirtual 30, 3) := by decide +kernel
theorem dX1_fillPage_6 : decode cX1_fillPage 6 = .ok (.imul, 1) := by decide +kernel
theorem dX1_fillPage_7 : decode cX1_fillPage 7 = .ok (.iadd, 1) := by decide +kernel
theorem dX1_fillPage_8 : decode cX1_fillPage 8 = .ok (.istore 4, 2) := by decide +kernel
theorem dX1_fillPage_10 : decode cX1_fillPage 10 = .ok (.iconst 0, 1) := by decide +kernel
theorem dX1_fillPage_11 : decode cX1_fillPage 11 = .ok (.istore 5, 2) := by decide +kernel
theorem dX1_fillPage_13 : decode cX1_fillPage 13 = .ok (.iload 5, 2) := by decide +kernel
theorem dX1_fillPage_15 : decode cX1_fillPage 15 = .ok (.aload_n 0, 1) := by decide +kernel
theorem dX1_fillPage_16 : decode cX1_fillPage 16 = .ok (.invokevirtual 45, 3) := by decide +kernel
theorem dX1_fillPage_19 : decode cX1_fillPage 19 = .ok (.if_icmp .ge 38, 3) := by decide +kernel
theorem dX1_fillPage_22 : decode cX1_fillPage 22 = .ok (.iload_n 3, 1) := by decide +kernel
theorem dX1_fillPage_23 : decode cX1_fillPage 23 = .ok (.iload 5, 2) := by decide +kernel
theorem dX1_fillPage_25 : decode cX1_fillPage 25 = .ok (.iadd, 1) := by decide +kernel
theorem dX1_fillPage_26 : decode cX1_fillPage 26 = .ok (.iload 4, 2) := by decide +kernel
theorem dX1_fillPage_28 : decode cX1_fillPage 28 = .ok (.if_icmp .ge 29, 3) := by decide +kernel
theorem dX1_fillPage_31 : decode cX1_fillPage 31 = .ok (.aload_n 0, 1) := by decide +kernel
theorem dX1_fillPage_32 : decode cX1_fillPage 32 = .ok (.getfield 19, 3) := by decide +kernel
theorem dX1_fillPage_35 : decode cX1_fillPage 35 = .ok (.iconst 4, 1) := by decide +kernel
theorem dX1_fillPage_36 : decode cX1_fillPage 36 = .ok (.iload 5, 2) := by decide +kernel
theorem dX1_fillPage_38 : decode cX1_fillPage 38 = .ok (.iadd, 1) := by decide +kernel
theorem dX1_fillPage_39 : decode cX1_fillPage 39 = .ok (.aload_n 1, 1) := by decide +kernel
theorem dX1_fillPage_40 : decode cX1_fillPage 40 = .ok (.aload_n 2, 1) := by decide +kernel
theorem dX1_fillPage_41 : decode cX1_fillPage 41 = .ok (.iload_n 3, 1) := by decide +kernel
theorem dX1_fillPage_42 : decode cX1_fillPage 42 = .ok (.iload 5, 2) := by decide +kernel
theorem dX1_fillPage_44 : decode cX1_fillPage 44 = .ok (.iadd, 1) := by decide +kernel
theorem dX1_fillPage_45 : decode cX1_fillPage 45 = .ok (.invokestatic 73, 3) := by decide +kernel
theorem dX1_fillPage_48 : decode cX1_fillPage 48 = .ok (.invokevirtual 41, 3) := by decide +kernel
theorem dX1_fillPage_51 : decode cX1_fillPage 51 = .ok (.iinc 5 1, 3) := by decide +kernel
theorem dX1_fillPage_54 : decode cX1_fillPage 54 = .ok (.goto (-41), 3) := by decide +kernel
theorem dX1_fillPage_57 : decode cX1_fillPage 57 = .ok (.return_, 1) := by decide +kernel
theorem dX1_recordInt_0 : decode cX1_recordInt 0 = .ok (.iload_n 2, 1) := by decide +kernel
theorem dX1_recordInt_1 : decode cX1_recordInt 1 = .ok (.ifCond .ne 8, 3) := by decide +kernel
theorem dX1_recordInt_4 : decode cX1_recordInt 4 = .ok (.aload_n 0, 1) := by decide +kernel
theorem dX1_recordInt_5 : decode cX1_recordInt 5 = .ok (.invokevirtual 30, 3) := by decide +kernel
theorem dX1_recordInt_8 : decode cX1_recordInt 8 = .ok (.ireturn, 1) := by decide +kernel
theorem dX1_recordInt_9 : decode cX1_recordInt 9 = .ok (.iload_n 2, 1) := by decide +kernel
theorem dX1_recordInt_10 : decode cX1_recordInt 10 = .ok (.iconst 1, 1) := by decide +kernel
theorem dX1_recordInt_11 : decode cX1_recordInt 11 = .ok (.isub, 1) := by decide +kernel
theorem dX1_recordInt_12 : decode cX1_recordInt 12 = .ok (.iconst 3, 1) := by decide +kernel
theorem dX1_recordInt_13 : decode cX1_recordInt 13 = .ok (.idiv, 1) := by decide +kernel
theorem dX1_recordInt_14 : decode cX1_recordInt 14 = .ok (.istore_n 3, 1) := by decide +kernel
theorem dX1_recordInt_15 : decode cX1_recordInt 15 = .ok (.iload_n 2, 1) := by decide +kernel
theorem dX1_recordInt_16 : decode cX1_recordInt 16 = .ok (.iconst 1, 1) := by decide +kernel
theorem dX1_recordInt_17 : decode cX1_recordInt 17 = .ok (.isub, 1) := by decide +kernel
theorem dX1_recordInt_18 : decode cX1_recordInt 18 = .ok (.iconst 3, 1) := by decide +kernel
theorem dX1_recordInt_19 : decode cX1_recordInt 19 = .ok (.irem, 1) := by decide +kernel
theorem dX1_recordInt_20 : decode cX1_recordInt 20 = .ok (.lookupswitch 52 #[(0, 28), (1, 46)], 28) := by decide +kernel
theorem dX1_recordInt_48 : decode cX1_recordInt 48 = .ok (.aload_n 1, 1) := by decide +kernel
theorem dX1_recordInt_49 : decode cX1_recordInt 49 = .ok (.aload_n 0, 1) := by decide +kernel
theorem dX1_recordInt_50 : decode cX1_recordInt 50 = .ok (.iload_n 3, 1) := by decide +kernel
theorem dX1_recordInt_51 : decode cX1_recordInt 51 = .ok (.invokevirtual 77, 3) := by decide +kernel
theorem dX1_recordInt_54 : decode cX1_recordInt 54 = .ok (.invokevirtual 80, 3) := by decide +kernel
theorem dX1_recordInt_57 : decode cX1_recordInt 57 = .ok (.ifCond .eq 7, 3) := by decide +kernel
theorem dX1_recordInt_60 : decode cX1_recordInt 60 = .ok (.iconst 1, 1) := by decide +kernel
theorem dX1_recordInt_61 : decode cX1_recordInt 61 = .ok (.goto 4, 3) := by decide +kernel
theorem dX1_recordInt_64 : decode cX1_recordInt 64 = .ok (.iconst 2, 1) := by decide +kernel
theorem dX1_recordInt_65 : decode cX1_recordInt 65 = .ok (.ireturn, 1) := by decide +kernel
theorem dX1_recordInt_66 : decode cX1_recordInt 66 = .ok (.aload_n 0, 1) := by decide +kernel
theorem dX1_recordInt_67 : decode cX1_recordInt 67 = .ok (.iload_n 3, 1) := by decide +kernel
theorem dX1_recordInt_68 : decode cX1_recordInt 68 = .ok (.invokevirtual 77, 3) := by decide +kernel
theorem dX1_recordInt_71 : decode cX1_recordInt 71 = .ok (.ireturn, 1) := by decide +kernel
theorem dX1_recordInt_72 : decode cX1_recordInt 72 = .ok (.aload_n 0, 1) := by decide +kernel
theorem dX1_recordInt_73 : decode cX1_recordInt 73 = .ok (.iload_n 3, 1) := by decide +kernel
theorem dX1_recordInt_74 : decode cX1_recordInt 74 = .ok (.invokevirtual 83, 3) := by decide +kernel
theorem dX1_recordInt_77 : decode cX1_recordInt 77 = .ok (.ireturn, 1) := by decide +kernel
theorem dX1_wholeParts_0 : decode cX1_wholeParts 0 = .ok (.iconst 1, 1) := by decide +kernel
theorem dX1_wholeParts_1 : decode cX1_wholeParts 1 = .ok (.aload_n 0, 1) := by decide +kernel
theorem dX1_wholeParts_2 : decode cX1_wholeParts 2 = .ok (.getfield 7, 3) := by decide +kernel
theorem dX1_wholeParts_5 : decode cX1_wholeParts 5 = .ok (.iadd, 1) := by decide +kernel
theorem dX1_wholeParts_6 : decode cX1_wholeParts 6 = .ok (.iload_n 1, 1) := by decide +kernel
theorem dX1_wholeParts_7 : decode cX1_wholeParts 7 = .ok (.isub, 1) := by decide +kernel
theorem dX1_wholeParts_8 : decode cX1_wholeParts 8 = .ok (.istore 4, 2) := by decide +kernel
theorem dX1_wholeParts_10 : decode cX1_wholeParts 10 = .ok (.aload_n 0, 1) := by decide +kernel
theorem dX1_wholeParts_11 : decode cX1_wholeParts 11 = .ok (.getfield 19, 3) := by decide +kernel
theorem dX1_wholeParts_14 : decode cX1_wholeParts 14 = .ok (.iload_n 1, 1) := by decide +kernel
theorem dX1_wholeParts_15 : decode cX1_wholeParts 15 = .ok (.iconst 3, 1) := by decide +kernel
theorem dX1_wholeParts_16 : decode cX1_wholeParts 16 = .ok (.invokevirtual 86, 3) := by decide +kernel
theorem dX1_wholeParts_19 : decode cX1_wholeParts 19 = .ok (.istore 5, 2) := by decide +kernel
theorem dX1_wholeParts_21 : decode cX1_wholeParts 21 = .ok (.iload 4, 2) := by decide +kernel
theorem dX1_wholeParts_23 : decode cX1_wholeParts 23 = .ok (.iconst 1, 1) := by decide +kernel
theorem dX1_wholeParts_24 : decode cX1_wholeParts 24 = .ok (.if_icmp .lt 16, 3) := by decide +kernel
theorem dX1_wholeParts_27 : decode cX1_wholeParts 27 = .ok (.aload_n 0, 1) := by decide +kernel
theorem dX1_wholeParts_28 : decode cX1_wholeParts 28 = .ok (.iload_n 1, 1) := by decide +kernel
theorem dX1_wholeParts_29 : decode cX1_wholeParts 29 = .ok (.iload_n 2, 1) := by decide +kernel
theorem dX1_wholeParts_30 : decode cX1_wholeParts 30 = .ok (.iload_n 3, 1) := by decide +kernel
theorem dX1_wholeParts_31 : decode cX1_wholeParts 31 = .ok (.iconst 0, 1) := by decide +kernel
theorem dX1_wholeParts_32 : decode cX1_wholeParts 32 = .ok (.iload 5, 2) := by decide +kernel
theorem dX1_wholeParts_34 : decode cX1_wholeParts 34 = .ok (.invokevirtual 89, 3) := by decide +kernel
theorem dX1_wholeParts_37 : decode cX1_wholeParts 37 = .ok (.ifCond .ne 5, 3) := by decide +kernel
theorem dX1_wholeParts_40 : decode cX1_wholeParts 40 = .ok (.iconst 0, 1) := by decide +kernel
theorem dX1_wholeParts_41 : decode cX1_wholeParts 41 = .ok (.ireturn, 1) := by decide +kernel
theorem dX1_wholeParts_42 : decode cX1_wholeParts 42 = .ok (.aload_n 0, 1) := by decide +kernel
theorem dX1_wholeParts_43 : decode cX1_wholeParts 43 = .ok (.getfield 19, 3) := by decide +kernel
theorem dX1_wholeParts_46 : decode cX1_wholeParts 46 = .ok (.iload_n 1, 1) := by decide +kernel
theorem dX1_wholeParts_47 : decode cX1_wholeParts 47 = .ok (.iconst 4, 1) := by decide +kernel
theorem dX1_wholeParts_48 : decode cX1_wholeParts 48 = .ok (.invokevirtual 86, 3) := by decide +kernel
theorem dX1_wholeParts_51 : decode cX1_wholeParts 51 = .ok (.istore 6, 2) := by decide +kernel
theorem dX1_wholeParts_53 : decode cX1_wholeParts 53 = .ok (.iload 6, 2) := by decide +kernel
theorem dX1_wholeParts_55 : decode cX1_wholeParts 55 = .ok (.iconst 1, 1) := by decide +kernel
theorem dX1_wholeParts_56 : decode cX1_wholeParts 56 = .ok (.if_icmp .lt 15, 3) := by decide +kernel
theorem dX1_wholeParts_59 : decode cX1_wholeParts 59 = .ok (.iload 6, 2) := by decide +kernel
theorem dX1_wholeParts_61 : decode cX1_wholeParts 61 = .ok (.iload 4, 2) := by decide +kernel
theorem dX1_wholeParts_63 : decode cX1_wholeParts 63 = .ok (.aload_n 0, 1) := by decide +kernel
theorem dX1_wholeParts_64 : decode cX1_wholeParts 64 = .ok (.invokevirtual 45, 3) := by decide +kernel
theorem dX1_wholeParts_67 : decode cX1_wholeParts 67 = .ok (.imul, 1) := by decide +kernel
theorem dX1_wholeParts_68 : decode cX1_wholeParts 68 = .ok (.if_icmp .le 5, 3) := by decide +kernel
theorem dX1_wholeParts_71 : decode cX1_wholeParts 71 = .ok (.iconst 0, 1) := by decide +kernel
theorem dX1_wholeParts_72 : decode cX1_wholeParts 72 = .ok (.ireturn, 1) := by decide +kernel
theorem dX1_wholeParts_73 : decode cX1_wholeParts 73 = .ok (.aload_n 0, 1) := by decide +kernel
theorem dX1_wholeParts_74 : decode cX1_wholeParts 74 = .ok (.iload 6, 2) := by decide +kernel
theorem dX1_wholeParts_76 : decode cX1_wholeParts 76 = .ok (.invokevirtual 26, 3) := by decide +kernel
theorem dX1_wholeParts_79 : decode cX1_wholeParts 79 = .ok (.istore 7, 2) := by decide +kernel
theorem dX1_wholeParts_81 : decode cX1_wholeParts 81 = .ok (.iload 7, 2) := by decide +kernel
theorem dX1_wholeParts_83 : decode cX1_wholeParts 83 = .ok (.iload 4, 2) := by decide +kernel
theorem dX1_wholeParts_85 : decode cX1_wholeParts 85 = .ok (.if_icmp .le 5, 3) := by decide +kernel
theorem dX1_wholeParts_88 : decode cX1_wholeParts 88 = .ok (.iconst 0, 1) := by decide +kernel
theorem dX1_wholeParts_89 : decode cX1_wholeParts 89 = .ok (.ireturn, 1) := by decide +kernel
theorem dX1_wholeParts_90 : decode cX1_wholeParts 90 = .ok (.iconst 1, 1) := by decide +kernel
theorem dX1_wholeParts_91 : decode cX1_wholeParts 91 = .ok (.istore 8, 2) := by decide +kernel
theorem dX1_wholeParts_93 : decode cX1_wholeParts 93 = .ok (.iload 8, 2) := by decide +kernel
theorem dX1_wholeParts_95 : decode cX1_wholeParts 95 = .ok (.iload 7, 2) := by decide +kernel
theorem dX1_wholeParts_97 : decode cX1_wholeParts 97 = .ok (.if_icmp .ge 28, 3) := by decide +kernel
theorem dX1_wholeParts_100 : decode cX1_wholeParts 100 = .ok (.aload_n 0, 1) := by decide +kernel
theorem dX1_wholeParts_101 : decode cX1_wholeParts 101 = .ok (.iload_n 1, 1) := by decide +kernel
theorem dX1_wholeParts_102 : decode cX1_wholeParts 102 = .ok (.iload 8, 2) := by decide +kernel
theorem dX1_wholeParts_104 : decode cX1_wholeParts 104 = .ok (.iadd, 1) := by decide +kernel
theorem dX1_wholeParts_105 : decode cX1_wholeParts 105 = .ok (.iload_n 2, 1) := by decide +kernel
theorem dX1_wholeParts_106 : decode cX1_wholeParts 106 = .ok (.iload_n 3, 1) := by decide +kernel
theorem dX1_wholeParts_107 : decode cX1_wholeParts 107 = .ok (.iload 8, 2) := by decide +kernel
theorem dX1_wholeParts_109 : decode cX1_wholeParts 109 = .ok (.iload 5, 2) := by decide +kernel
theorem dX1_wholeParts_111 : decode cX1_wholeParts 111 = .ok (.invokevirtual 89, 3) := by decide +kernel
theorem dX1_wholeParts_114 : decode cX1_wholeParts 114 = .ok (.ifCond .ne 5, 3) := by decide +kernel
theorem dX1_wholeParts_117 : decode cX1_wholeParts 117 = .ok (.iconst 0, 1) := by decide +kernel
theorem dX1_wholeParts_118 : decode cX1_wholeParts 118 = .ok (.ireturn, 1) := by decide +kernel
theorem dX1_wholeParts_119 : decode cX1_wholeParts 119 = .ok (.iinc 8 1, 3) := by decide +kernel
theorem dX1_wholeParts_122 : decode cX1_wholeParts 122 = .ok (.goto (-29), 3) := by decide +kernel
theorem dX1_wholeParts_125 : decode cX1_wholeParts 125 = .ok (.iload 7, 2) := by decide +kernel
theorem dX1_wholeParts_127 : decode cX1_wholeParts 127 = .ok (.ireturn, 1) := by decide +kernel
theorem dX1_isPart_0 : decode cX1_isPart 0 = .ok (.aload_n 0, 1) := by decide +kernel
theorem dX1_isPart_1 : decode cX1_isPart 1 = .ok (.getfield 19, 3) := by decide +kernel
theorem dX1_isPart_4 : decode cX1_isPart 4 = .ok (.iload_n 1, 1) := by decide +kernel
theorem dX1_isPart_5 : decode cX1_isPart 5 = .ok (.invokevirtual 93, 3) := by decide +kernel
theorem dX1_isPart_8 : decode cX1_isPart 8 = .ok (.ifCond .eq 61, 3) := by decide +kernel
theorem dX1_isPart_11 : decode cX1_isPart 11 = .ok (.aload_n 0, 1) := by decide +kernel
theorem dX1_isPart_12 : decode cX1_isPart 12 = .ok (.getfield 19, 3) := by decide +kernel
theorem dX1_isPart_15 : decode cX1_isPart 15 = .ok (.iload_n 1, 1) := by decide +kernel
theorem dX1_isPart_16 : decode cX1_isPart 16 = .ok (.iconst 0, 1) := by decide +kernel
theorem dX1_isPart_17 : decode cX1_isPart 17 = .ok (.invokevirtual 86, 3) := by decide +kernel
theorem dX1_isPart_20 : decode cX1_isPart 20 = .ok (.iload_n 2, 1) := by decide +kernel
theorem dX1_isPart_21 : decode cX1_isPart 21 = .ok (.if_icmp .ne 48, 3) := by decide +kernel
theorem dX1_isPart_24 : decode cX1_isPart 24 = .ok (.aload_n 0, 1) := by decide +kernel
theorem dX1_isPart_25 : decode cX1_isPart 25 = .ok (.getfield 19, 3) := by decide +kernel
theorem dX1_isPart_28 : decode cX1_isPart 28 = .ok (.iload_n 1, 1) := by decide +kernel
theorem dX1_isPart_29 : decode cX1_isPart 29 = .ok (.iconst 1, 1) := by decide +kernel
theorem dX1_isPart_30 : decode cX1_isPart 30 = .ok (.invokevirtual 86, 3) := by decide +kernel
theorem dX1_isPart_33 : decode cX1_isPart 33 = .ok (.iload_n 3, 1) := by decide +kernel
theorem dX1_isPart_34 : decode cX1_isPart 34 = .ok (.if_icmp .ne 35, 3) := by decide +kernel
theorem dX1_isPart_37 : decode cX1_isPart 37 = .ok (.aload_n 0, 1) := by decide +kernel
theorem dX1_isPart_38 : decode cX1_isPart 38 = .ok (.getfield 19, 3) := by decide +kernel
theorem dX1_isPart_41 : decode cX1_isPart 41 = .ok (.iload_n 1, 1) := by decide +kernel
theorem dX1_isPart_42 : decode cX1_isPart 42 = .ok (.iconst 2, 1) := by decide +kernel
theorem dX1_isPart_43 : decode cX1_isPart 43 = .ok (.invokevirtual 86, 3) := by decide +kernel
theorem dX1_isPart_46 : decode cX1_isPart 46 = .ok (.iload 4, 2) := by decide +kernel
theorem dX1_isPart_48 : decode cX1_isPart 48 = .ok (.if_icmp .ne 21, 3) := by decide +kernel
theorem dX1_isPart_51 : decode cX1_isPart 51 = .ok (.aload_n 0, 1) := by decide +kernel
theorem dX1_isPart_52 : decode cX1_isPart 52 = .ok (.getfield 19, 3) := by decide +kernel
theorem dX1_isPart_55 : decode cX1_isPart 55 = .ok (.iload_n 1, 1) := by decide +kernel
theorem dX1_isPart_56 : decode cX1_isPart 56 = .ok (.iconst 3, 1) := by decide +kernel
theorem dX1_isPart_57 : decode cX1_isPart 57 = .ok (.invokevirtual 86, 3) := by decide +kernel
theorem dX1_isPart_60 : decode cX1_isPart 60 = .ok (.iload 5, 2) := by decide +kernel
theorem dX1_isPart_62 : decode cX1_isPart 62 = .ok (.if_icmp .ne 7, 3) := by decide +kernel
theorem dX1_isPart_65 : decode cX1_isPart 65 = .ok (.iconst 1, 1) := by decide +kernel
theorem dX1_isPart_66 : decode cX1_isPart 66 = .ok (.goto 4, 3) := by decide +kernel
theorem dX1_isPart_69 : decode cX1_isPart 69 = .ok (.iconst 0, 1) := by decide +kernel
theorem dX1_isPart_70 : decode cX1_isPart 70 = .ok (.ireturn, 1) := by decide +kernel
theorem dX1_redo_0 : decode cX1_redo 0 = .ok (.aload_n 0, 1) := by decide +kernel
theorem dX1_redo_1 : decode cX1_redo 1 = .ok (.iload_n 2, 1) := by decide +kernel
theorem dX1_redo_2 : decode cX1_redo 2 = .ok (.iconst 0, 1) := by decide +kernel
theorem dX1_redo_3 : decode cX1_redo 3 = .ok (.invokevirtual 96, 3) := by decide +kernel
theorem dX1_redo_6 : decode cX1_redo 6 = .ok (.istore_n 3, 1) := by decide +kernel
theorem dX1_redo_7 : decode cX1_redo 7 = .ok (.iconst 0, 1) := by decide +kernel
theorem dX1_redo_8 : decode cX1_redo 8 = .ok (.istore 4, 2) := by decide +kernel
theorem dX1_redo_10 : decode cX1_redo 10 = .ok (.iload 4, 2) := by decide +kernel
theorem dX1_redo_12 : decode cX1_redo 12 = .ok (.iload_n 3, 1) := by decide +kernel
theorem dX1_redo_13 : decode cX1_redo 13 = .ok (.if_icmp .ge 63, 3) := by decide +kernel
theorem dX1_redo_16 : decode cX1_redo 16 = .ok (.iconst 1, 1) := by decide +kernel
theorem dX1_redo_17 : decode cX1_redo 17 = .ok (.iconst 3, 1) := by decide +kernel
theorem dX1_redo_18 : decode cX1_redo 18 = .ok (.iload 4, 2) := by decide +kernel
theorem dX1_redo_20 : decode cX1_redo 20 = .ok (.imul, 1) := by decide +kernel
theorem dX1_redo_21 : decode cX1_redo 21 = .ok (.iadd, 1) := by decide +kernel
theorem dX1_redo_22 : decode cX1_redo 22 = .ok (.istore 5, 2) := by decide +kernel
theorem dX1_redo_24 : decode cX1_redo 24 = .ok (.aload_n 0, 1) := by decide +kernel
theorem dX1_redo_25 : decode cX1_redo 25 = .ok (.iload_n 2, 1) := by decide +kernel
theorem dX1_redo_26 : decode cX1_redo 26 = .ok (.iload 5, 2) := by decide +kernel
theorem dX1_redo_28 : decode cX1_redo 28 = .ok (.iconst 1, 1) := by decide +kernel
theorem dX1_redo_29 : decode cX1_redo 29 = .ok (.iadd, 1) := by decide +kernel
theorem dX1_redo_30 : decode cX1_redo 30 = .ok (.invokevirtual 96, 3) := by decide +kernel
theorem dX1_redo_33 : decode cX1_redo 33 = .ok (.istore 6, 2) := by decide +kernel
theorem dX1_redo_35 : decode cX1_redo 35 = .ok (.aload_n 0, 1) := by decide +kernel
theorem dX1_redo_36 : decode cX1_redo 36 = .ok (.iload_n 2, 1) := by decide +kernel
theorem dX1_redo_37 : decode cX1_redo 37 = .ok (.iload 5, 2) := by decide +kernel
theorem dX1_redo_39 : decode cX1_redo 39 = .ok (.invokevirtual 96, 3) := by decide +kernel
theorem dX1_redo_42 : decode cX1_redo 42 = .ok (.iconst 1, 1) := by decide +kernel
theorem dX1_redo_43 : decode cX1_redo 43 = .ok (.if_icmp .ne 21, 3) := by decide +kernel
theorem dX1_redo_46 : decode cX1_redo 46 = .ok (.aload_n 1, 1) := by decide +kernel
theorem dX1_redo_47 : decode cX1_redo 47 = .ok (.iload 6, 2) := by decide +kernel
theorem dX1_redo_49 : decode cX1_redo 49 = .ok (.aload_n 0, 1) := by decide +kernel
theorem dX1_redo_50 : decode cX1_redo 50 = .ok (.iload_n 2, 1) := by decide +kernel
theorem dX1_redo_51 : decode cX1_redo 51 = .ok (.iload 5, 2) := by decide +kernel
theorem dX1_redo_53 : decode cX1_redo 53 = .ok (.iconst 2, 1) := by decide +kernel
theorem dX1_redo_54 : decode cX1_redo 54 = .ok (.iadd, 1) := by decide +kernel
theorem dX1_redo_55 : decode cX1_redo 55 = .ok (.invokevirtual 96, 3) := by decide +kernel
theorem dX1_redo_58 : decode cX1_redo 58 = .ok (.invokevirtual 99, 3) := by decide +kernel
theorem dX1_redo_61 : decode cX1_redo 61 = .ok (.goto 9, 3) := by decide +kernel
theorem dX1_redo_64 : decode cX1_redo 64 = .ok (.aload_n 1, 1) := by decide +kernel
theorem dX1_redo_65 : decode cX1_redo 65 = .ok (.iload 6, 2) := by decide +kernel
theorem dX1_redo_67 : decode cX1_redo 67 = .ok (.invokevirtual 102, 3) := by decide +kernel
theorem dX1_redo_70 : decode cX1_redo 70 = .ok (.iinc 4 1, 3) := by decide +kernel
theorem dX1_redo_73 : decode cX1_redo 73 = .ok (.goto (-63), 3) := by decide +kernel
theorem dX1_redo_76 : decode cX1_redo 76 = .ok (.return_, 1) := by decide +kernel
theorem dX1_storedInt_0 : decode cX1_storedInt 0 = .ok (.aload_n 0, 1) := by decide +kernel
theorem dX1_storedInt_1 : decode cX1_storedInt 1 = .ok (.invokevirtual 45, 3) := by decide +kernel
theorem dX1_storedInt_4 : decode cX1_storedInt 4 = .ok (.istore_n 3, 1) := by decide +kernel
theorem dX1_storedInt_5 : decode cX1_storedInt 5 = .ok (.iload_n 3, 1) := by decide +kernel
theorem dX1_storedInt_6 : decode cX1_storedInt 6 = .ok (.iconst 1, 1) := by decide +kernel
theorem dX1_storedInt_7 : decode cX1_storedInt 7 = .ok (.if_icmp .ge 5, 3) := by decide +kernel
theorem dX1_storedInt_10 : decode cX1_storedInt 10 = .ok (.iconst 0, 1) := by decide +kernel
theorem dX1_storedInt_11 : decode cX1_storedInt 11 = .ok (.ireturn, 1) := by decide +kernel
theorem dX1_storedInt_12 : decode cX1_storedInt 12 = .ok (.aload_n 0, 1) := by decide +kernel
theorem dX1_storedInt_13 : decode cX1_storedInt 13 = .ok (.getfield 19, 3) := by decide +kernel
theorem dX1_storedInt_16 : decode cX1_storedInt 16 = .ok (.iload_n 1, 1) := by decide +kernel
theorem dX1_storedInt_17 : decode cX1_storedInt 17 = .ok (.iload_n 2, 1) := by decide +kernel
theorem dX1_storedInt_18 : decode cX1_storedInt 18 = .ok (.iload_n 3, 1) := by decide +kernel
theorem dX1_storedInt_19 : decode cX1_storedInt 19 = .ok (.idiv, 1) := by decide +kernel
theorem dX1_storedInt_20 : decode cX1_storedInt 20 = .ok (.iadd, 1) := by decide +kernel
theorem dX1_storedInt_21 : decode cX1_storedInt 21 = .ok (.iconst 4, 1) := by decide +kernel
theorem dX1_storedInt_22 : decode cX1_storedInt 22 = .ok (.iload_n 2, 1) := by decide +kernel
theorem dX1_storedInt_23 : decode cX1_storedInt 23 = .ok (.iload_n 3, 1) := by decide +kernel
theorem dX1_storedInt_24 : decode cX1_storedInt 24 = .ok (.irem, 1) := by decide +kernel
theorem dX1_storedInt_25 : decode cX1_storedInt 25 = .ok (.iadd, 1) := by decide +kernel
theorem dX1_storedInt_26 : decode cX1_storedInt 26 = .ok (.invokevirtual 86, 3) := by decide +kernel
theorem dX1_storedInt_29 : decode cX1_storedInt 29 = .ok (.ireturn, 1) := by decide +kernel
theorem dX2_init_0 : decode cX2_init 0 = .ok (.aload_n 0, 1) := by decide +kernel
theorem dX2_init_1 : decode cX2_init 1 = .ok (.invokespecial 1, 3) := by decide +kernel
theorem dX2_init_4 : decode cX2_init 4 = .ok (.aload_n 0, 1) := by decide +kernel
theorem dX2_init_5 : decode cX2_init 5 = .ok (.iconst 0, 1) := by decide +kernel
theorem dX2_init_6 : decode cX2_init 6 = .ok (.putfield 7, 3) := by decide +kernel
theorem dX2_init_9 : decode cX2_init 9 = .ok (.iload_n 1, 1) := by decide +kernel
theorem dX2_init_10 : decode cX2_init 10 = .ok (.iconst 0, 1) := by decide +kernel
theorem dX2_init_11 : decode cX2_init 11 = .ok (.invokestatic 13, 3) := by decide +kernel
theorem dX2_init_14 : decode cX2_init 14 = .ok (.istore_n 2, 1) := by decide +kernel
theorem dX2_init_15 : decode cX2_init 15 = .ok (.aload_n 0, 1) := by decide +kernel
theorem dX2_init_16 : decode cX2_init 16 = .ok (.iload_n 2, 1) := by decide +kernel
theorem dX2_init_17 : decode cX2_init 17 = .ok (.newarray .int, 2) := by decide +kernel
theorem dX2_init_19 : decode cX2_init 19 = .ok (.putfield 19, 3) := by decide +kernel
theorem dX2_init_22 : decode cX2_init 22 = .ok (.aload_n 0, 1) := by decide +kernel
theorem dX2_init_23 : decode cX2_init 23 = .ok (.iload_n 2, 1) := by decide +kernel
theorem dX2_init_24 : decode cX2_init 24 = .ok (.newarray .int, 2) := by decide +kernel
theorem dX2_init_26 : decode cX2_init 26 = .ok (.putfield 23, 3) := by decide +kernel
theorem dX2_init_29 : decode cX2_init 29 = .ok (.return_, 1) := by decide +kernel
theorem dX2_clear_0 : decode cX2_clear 0 = .ok (.aload_n 0, 1) := by decide +kernel
theorem dX2_clear_1 : decode cX2_clear 1 = .ok (.iconst 0, 1) := by decide +kernel
theorem dX2_clear_2 : decode cX2_clear 2 = .ok (.putfield 7, 3) := by decide +kernel
theorem dX2_clear_5 : decode cX2_clear 5 = .ok (.return_, 1) := by decide +kernel
theorem dX2_entries_0 : decode cX2_entries 0 = .ok (.aload_n 0, 1) := by decide +kernel
theorem dX2_entries_1 : decode cX2_entries 1 = .ok (.getfield 7, 3) := by decide +kernel
theorem dX2_entries_4 : decode cX2_entries 4 = .ok (.ireturn, 1) := by decide +kernel
theorem dX2_placeOf_0 : decode cX2_placeOf 0 = .ok (.iconst 0, 1) := by decide +kernel
theorem dX2_placeOf_1 : decode cX2_placeOf 1 = .ok (.istore_n 2, 1) := by decide +kernel
theorem dX2_placeOf_2 : decode cX2_placeOf 2 = .ok (.aload_n 0, 1) := by decide +kernel
theorem dX2_placeOf_3 : decode cX2_placeOf 3 = .ok (.getfield 7, 3) := by decide +kernel
theorem dX2_placeOf_6 : decode cX2_placeOf 6 = .ok (.istore_n 3, 1) := by decide +kernel
theorem dX2_placeOf_7 : decode cX2_placeOf 7 = .ok (.iconst 0, 1) := by decide +kernel
theorem dX2_placeOf_8 : decode cX2_placeOf 8 = .ok (.istore 4, 2) := by decide +kernel
theorem dX2_placeOf_10 : decode cX2_placeOf 10 = .ok (.iload 4, 2) := by decide +kernel
theorem dX2_placeOf_12 : decode cX2_placeOf 12 = .ok (.bipush 32, 2) := by decide +kernel
theorem dX2_placeOf_14 : decode cX2_placeOf 14 = .ok (.if_icmp .ge 43, 3) := by decide +kernel
theorem dX2_placeOf_17 : decode cX2_placeOf 17 = .ok (.iload_n 2, 1) := by decide +kernel
theorem dX2_placeOf_18 : decode cX2_placeOf 18 = .ok (.iload_n 3, 1) := by decide +kernel
theorem dX2_placeOf_19 : decode cX2_placeOf 19 = .ok (.if_icmp .ge 38, 3) := by decide +kernel
theorem dX2_placeOf_22 : decode cX2_placeOf 22 = .ok (.iload_n 2, 1) := by decide +kernel
theorem dX2_placeOf_23 : decode cX2_placeOf 23 = .ok (.iload_n 3, 1) := by decide +kernel
theorem dX2_placeOf_24 : decode cX2_placeOf 24 = .ok (.iadd, 1) := by decide +kernel
theorem dX2_placeOf_25 : decode cX2_placeOf 25 = .ok (.iconst 2, 1) := by decide +kernel
theorem dX2_placeOf_26 : decode cX2_placeOf 26 = .ok (.idiv, 1) := by decide +kernel
theorem dX2_placeOf_27 : decode cX2_placeOf 27 = .ok (.istore 5, 2) := by decide +kernel
theorem dX2_placeOf_29 : decode cX2_placeOf 29 = .ok (.aload_n 0, 1) := by decide +kernel
theorem dX2_placeOf_30 : decode cX2_placeOf 30 = .ok (.getfield 19, 3) := by decide +kernel
theorem dX2_placeOf_33 : decode cX2_placeOf 33 = .ok (.iload 5, 2) := by decide +kernel
theorem dX2_placeOf_35 : decode cX2_placeOf 35 = .ok (.iaload, 1) := by decide +kernel
theorem dX2_placeOf_36 : decode cX2_placeOf 36 = .ok (.iload_n 1, 1) := by decide +kernel
theorem dX2_placeOf_37 : decode cX2_placeOf 37 = .ok (.if_icmp .ge 11, 3) := by decide +kernel
theorem dX2_placeOf_40 : decode cX2_placeOf 40 = .ok (.iload 5, 2) := by decide +kernel
theorem dX2_placeOf_42 : decode cX2_placeOf 42 = .ok (.iconst 1, 1) := by decide +kernel
theorem dX2_placeOf_43 : decode cX2_placeOf 43 = .ok (.iadd, 1) := by decide +kernel
theorem dX2_placeOf_44 : decode cX2_placeOf 44 = .ok (.istore_n 2, 1) := by decide +kernel
theorem dX2_placeOf_45 : decode cX2_placeOf 45 = .ok (.goto 6, 3) := by decide +kernel
theorem dX2_placeOf_48 : decode cX2_placeOf 48 = .ok (.iload 5, 2) := by decide +kernel
theorem dX2_placeOf_50 : decode cX2_placeOf 50 = .ok (.istore_n 3, 1) := by decide +kernel
theorem dX2_placeOf_51 : decode cX2_placeOf 51 = .ok (.iinc 4 1, 3) := by decide +kernel
theorem dX2_placeOf_54 : decode cX2_placeOf 54 = .ok (.goto (-44), 3) := by decide +kernel
theorem dX2_placeOf_57 : decode cX2_placeOf 57 = .ok (.iload_n 2, 1) := by decide +kernel
theorem dX2_placeOf_58 : decode cX2_placeOf 58 = .ok (.ireturn, 1) := by decide +kernel
theorem dX2_placeBehind_0 : decode cX2_placeBehind 0 = .ok (.aload_n 0, 1) := by decide +kernel
theorem dX2_placeBehind_1 : decode cX2_placeBehind 1 = .ok (.iload_n 1, 1) := by decide +kernel
theorem dX2_placeBehind_2 : decode cX2_placeBehind 2 = .ok (.invokevirtual 26, 3) := by decide +kernel
theorem dX2_placeBehind_5 : decode cX2_placeBehind 5 = .ok (.istore_n 2, 1) := by decide +kernel
theorem dX2_placeBehind_6 : decode cX2_placeBehind 6 = .ok (.aload_n 0, 1) := by decide +kernel
theorem dX2_placeBehind_7 : decode cX2_placeBehind 7 = .ok (.iload_n 2, 1) := by decide +kernel
theorem dX2_placeBehind_8 : decode cX2_placeBehind 8 = .ok (.iload_n 1, 1) := by decide +kernel
theorem dX2_placeBehind_9 : decode cX2_placeBehind 9 = .ok (.invokevirtual 30, 3) := by decide +kernel
theorem dX2_placeBehind_12 : decode cX2_placeBehind 12 = .ok (.ifCond .eq 9, 3) := by decide +kernel
theorem dX2_placeBehind_15 : decode cX2_placeBehind 15 = .ok (.iload_n 2, 1) := by decide +kernel
theorem dX2_placeBehind_16 : decode cX2_placeBehind 16 = .ok (.iconst 1, 1) := by decide +kernel
theorem dX2_placeBehind_17 : decode cX2_placeBehind 17 = .ok (.iadd, 1) := by decide +kernel
theorem dX2_placeBehind_18 : decode cX2_placeBehind 18 = .ok (.goto 4, 3) := by decide +kernel
theorem dX2_placeBehind_21 : decode cX2_placeBehind 21 = .ok (.iload_n 2, 1) := by decide +kernel
theorem dX2_placeBehind_22 : decode cX2_placeBehind 22 = .ok (.ireturn, 1) := by decide +kernel
theorem dX2_holds_0 : decode cX2_holds 0 = .ok (.aload_n 0, 1) := by decide +kernel
theorem dX2_holds_1 : decode cX2_holds 1 = .ok (.aload_n 0, 1) := by decide +kernel
theorem dX2_holds_2 : decode cX2_holds 2 = .ok (.iload_n 1, 1) := by decide +kernel
theorem dX2_holds_3 : decode cX2_holds 3 = .ok (.invokevirtual 26, 3) := by decide +kernel
theorem dX2_holds_6 : decode cX2_holds 6 = .ok (.iload_n 1, 1) := by decide +kernel
theorem dX2_holds_7 : decode cX2_holds 7 = .ok (.invokevirtual 30, 3) := by decide +kernel
theorem dX2_holds_10 : decode cX2_holds 10 = .ok (.ireturn, 1) := by decide +kernel
theorem dX2_valueOf_0 : decode cX2_valueOf 0 = .ok (.aload_n 0, 1) := by decide +kernel
theorem dX2_valueOf_1 : decode cX2_valueOf 1 = .ok (.iload_n 1, 1) := by decide +kernel
theorem dX2_valueOf_2 : decode cX2_valueOf 2 = .ok (.invokevirtual 26, 3) := by decide +kernel
theorem dX2_valueOf_5 : decode cX2_valueOf 5 = .ok (.istore_n 2, 1) := by decide +kernel
theorem dX2_valueOf_6 : decode cX2_valueOf 6 = .ok (.aload_n 0, 1) := by decide +kernel
theorem dX2_valueOf_7 : decode cX2_valueOf 7 = .ok (.iload_n 2, 1) := by decide +kernel
theorem dX2_valueOf_8 : decode cX2_valueOf 8 = .ok (.iload_n 1, 1) := by decide +kernel
theorem dX2_valueOf_9 : decode cX2_valueOf 9 = .ok (.invokevirtual 30, 3) := by decide +kernel
theorem dX2_valueOf_12 : decode cX2_valueOf 12 = .ok (.ifCond .eq 12, 3) := by decide +kernel
theorem dX2_valueOf_15 : decode cX2_valueOf 15 = .ok (.aload_n 0, 1) := by decide +kernel
theorem dX2_valueOf_16 : decode cX2_valueOf 16 = .ok (.getfield 23, 3) := by decide +kernel
theorem dX2_valueOf_19 : decode cX2_valueOf 19 = .ok (.iload_n 2, 1) := by decide +kernel
theorem dX2_valueOf_20 : decode cX2_valueOf 20 = .ok (.iaload, 1) := by decide +kernel
theorem dX2_valueOf_21 : decode cX2_valueOf 21 = .ok (.goto 4, 3) := by decide +kernel
theorem dX2_valueOf_24 : decode cX2_valueOf 24 = .ok (.iconst 0, 1) := by decide +kernel
theorem dX2_valueOf_25 : decode cX2_valueOf 25 = .ok (.ireturn, 1) := by decide +kernel
theorem dX2_keyAt_0 : decode cX2_keyAt 0 = .ok (.iload_n 1, 1) := by decide +kernel
theorem dX2_keyAt_1 : decode cX2_keyAt 1 = .ok (.ifCond .lt 20, 3) := by decide +kernel
theorem dX2_keyAt_4 : decode cX2_keyAt 4 = .ok (.iload_n 1, 1) := by decide +kernel
theorem dX2_keyAt_5 : decode cX2_keyAt 5 = .ok (.aload_n 0, 1) := by decide +kernel
theorem dX2_keyAt_6 : decode cX2_keyAt 6 = .ok (.getfield 7, 3) := by decide +kernel
theorem dX2_keyAt_9 : decode cX2_keyAt 9 = .ok (.if_icmp .ge 12, 3) := by decide +kernel
theorem dX2_keyAt_12 : decode cX2_keyAt 12 = .ok (.aload_n 0, 1) := by decide +kernel
theorem dX2_keyAt_13 : decode cX2_keyAt 13 = .ok (.getfield 19, 3) := by decide +kernel
theorem dX2_keyAt_16 : decode cX2_keyAt 16 = .ok (.iload_n 1, 1) := by decide +kernel
theorem dX2_keyAt_17 : decode cX2_keyAt 17 = .ok (.iaload, 1) := by decide +kernel
theorem dX2_keyAt_18 : decode cX2_keyAt 18 = .ok (.goto 4, 3) := by decide +kernel
theorem dX2_keyAt_21 : decode cX2_keyAt 21 = .ok (.iconst 0, 1) := by decide +kernel
theorem dX2_keyAt_22 : decode cX2_keyAt 22 = .ok (.ireturn, 1) := by decide +kernel
theorem dX2_valueAt_0 : decode cX2_valueAt 0 = .ok (.iload_n 1, 1) := by decide +kernel
theorem dX2_valueAt_1 : decode cX2_valueAt 1 = .ok (.ifCond .lt 20, 3) := by decide +kernel
theorem dX2_valueAt_4 : decode cX2_valueAt 4 = .ok (.iload_n 1, 1) := by decide +kernel
theorem dX2_valueAt_5 : decode cX2_valueAt 5 = .ok (.aload_n 0, 1) := by decide +kernel
theorem dX2_valueAt_6 : decode cX2_valueAt 6 = .ok (.getfield 7, 3) := by decide +kernel
theorem dX2_valueAt_9 : decode cX2_valueAt 9 = .ok (.if_icmp .ge 12, 3) := by decide +kernel
theorem dX2_valueAt_12 : decode cX2_valueAt 12 = .ok (.aload_n 0, 1) := by decide +kernel
theorem dX2_valueAt_13 : decode cX2_valueAt 13 = .ok (.getfield 23, 3) := by decide +kernel
theorem dX2_valueAt_16 : decode cX2_valueAt 16 = .ok (.iload_n 1, 1) := by decide +kernel
theorem dX2_valueAt_17 : decode cX2_valueAt 17 = .ok (.iaload, 1) := by decide +kernel
theorem dX2_valueAt_18 : decode cX2_valueAt 18 = .ok (.goto 4, 3) := by decide +kernel
theorem dX2_valueAt_21 : decode cX2_valueAt 21 = .ok (.iconst 0, 1) := by decide +kernel
theorem dX2_valueAt_22 : decode cX2_valueAt 22 = .ok (.ireturn, 1) := by decide +kernel
theorem dX2_sumOfValues_0 : decode cX2_sumOfValues 0 = .ok (.lconst 0, 1) := by decide +kernel
theorem dX2_sumOfValues_1 : decode cX2_sumOfValues 1 = .ok (.lstore_n 3, 1) := by decide +kernel
theorem dX2_sumOfValues_2 : decode cX2_sumOfValues 2 = .ok (.iload_n 1, 1) := by decide +kernel
theorem dX2_sumOfValues_3 : decode cX2_sumOfValues 3 = .ok (.istore 5, 2) := by decide +kernel
theorem dX2_sumOfValues_5 : decode cX2_sumOfValues 5 = .ok (.iload 5, 2) := by decide +kernel
theorem dX2_sumOfValues_7 : decode cX2_sumOfValues 7 = .ok (.iload_n 2, 1) := by decide +kernel
theorem dX2_sumOfValues_8 : decode cX2_sumOfValues 8 = .ok (.if_icmp .ge 19, 3) := by decide +kernel
theorem dX2_sumOfValues_11 : decode cX2_sumOfValues 11 = .ok (.lload_n 3, 1) := by decide +kernel
theorem dX2_sumOfValues_12 : decode cX2_sumOfValues 12 = .ok (.aload_n 0, 1) := by decide +kernel
theorem dX2_sumOfValues_13 : decode cX2_sumOfValues 13 = .ok (.iload 5, 2) := by decide +kernel
theorem dX2_sumOfValues_15 : decode cX2_sumOfValues 15 = .ok (.invokevirtual 34, 3) := by decide +kernel
theorem dX2_sumOfValues_18 : decode cX2_sumOfValues 18 = .ok (.i2l, 1) := by decide +kernel
theorem dX2_sumOfValues_19 : decode cX2_sumOfValues 19 = .ok (.ladd, 1) := by decide +kernel
theorem dX2_sumOfValues_20 : decode cX2_sumOfValues 20 = .ok (.lstore_n 3, 1) := by decide +kernel
theorem dX2_sumOfValues_21 : decode cX2_sumOfValues 21 = .ok (.iinc 5 1, 3) := by decide +kernel
theorem dX2_sumOfValues_24 : decode cX2_sumOfValues 24 = .ok (.goto (-19), 3) := by decide +kernel
theorem dX2_sumOfValues_27 : decode cX2_sumOfValues 27 = .ok (.lload_n 3, 1) := by decide +kernel
theorem dX2_sumOfValues_28 : decode cX2_sumOfValues 28 = .ok (.lreturn, 1) := by decide +kernel
theorem dX2_enter_0 : decode cX2_enter 0 = .ok (.aload_n 0, 1) := by decide +kernel
theorem dX2_enter_1 : decode cX2_enter 1 = .ok (.iload_n 1, 1) := by decide +kernel
theorem dX2_enter_2 : decode cX2_enter 2 = .ok (.invokevirtual 26, 3) := by decide +kernel
theorem dX2_enter_5 : decode cX2_enter 5 = .ok (.istore_n 3, 1) := by decide +kernel
theorem dX2_enter_6 : decode cX2_enter 6 = .ok (.aload_n 0, 1) := by decide +kernel
theorem dX2_enter_7 : decode cX2_enter 7 = .ok (.iload_n 3, 1) := by decide +kernel
theorem dX2_enter_8 : decode cX2_enter 8 = .ok (.iload_n 1, 1) := by decide +kernel
theorem dX2_enter_9 : decode cX2_enter 9 = .ok (.invokevirtual 30, 3) := by decide +kernel
theorem dX2_enter_12 : decode cX2_enter 12 = .ok (.ifCond .eq 11, 3) := by decide +kernel
theorem dX2_enter_15 : decode cX2_enter 15 = .ok (.aload_n 0, 1) := by decide +kernel
theorem dX2_enter_16 : decode cX2_enter 16 = .ok (.getfield 23, 3) := by decide +kernel
theorem dX2_enter_19 : decode cX2_enter 19 = .ok (.iload_n 3, 1) := by decide +kernel
theorem dX2_enter_20 : decode cX2_enter 20 = .ok (.iload_n 2, 1) := by decide +kernel
theorem dX2_enter_21 : decode cX2_enter 21 = .ok (.iastore, 1) := by decide +kernel
theorem dX2_enter_22 : decode cX2_enter 22 = .ok (.return_, 1) := by decide +kernel
theorem dX2_enter_23 : decode cX2_enter 23 = .ok (.aload_n 0, 1) := by decide +kernel
theorem dX2_enter_24 : decode cX2_enter 24 = .ok (.getfield 7, 3) := by decide +kernel
theorem dX2_enter_27 : decode cX2_enter 27 = .ok (.aload_n 0, 1) := by decide +kernel
theorem dX2_enter_28 : decode cX2_enter 28 = .ok (.getfield 19, 3) := by decide +kernel
theorem dX2_enter_31 : decode cX2_enter 31 = .ok (.arraylength, 1) := by decide +kernel
theorem dX2_enter_32 : decode cX2_enter 32 = .ok (.if_icmp .lt 4, 3) := by decide +kernel
theorem dX2_enter_35 : decode cX2_enter 35 = .ok (.return_, 1) := by decide +kernel
theorem dX2_enter_36 : decode cX2_enter 36 = .ok (.aload_n 0, 1) := by decide +kernel
theorem dX2_enter_37 : decode cX2_enter 37 = .ok (.getfield 19, 3) := by decide +kernel
theorem dX2_enter_40 : decode cX2_enter 40 = .ok (.iload_n 3, 1) := by decide +kernel
theorem dX2_enter_41 : decode cX2_enter 41 = .ok (.aload_n 0, 1) := by decide +kernel
theorem dX2_enter_42 : decode cX2_enter 42 = .ok (.getfield 19, 3) := by decide +kernel
theorem dX2_enter_45 : decode cX2_enter 45 = .ok (.iload_n 3, 1) := by decide +kernel
theorem dX2_enter_46 : decode cX2_enter 46 = .ok (.iconst 1, 1) := by decide +kernel
theorem dX2_enter_47 : decode cX2_enter 47 = .ok (.iadd, 1) := by decide +kernel
theorem dX2_enter_48 : decode cX2_enter 48 = .ok (.aload_n 0, 1) := by decide +kernel
theorem dX2_enter_49 : decode cX2_enter 49 = .ok (.getfield 7, 3) := by decide +kernel
theorem dX2_enter_52 : decode cX2_enter 52 = .ok (.iload_n 3, 1) := by decide +kernel
theorem dX2_enter_53 : decode cX2_enter 53 = .ok (.isub, 1) := by decide +kernel
theorem dX2_enter_54 : decode cX2_enter 54 = .ok (.invokestatic 37, 3) := by decide +kernel
theorem dX2_enter_57 : decode cX2_enter 57 = .ok (.aload_n 0, 1) := by decide +kernel
theorem dX2_enter_58 : decode cX2_enter 58 = .ok (.getfield 23, 3) := by decide +kernel
theorem dX2_enter_61 : decode cX2_enter 61 = .ok (.iload_n 3, 1) := by decide +kernel
theorem dX2_enter_62 : decode cX2_enter 62 = .ok (.aload_n 0, 1) := by decide +kernel
theorem dX2_enter_63 : decode cX2_enter 63 = .ok (.getfield 23, 3) := by decide +kernel
theorem dX2_enter_66 : decode cX2_enter 66 = .ok (.iload_n 3, 1) := by decide +kernel
theorem dX2_enter_67 : decode cX2_enter 67 = .ok (.iconst 1, 1) := by decide +kernel
theorem dX2_enter_68 : decode cX2_enter 68 = .ok (.iadd, 1) := by decide +kernel
theorem dX2_enter_69 : decode cX2_enter 69 = .ok (.aload_n 0, 1) := by decide +kernel
theorem dX2_enter_70 : decode cX2_enter 70 = .ok (.getfield 7, 3) := by decide +kernel
theorem dX2_enter_73 : decode cX2_enter 73 = .ok (.iload_n 3, 1) := by decide +kernel
theorem dX2_enter_74 : decode cX2_enter 74 = .ok (.isub, 1) := by decide +kernel
theorem dX2_enter_75 : decode cX2_enter 75 = .ok (.invokestatic 37, 3) := by decide +kernel
theorem dX2_enter_78 : decode cX2_enter 78 = .ok (.aload_n 0, 1) := by decide +kernel
theorem dX2_enter_79 : decode cX2_enter 79 = .ok (.getfield 19, 3) := by decide +kernel
theorem dX2_enter_82 : decode cX2_enter 82 = .ok (.iload_n 3, 1) := by decide +kernel
theorem dX2_enter_83 : decode cX2_enter 83 = .ok (.iload_n 1, 1) := by decide +kernel
theorem dX2_enter_84 : decode cX2_enter 84 = .ok (.iastore, 1) := by decide +kernel
theorem dX2_enter_85 : decode cX2_enter 85 = .ok (.aload_n 0, 1) := by decide +kernel
theorem dX2_enter_86 : decode cX2_enter 86 = .ok (.getfield 23, 3) := by decide +kernel
theorem dX2_enter_89 : decode cX2_enter 89 = .ok (.iload_n 3, 1) := by decide +kernel
theorem dX2_enter_90 : decode cX2_enter 90 = .ok (.iload_n 2, 1) := by decide +kernel
theorem dX2_enter_91 : decode cX2_enter 91 = .ok (.iastore, 1) := by decide +kernel
theorem dX2_enter_92 : decode cX2_enter 92 = .ok (.aload_n 0, 1) := by decide +kernel
theorem dX2_enter_93 : decode cX2_enter 93 = .ok (.dup, 1) := by decide +kernel
theorem dX2_enter_94 : decode cX2_enter 94 = .ok (.getfield 7, 3) := by decide +kernel
theorem dX2_enter_97 : decode cX2_enter 97 = .ok (.iconst 1, 1) := by decide +kernel
theorem dX2_enter_98 : decode cX2_enter 98 = .ok (.iadd, 1) := by decide +kernel
theorem dX2_enter_99 : decode cX2_enter 99 = .ok (.putfield 7, 3) := by decide +kernel
theorem dX2_enter_102 : decode cX2_enter 102 = .ok (.return_, 1) := by decide +kernel
theorem dX2_drop_0 : decode cX2_drop 0 = .ok (.aload_n 0, 1) := by decide +kernel
theorem dX2_drop_1 : decode cX2_drop 1 = .ok (.iload_n 1, 1) := by decide +kernel
theorem dX2_drop_2 : decode cX2_drop 2 = .ok (.invokevirtual 26, 3) := by decide +kernel
theorem dX2_drop_5 : decode cX2_drop 5 = .ok (.istore_n 2, 1) := by decide +kernel
theorem dX2_drop_6 : decode cX2_drop 6 = .ok (.aload_n 0, 1) := by decide +kernel
theorem dX2_drop_7 : decode cX2_drop 7 = .ok (.iload_n 2, 1) := by decide +kernel
theorem dX2_drop_8 : decode cX2_drop 8 = .ok (.iload_n 1, 1) := by decide +kernel
theorem dX2_drop_9 : decode cX2_drop 9 = .ok (.invokevirtual 30, 3) := by decide +kernel
theorem dX2_drop_12 : decode cX2_drop 12 = .ok (.ifCond .ne 4, 3) := by decide +kernel
theorem dX2_drop_15 : decode cX2_drop 15 = .ok (.return_, 1) := by decide +kernel
theorem dX2_drop_16 : decode cX2_drop 16 = .ok (.aload_n 0, 1) := by decide +kernel
theorem dX2_drop_17 : decode cX2_drop 17 = .ok (.dup, 1) := by decide +kernel
theorem dX2_drop_18 : decode cX2_drop 18 = .ok (.getfield 7, 3) := by decide +kernel
theorem dX2_drop_21 : decode cX2_drop 21 = .ok (.iconst 1, 1) := by decide +kernel
theorem dX2_drop_22 : decode cX2_drop 22 = .ok (.isub, 1) := by decide +kernel
theorem dX2_drop_23 : decode cX2_drop 23 = .ok (.putfield 7, 3) := by decide +kernel
theorem dX2_drop_26 : decode cX2_drop 26 = .ok (.aload_n 0, 1) := by decide +kernel
theorem dX2_drop_27 : decode cX2_drop 27 = .ok (.getfield 19, 3) := by decide +kernel
theorem dX2_drop_30 : decode cX2_drop 30 = .ok (.iload_n 2, 1) := by decide +kernel
theorem dX2_drop_31 : decode cX2_drop 31 = .ok (.iconst 1, 1) := by decide +kernel
theorem dX2_drop_32 : decode cX2_drop 32 = .ok (.iadd, 1) := by decide +kernel
theorem dX2_drop_33 : decode cX2_drop 33 = .ok (.aload_n 0, 1) := by decide +kernel
theorem dX2_drop_34 : decode cX2_drop 34 = .ok (.getfield 19, 3) := by decide +kernel
theorem dX2_drop_37 : decode cX2_drop 37 = .ok (.iload_n 2, 1) := by decide +kernel
theorem dX2_drop_38 : decode cX2_drop 38 = .ok (.aload_n 0, 1) := by decide +kernel
theorem dX2_drop_39 : decode cX2_drop 39 = .ok (.getfield 7, 3) := by decide +kernel
theorem dX2_drop_42 : decode cX2_drop 42 = .ok (.iload_n 2, 1) := by decide +kernel
theorem dX2_drop_43 : decode cX2_drop 43 = .ok (.isub, 1) := by decide +kernel
theorem dX2_drop_44 : decode cX2_drop 44 = .ok (.invokestatic 37, 3) := by decide +kernel
theorem dX2_drop_47 : decode cX2_drop 47 = .ok (.aload_n 0, 1) := by decide +kernel
theorem dX2_drop_48 : decode cX2_drop 48 = .ok (.getfield 23, 3) := by decide +kernel
theorem dX2_drop_51 : decode cX2_drop 51 = .ok (.iload_n 2, 1) := by decide +kernel
theorem dX2_drop_52 : decode cX2_drop 52 = .ok (.iconst 1, 1) := by decide +kernel
theorem dX2_drop_53 : decode cX2_drop 53 = .ok (.iadd, 1) := by decide +kernel
theorem dX2_drop_54 : decode cX2_drop 54 = .ok (.aload_n 0, 1) := by decide +kernel
theorem dX2_drop_55 : decode cX2_drop 55 = .ok (.getfield 23, 3) := by decide +kernel
theorem dX2_drop_58 : decode cX2_drop 58 = .ok (.iload_n 2, 1) := by decide +kernel
theorem dX2_drop_59 : decode cX2_drop 59 = .ok (.aload_n 0, 1) := by decide +kernel
theorem dX2_drop_60 : decode cX2_drop 60 = .ok (.getfield 7, 3) := by decide +kernel
theorem dX2_drop_63 : decode cX2_drop 63 = .ok (.iload_n 2, 1) := by decide +kernel
theorem dX2_drop_64 : decode cX2_drop 64 = .ok (.isub, 1) := by decide +kernel
theorem dX2_drop_65 : decode cX2_drop 65 = .ok (.invokestatic 37, 3) := by decide +kernel
theorem dX2_drop_68 : decode cX2_drop 68 = .ok (.return_, 1) := by decide +kernel
theorem dX2_copyFrom_0 : decode cX2_copyFrom 0 = .ok (.aload_n 0, 1) := by decide +kernel
theorem dX2_copyFrom_1 : decode cX2_copyFrom 1 = .ok (.aload_n 1, 1) := by decide +kernel
theorem dX2_copyFrom_2 : decode cX2_copyFrom 2 = .ok (.getfield 7, 3) := by decide +kernel
theorem dX2_copyFrom_5 : decode cX2_copyFrom 5 = .ok (.aload_n 0, 1) := by decide +kernel
theorem dX2_copyFrom_6 : decode cX2_copyFrom 6 = .ok (.getfield 19, 3) := by decide +kernel
theorem dX2_copyFrom_9 : decode cX2_copyFrom 9 = .ok (.arraylength, 1) := by decide +kernel
theorem dX2_copyFrom_10 : decode cX2_copyFrom 10 = .ok (.invokestatic 43, 3) := by decide +kernel
theorem dX2_copyFrom_13 : decode cX2_copyFrom 13 = .ok (.putfield 7, 3) := by decide +kernel
theorem dX2_copyFrom_16 : decode cX2_copyFrom 16 = .ok (.aload_n 1, 1) := by decide +kernel
theorem dX2_copyFrom_17 : decode cX2_copyFrom 17 = .ok (.getfield 19, 3) := by decide +kernel
theorem dX2_copyFrom_20 : decode cX2_copyFrom 20 = .ok (.iconst 0, 1) := by decide +kernel
theorem dX2_copyFrom_21 : decode cX2_copyFrom 21 = .ok (.aload_n 0, 1) := by decide +kernel
theorem dX2_copyFrom_22 : decode cX2_copyFrom 22 = .ok (.getfield 19, 3) := by decide +kernel
theorem dX2_copyFrom_25 : decode cX2_copyFrom 25 = .ok (.iconst 0, 1) := by decide +kernel
theorem dX2_copyFrom_26 : decode cX2_copyFrom 26 = .ok (.aload_n 0, 1) := by decide +kernel
theorem dX2_copyFrom_27 : decode cX2_copyFrom 27 = .ok (.getfield 7, 3) := by decide +kernel
theorem dX2_copyFrom_30 : decode cX2_copyFrom 30 = .ok (.invokestatic 37, 3) := by decide +kernel
theorem dX2_copyFrom_33 : decode cX2_copyFrom 33 = .ok (.aload_n 1, 1) := by decide +kernel
theorem dX2_copyFrom_34 : decode cX2_copyFrom 34 = .ok (.getfield 23, 3) := by decide +kernel
theorem dX2_copyFrom_37 : decode cX2_copyFrom 37 = .ok (.iconst 0, 1) := by decide +kernel
theorem dX2_copyFrom_38 : decode cX2_copyFrom 38 = .ok (.aload_n 0, 1) := by decide +kernel
theorem dX2_copyFrom_39 : decode cX2_copyFrom 39 = .ok (.getfield 23, 3) := by decide +kernel
theorem dX2_copyFrom_42 : decode cX2_copyFrom 42 = .ok (.iconst 0, 1) := by decide +kernel
theorem dX2_copyFrom_43 : decode cX2_copyFrom 43 = .ok (.aload_n 0, 1) := by decide +kernel
theorem dX2_copyFrom_44 : decode cX2_copyFrom 44 = .ok (.getfield 7, 3) := by decide +kernel
theorem dX2_copyFrom_47 : decode cX2_copyFrom 47 = .ok (.invokestatic 37, 3) := by decide +kernel
theorem dX2_copyFrom_50 : decode cX2_copyFrom 50 = .ok (.return_, 1) := by decide +kernel
theorem dX2_isAt_0 : decode cX2_isAt 0 = .ok (.iload_n 1, 1) := by decide +kernel
theorem dX2_isAt_1 : decode cX2_isAt 1 = .ok (.ifCond .lt 25, 3) := by decide +kernel
theorem dX2_isAt_4 : decode cX2_isAt 4 = .ok (.iload_n 1, 1) := by decide +kernel
theorem dX2_isAt_5 : decode cX2_isAt 5 = .ok (.aload_n 0, 1) := by decide +kernel
theorem dX2_isAt_6 : decode cX2_isAt 6 = .ok (.getfield 7, 3) := by decide +kernel
theorem dX2_isAt_9 : decode cX2_isAt 9 = .ok (.if_icmp .ge 17, 3) := by decide +kernel
theorem dX2_isAt_12 : decode cX2_isAt 12 = .ok (.aload_n 0, 1) := by decide +kernel
theorem dX2_isAt_13 : decode cX2_isAt 13 = .ok (.getfield 19, 3) := by decide +kernel
theorem dX2_isAt_16 : decode cX2_isAt 16 = .ok (.iload_n 1, 1) := by decide +kernel
theorem dX2_isAt_17 : decode cX2_isAt 17 = .ok (.iaload, 1) := by decide +kernel
theorem dX2_isAt_18 : decode cX2_isAt 18 = .ok (.iload_n 2, 1) := by decide +kernel
theorem dX2_isAt_19 : decode cX2_isAt 19 = .ok (.if_icmp .ne 7, 3) := by decide +kernel
theorem dX2_isAt_22 : decode cX2_isAt 22 = .ok (.iconst 1, 1) := by decide +kernel
theorem dX2_isAt_23 : decode cX2_isAt 23 = .ok (.goto 4, 3) := by decide +kernel
theorem dX2_isAt_26 : decode cX2_isAt 26 = .ok (.iconst 0, 1) := by decide +kernel
theorem dX2_isAt_27 : decode cX2_isAt 27 = .ok (.ireturn, 1) := by decide +kernel
theorem dX3_init_0 : decode cX3_init 0 = .ok (.aload_n 0, 1) := by decide +kernel
theorem dX3_init_1 : decode cX3_init 1 = .ok (.invokespecial 3, 3) := by decide +kernel
theorem dX3_init_4 : decode cX3_init 4 = .ok (.aload_n 0, 1) := by decide +kernel
theorem dX3_init_5 : decode cX3_init 5 = .ok (.iconst 0, 1) := by decide +kernel
theorem dX3_init_6 : decode cX3_init 6 = .ok (.putfield 9, 3) := by decide +kernel
theorem dX3_init_9 : decode cX3_init 9 = .ok (.aload_n 0, 1) := by decide +kernel
theorem dX3_init_10 : decode cX3_init 10 = .ok (.iconst 0, 1) := by decide +kernel
theorem dX3_init_11 : decode cX3_init 11 = .ok (.putfield 15, 3) := by decide +kernel
theorem dX3_init_14 : decode cX3_init 14 = .ok (.aload_n 0, 1) := by decide +kernel
theorem dX3_init_15 : decode cX3_init 15 = .ok (.aload_n 1, 1) := by decide +kernel
theorem dX3_init_16 : decode cX3_init 16 = .ok (.putfield 18, 3) := by decide +kernel
theorem dX3_init_19 : decode cX3_init 19 = .ok (.return_, 1) := by decide +kernel
theorem dX3_layOut_0 : decode cX3_layOut 0 = .ok (.aload_n 0, 1) := by decide +kernel
theorem dX3_layOut_1 : decode cX3_layOut 1 = .ok (.iload_n 1, 1) := by decide +kernel
theorem dX3_layOut_2 : decode cX3_layOut 2 = .ok (.putfield 9, 3) := by decide +kernel
theorem dX3_layOut_5 : decode cX3_layOut 5 = .ok (.aload_n 0, 1) := by decide +kernel
theorem dX3_layOut_6 : decode cX3_layOut 6 = .ok (.iload_n 2, 1) := by decide +kernel
theorem dX3_layOut_7 : decode cX3_layOut 7 = .ok (.putfield 15, 3) := by decide +kernel
theorem dX3_layOut_10 : decode cX3_layOut 10 = .ok (.return_, 1) := by decide +kernel
theorem dX3_areaBlocks_0 : decode cX3_areaBlocks 0 = .ok (.aload_n 0, 1) := by decide +kernel
theorem dX3_areaBlocks_1 : decode cX3_areaBlocks 1 = .ok (.getfield 15, 3) := by decide +kernel
theorem dX3_areaBlocks_4 : decode cX3_areaBlocks 4 = .ok (.ireturn, 1) := by decide +kernel
theorem dX3_blocksFor_0 : decode cX3_blocksFor 0 = .ok (.iload_n 1, 1) := by decide +kernel
theorem dX3_blocksFor_1 : decode cX3_blocksFor 1 = .ok (.aload_n 0, 1) := by decide +kernel
theorem dX3_blocksFor_2 : decode cX3_blocksFor 2 = .ok (.invokevirtual 22, 3) := by decide +kernel
theorem dX3_blocksFor_5 : decode cX3_blocksFor 5 = .ok (.invokestatic 26, 3) := by decide +kernel
theorem dX3_blocksFor_8 : decode cX3_blocksFor 8 = .ok (.istore_n 2, 1) := by decide +kernel
theorem dX3_blocksFor_9 : decode cX3_blocksFor 9 = .ok (.iload_n 2, 1) := by decide +kernel
theorem dX3_blocksFor_10 : decode cX3_blocksFor 10 = .ok (.istore_n 3, 1) := by decide +kernel
theorem dX3_blocksFor_11 : decode cX3_blocksFor 11 = .ok (.iconst 0, 1) := by decide +kernel
theorem dX3_blocksFor_12 : decode cX3_blocksFor 12 = .ok (.istore 4, 2) := by decide +kernel
theorem dX3_blocksFor_14 : decode cX3_blocksFor 14 = .ok (.iload 4, 2) := by decide +kernel
theorem dX3_blocksFor_16 : decode cX3_blocksFor 16 = .ok (.bipush 32, 2) := by decide +kernel
theorem dX3_blocksFor_18 : decode cX3_blocksFor 18 = .ok (.if_icmp .ge 27, 3) := by decide +kernel
theorem dX3_blocksFor_21 : decode cX3_blocksFor 21 = .ok (.iload_n 2, 1) := by decide +kernel
theorem dX3_blocksFor_22 : decode cX3_blocksFor 22 = .ok (.iconst 1, 1) := by decide +kernel
theorem dX3_blocksFor_23 : decode cX3_blocksFor 23 = .ok (.if_icmp .le 22, 3) := by decide +kernel
theorem dX3_blocksFor_26 : decode cX3_blocksFor 26 = .ok (.iload_n 2, 1) := by decide +kernel
theorem dX3_blocksFor_27 : decode cX3_blocksFor 27 = .ok (.aload_n 0, 1) := by decide +kernel
theorem dX3_blocksFor_28 : decode cX3_blocksFor 28 = .ok (.invokevirtual 22, 3) := by decide +kernel
theorem dX3_blocksFor_31 : decode cX3_blocksFor 31 = .ok (.invokestatic 26, 3) := by decide +kernel
theorem dX3_blocksFor_34 : decode cX3_blocksFor 34 = .ok (.istore_n 2, 1) := by decide +kernel
theorem dX3_blocksFor_35 : decode cX3_blocksFor 35 = .ok (.iload_n 3, 1) := by decide +kernel
theorem dX3_blocksFor_36 : decode cX3_blocksFor 36 = .ok (.iload_n 2, 1) := by decide +kernel
theorem dX3_blocksFor_37 : decode cX3_blocksFor 37 = .ok (.iadd, 1) := by decide +kernel
theorem dX3_blocksFor_38 : decode cX3_blocksFor 38 = .ok (.istore_n 3, 1) := by decide +kernel
theorem dX3_blocksFor_39 : decode cX3_blocksFor 39 = .ok (.iinc 4 1, 3) := by decide +kernel
theorem dX3_blocksFor_42 : decode cX3_blocksFor 42 = .ok (.goto (-28), 3) := by decide +kernel
theorem dX3_blocksFor_45 : decode cX3_blocksFor 45 = .ok (.iload_n 3, 1) := by decide +kernel
theorem dX3_blocksFor_46 : decode cX3_blocksFor 46 = .ok (.ireturn, 1) := by decide +kernel
theorem dX3_rootOf_0 : decode cX3_rootOf 0 = .ok (.iload_n 2, 1) := by decide +kernel
theorem dX3_rootOf_1 : decode cX3_rootOf 1 = .ok (.iconst 1, 1) := by decide +kernel
theorem dX3_rootOf_2 : decode cX3_rootOf 2 = .ok (.if_icmp .ge 7, 3) := by decide +kernel
theorem dX3_rootOf_5 : decode cX3_rootOf 5 = .ok (.iconst 0, 1) := by decide +kernel
theorem dX3_rootOf_6 : decode cX3_rootOf 6 = .ok (.goto 16, 3) := by decide +kernel
theorem dX3_rootOf_9 : decode cX3_rootOf 9 = .ok (.aload_n 0, 1) := by decide +kernel
theorem dX3_rootOf_10 : decode cX3_rootOf 10 = .ok (.iload_n 1, 1) := by decide +kernel
theorem dX3_rootOf_11 : decode cX3_rootOf 11 = .ok (.invokevirtual 30, 3) := by decide +kernel
theorem dX3_rootOf_14 : decode cX3_rootOf 14 = .ok (.aload_n 0, 1) := by decide +kernel
theorem dX3_rootOf_15 : decode cX3_rootOf 15 = .ok (.iload_n 2, 1) := by decide +kernel
theorem dX3_rootOf_16 : decode cX3_rootOf 16 = .ok (.invokevirtual 34, 3) := by decide +kernel
theorem dX3_rootOf_19 : decode cX3_rootOf 19 = .ok (.iadd, 1) := by decide +kernel
theorem dX3_rootOf_20 : decode cX3_rootOf 20 = .ok (.iconst 1, 1) := by decide +kernel
theorem dX3_rootOf_21 : decode cX3_rootOf 21 = .ok (.isub, 1) := by decide +kernel
theorem dX3_rootOf_22 : decode cX3_rootOf 22 = .ok (.ireturn, 1) := by decide +kernel
theorem dX3_save_0 : decode cX3_save 0 = .ok (.aload_n 0, 1) := by decide +kernel
theorem dX3_save_1 : decode cX3_save 1 = .ok (.iload_n 2, 1) := by decide +kernel
theorem dX3_save_2 : decode cX3_save 2 = .ok (.invokevirtual 30, 3) := by decide +kernel
theorem dX3_save_5 : decode cX3_save 5 = .ok (.istore_n 3, 1) := by decide +kernel
theorem dX3_save_6 : decode cX3_save 6 = .ok (.aload_n 1, 1) := by decide +kernel
theorem dX3_save_7 : decode cX3_save 7 = .ok (.invokevirtual 37, 3) := by decide +kernel
theorem dX3_save_10 : decode cX3_save 10 = .ok (.aload_n 0, 1) := by decide +kernel
theorem dX3_save_11 : decode cX3_save 11 = .ok (.invokevirtual 22, 3) := by decide +kernel
theorem dX3_save_14 : decode cX3_save 14 = .ok (.invokestatic 26, 3) := by decide +kernel
theorem dX3_save_17 : decode cX3_save 17 = .ok (.istore 4, 2) := by decide +kernel
theorem dX3_save_19 : decode cX3_save 19 = .ok (.aload_n 0, 1) := by decide +kernel
theorem dX3_save_20 : decode cX3_save 20 = .ok (.aload_n 1, 1) := by decide +kernel
theorem dX3_save_21 : decode cX3_save 21 = .ok (.iload_n 3, 1) := by decide +kernel
theorem dX3_save_22 : decode cX3_save 22 = .ok (.iload 4, 2) := by decide +kernel
theorem dX3_save_24 : decode cX3_save 24 = .ok (.invokevirtual 42, 3) := by decide +kernel
theorem dX3_save_27 : decode cX3_save 27 = .ok (.ifCond .ne 5, 3) := by decide +kernel
theorem dX3_save_30 : decode cX3_save 30 = .ok (.iconst 0, 1) := by decide +kernel
theorem dX3_save_31 : decode cX3_save 31 = .ok (.ireturn, 1) := by decide +kernel
theorem dX3_save_32 : decode cX3_save 32 = .ok (.iconst 0, 1) := by decide +kernel
theorem dX3_save_33 : decode cX3_save 33 = .ok (.istore 5, 2) := by decide +kernel
theorem dX3_save_35 : decode cX3_save 35 = .ok (.iload 5, 2) := by decide +kernel
theorem dX3_save_37 : decode cX3_save 37 = .ok (.bipush 32, 2) := by decide +kernel
theorem dX3_save_39 : decode cX3_save 39 = .ok (.if_icmp .ge 43, 3) := by decide +kernel
theorem dX3_save_42 : decode cX3_save 42 = .ok (.iload 4, 2) := by decide +kernel
theorem dX3_save_44 : decode cX3_save 44 = .ok (.iconst 1, 1) := by decide +kernel
theorem dX3_save_45 : decode cX3_save 45 = .ok (.if_icmp .le 37, 3) := by decide +kernel
theorem dX3_save_48 : decode cX3_save 48 = .ok (.aload_n 0, 1) := by decide +kernel
theorem dX3_save_49 : decode cX3_save 49 = .ok (.iload_n 3, 1) := by decide +kernel
theorem dX3_save_50 : decode cX3_save 50 = .ok (.iload 4, 2) := by decide +kernel
theorem dX3_save_52 : decode cX3_save 52 = .ok (.invokevirtual 46, 3) := by decide +kernel
theorem dX3_save_55 : decode cX3_save 55 = .ok (.ifCond .ne 5, 3) := by decide +kernel
theorem dX3_save_58 : decode cX3_save 58 = .ok (.iconst 0, 1) := by decide +kernel
theorem dX3_save_59 : decode cX3_save 59 = .ok (.ireturn, 1) := by decide +kernel
theorem dX3_save_60 : decode cX3_save 60 = .ok (.iload_n 3, 1) := by decide +kernel
theorem dX3_save_61 : decode cX3_save 61 = .ok (.iload 4, 2) := by decide +kernel
theorem dX3_save_63 : decode cX3_save 63 = .ok (.iadd, 1) := by decide +kernel
theorem dX3_save_64 : decode cX3_save 64 = .ok (.istore_n 3, 1) := by decide +kernel
theorem dX3_save_65 : decode cX3_save 65 = .ok (.iload 4, 2) := by decide +kernel
theorem dX3_save_67 : decode cX3_save 67 = .ok (.aload_n 0, 1) := by decide +kernel
theorem dX3_save_68 : decode cX3_save 68 = .ok (.invokevirtual 22, 3) := by decide +kernel
theorem dX3_save_71 : decode cX3_save 71 = .ok (.invokestatic 26, 3) := by decide +kernel
theorem dX3_save_74 : decode cX3_save 74 = .ok (.istore 4, 2) := by decide +kernel
theorem dX3_save_76 : decode cX3_save 76 = .ok (.iinc 5 1, 3) := by decide +kernel
theorem dX3_save_79 : decode cX3_save 79 = .ok (.goto (-44), 3) := by decide +kernel
theorem dX3_save_82 : decode cX3_save 82 = .ok (.iconst 1, 1) := by decide +kernel
theorem dX3_save_83 : decode cX3_save 83 = .ok (.ireturn, 1) := by decide +kernel
theorem dX3_load_0 : decode cX3_load 0 = .ok (.aload_n 1, 1) := by decide +kernel
theorem dX3_load_1 : decode cX3_load 1 = .ok (.invokevirtual 50, 3) := by decide +kernel
theorem dX3_load_4 : decode cX3_load 4 = .ok (.aload_n 0, 1) := by decide +kernel
theorem dX3_load_5 : decode cX3_load 5 = .ok (.iload_n 2, 1) := by decide +kernel
theorem dX3_load_6 : decode cX3_load 6 = .ok (.invokevirtual 30, 3) := by decide +kernel
theorem dX3_load_9 : decode cX3_load 9 = .ok (.istore 4, 2) := by decide +kernel
theorem dX3_load_11 : decode cX3_load 11 = .ok (.aload_n 0, 1) := by decide +kernel
theorem dX3_load_12 : decode cX3_load 12 = .ok (.invokevirtual 22, 3) := by decide +kernel
theorem dX3_load_15 : decode cX3_load 15 = .ok (.istore 5, 2) := by decide +kernel
theorem dX3_load_17 : decode cX3_load 17 = .ok (.iload 5, 2) := by decide +kernel
theorem dX3_load_19 : decode cX3_load 19 = .ok (.iconst 1, 1) := by decide +kernel
theorem dX3_load_20 : decode cX3_load 20 = .ok (.if_icmp .ge 4, 3) := by decide +kernel
theorem dX3_load_23 : decode cX3_load 23 = .ok (.return_, 1) := by decide +kernel
theorem dX3_load_24 : decode cX3_load 24 = .ok (.iconst 0, 1) := by decide +kernel
theorem dX3_load_25 : decode cX3_load 25 = .ok (.istore 6, 2) := by decide +kernel
theorem dX3_load_27 : decode cX3_load 27 = .ok (.iload 6, 2) := by decide +kernel
theorem dX3_load_29 : decode cX3_load 29 = .ok (.iload_n 3, 1) := by decide +kernel
theorem dX3_load_30 : decode cX3_load 30 = .ok (.if_icmp .ge 66, 3) := by decide +kernel
theorem dX3_load_33 : decode cX3_load 33 = .ok (.iload 6, 2) := by decide +kernel
theorem dX3_load_35 : decode cX3_load 35 = .ok (.sipush 8700, 3) := by decide +kernel
theorem dX3_load_38 : decode cX3_load 38 = .ok (.if_icmp .ge 58, 3) := by decide +kernel
theorem dX3_load_41 : decode cX3_load 41 = .ok (.iload 4, 2) := by decide +kernel
theorem dX3_load_43 : decode cX3_load 43 = .ok (.iload 6, 2) := by decide +kernel
theorem dX3_load_45 : decode cX3_load 45 = .ok (.iload 5, 2) := by decide +kernel
theorem dX3_load_47 : decode cX3_load 47 = .ok (.idiv, 1) := by decide +kernel
theorem dX3_load_48 : decode cX3_load 48 = .ok (.iadd, 1) := by decide +kernel
theorem dX3_load_49 : decode cX3_load 49 = .ok (.istore 7, 2) := by decide +kernel
theorem dX3_load_51 : decode cX3_load 51 = .ok (.iconst 2, 1) := by decide +kernel
theorem dX3_load_52 : decode cX3_load 52 = .ok (.iconst 2, 1) := by decide +kernel
theorem dX3_load_53 : decode cX3_load 53 = .ok (.iload 6, 2) := by decide +kernel
theorem dX3_load_55 : decode cX3_load 55 = .ok (.iload 5, 2) := by decide +kernel
theorem dX3_load_57 : decode cX3_load 57 = .ok (.irem, 1) := by decide +kernel
theorem dX3_load_58 : decode cX3_load 58 = .ok (.imul, 1) := by decide +kernel
theorem dX3_load_59 : decode cX3_load 59 = .ok (.iadd, 1) := by decide +kernel
theorem dX3_load_60 : decode cX3_load 60 = .ok (.istore 8, 2) := by decide +kernel
theorem dX3_load_62 : decode cX3_load 62 = .ok (.aload_n 1, 1) := by decide +kernel
theorem dX3_load_63 : decode cX3_load 63 = .ok (.aload_n 0, 1) := by decide +kernel
theorem dX3_load_64 : decode cX3_load 64 = .ok (.getfield 18, 3) := by decide +kernel
theorem dX3_load_67 : decode cX3_load 67 = .ok (.iload 7, 2) := by decide +kernel
theorem dX3_load_69 : decode cX3_load 69 = .ok (.iload 8, 2) := by decide +kernel
theorem dX3_load_71 : decode cX3_load 71 = .ok (.invokevirtual 53, 3) := by decide +kernel
theorem dX3_load_74 : decode cX3_load 74 = .ok (.aload_n 0, 1) := by decide +kernel
theorem dX3_load_75 : decode cX3_load 75 = .ok (.getfield 18, 3) := by decide +kernel
theorem dX3_load_78 : decode cX3_load 78 = .ok (.iload 7, 2) := by decide +kernel
theorem dX3_load_80 : decode cX3_load 80 = .ok (.iload 8, 2) := by decide +kernel
theorem dX3_load_82 : decode cX3_load 82 = .ok (.iconst 1, 1) := by decide +kernel
theorem dX3_load_83 : decode cX3_load 83 = .ok (.iadd, 1) := by decide +kernel
theorem dX3_load_84 : decode cX3_load 84 = .ok (.invokevirtual 53, 3) := by decide +kernel
theorem dX3_load_87 : decode cX3_load 87 = .ok (.invokevirtual 58, 3) := by decide +kernel
theorem dX3_load_90 : decode cX3_load 90 = .ok (.iinc 6 1, 3) := by decide +kernel
theorem dX3_load_93 : decode cX3_load 93 = .ok (.goto (-66), 3) := by decide +kernel
theorem dX3_load_96 : decode cX3_load 96 = .ok (.return_, 1) := by decide +kernel
theorem dX3_fan_0 : decode cX3_fan 0 = .ok (.aload_n 0, 1) := by decide +kernel
theorem dX3_fan_1 : decode cX3_fan 1 = .ok (.getfield 18, 3) := by decide +kernel
theorem dX3_fan_4 : decode cX3_fan 4 = .ok (.invokevirtual 62, 3) := by decide +kernel
theorem dX3_fan_7 : decode cX3_fan 7 = .ok (.iconst 3, 1) := by decide +kernel
theorem dX3_fan_8 : decode cX3_fan 8 = .ok (.isub, 1) := by decide +kernel
theorem dX3_fan_9 : decode cX3_fan 9 = .ok (.iconst 2, 1) := by decide +kernel
theorem dX3_fan_10 : decode cX3_fan 10 = .ok (.idiv, 1) := by decide +kernel
theorem dX3_fan_11 : decode cX3_fan 11 = .ok (.ireturn, 1) := by decide +kernel
theorem dX3_startOf_0 : decode cX3_startOf 0 = .ok (.iload_n 1, 1) := by decide +kernel
theorem dX3_startOf_1 : decode cX3_startOf 1 = .ok (.ifCond .ne 10, 3) := by decide +kernel
theorem dX3_startOf_4 : decode cX3_startOf 4 = .ok (.aload_n 0, 1) := by decide +kernel
theorem dX3_startOf_5 : decode cX3_startOf 5 = .ok (.getfield 9, 3) := by decide +kernel
theorem dX3_startOf_8 : decode cX3_startOf 8 = .ok (.goto 12, 3) := by decide +kernel
theorem dX3_startOf_11 : decode cX3_startOf 11 = .ok (.aload_n 0, 1) := by decide +kernel
theorem dX3_startOf_12 : decode cX3_startOf 12 = .ok (.getfield 9, 3) := by decide +kernel
theorem dX3_startOf_15 : decode cX3_startOf 15 = .ok (.aload_n 0, 1) := by decide +kernel
theorem dX3_startOf_16 : decode cX3_startOf 16 = .ok (.getfield 15, 3) := by decide +kernel
theorem dX3_startOf_19 : decode cX3_startOf 19 = .ok (.iadd, 1) := by decide +kernel
theorem dX3_startOf_20 : decode cX3_startOf 20 = .ok (.ireturn, 1) := by decide +kernel
theorem dX3_writeLeaves_0 : decode cX3_writeLeaves 0 = .ok (.iconst 0, 1) := by decide +kernel
theorem dX3_writeLeaves_1 : decode cX3_writeLeaves 1 = .ok (.istore 4, 2) := by decide +kernel
theorem dX3_writeLeaves_3 : decode cX3_writeLeaves 3 = .ok (.iload 4, 2) := by decide +kernel
theorem dX3_writeLeaves_5 : decode cX3_writeLeaves 5 = .ok (.iload_n 3, 1) := by decide +kernel
theorem dX3_writeLeaves_6 : decode cX3_writeLeaves 6 = .ok (.if_icmp .ge 97, 3) := by decide +kernel
theorem dX3_writeLeaves_9 : decode cX3_writeLeaves 9 = .ok (.iload 4, 2) := by decide +kernel
theorem dX3_writeLeaves_11 : decode cX3_writeLeaves 11 = .ok (.aload_n 0, 1) := by decide +kernel
theorem dX3_writeLeaves_12 : decode cX3_writeLeaves 12 = .ok (.invokevirtual 22, 3) := by decide +kernel
theorem dX3_writeLeaves_15 : decode cX3_writeLeaves 15 = .ok (.imul, 1) := by decide +kernel
theorem dX3_writeLeaves_16 : decode cX3_writeLeaves 16 = .ok (.istore 5, 2) := by decide +kernel
theorem dX3_writeLeaves_18 : decode cX3_writeLeaves 18 = .ok (.aload_n 0, 1) := by decide +kernel
theorem dX3_writeLeaves_19 : decode cX3_writeLeaves 19 = .ok (.invokevirtual 22, 3) := by decide +kernel
theorem dX3_writeLeaves_22 : decode cX3_writeLeaves 22 = .ok (.aload_n 1, 1) := by decide +kernel
theorem dX3_writeLeaves_23 : decode cX3_writeLeaves 23 = .ok (.invokevirtual 37, 3) := by decide +kernel
theorem dX3_writeLeaves_26 : decode cX3_writeLeaves 26 = .ok (.iload 5, 2) := by decide +kernel
theorem dX3_writeLeaves_28 : decode cX3_writeLeaves 28 = .ok (.isub, 1) := by decide +kernel
theorem dX3_writeLeaves_29 : decode cX3_writeLeaves 29 = .ok (.invokestatic 65, 3) := by decide +kernel
theorem dX3_writeLeaves_32 : decode cX3_writeLeaves 32 = .ok (.istore 6, 2) := by decide +kernel
theorem dX3_writeLeaves_34 : decode cX3_writeLeaves 34 = .ok (.aload_n 0, 1) := by decide +kernel
theorem dX3_writeLeaves_35 : decode cX3_writeLeaves 35 = .ok (.iconst 1, 1) := by decide +kernel
theorem dX3_writeLeaves_36 : decode cX3_writeLeaves 36 = .ok (.iload 6, 2) := by decide +kernel
theorem dX3_writeLeaves_38 : decode cX3_writeLeaves 38 = .ok (.invokevirtual 70, 3) := by decide +kernel
theorem dX3_writeLeaves_41 : decode cX3_writeLeaves 41 = .ok (.iconst 0, 1) := by decide +kernel
theorem dX3_writeLeaves_42 : decode cX3_writeLeaves 42 = .ok (.istore 7, 2) := by decide +kernel
theorem dX3_writeLeaves_44 : decode cX3_writeLeaves 44 = .ok (.iload 7, 2) := by decide +kernel
theorem dX3_writeLeaves_46 : decode cX3_writeLeaves 46 = .ok (.iload 6, 2) := by decide +kernel
theorem dX3_writeLeaves_48 : decode cX3_writeLeaves 48 = .ok (.if_icmp .ge 33, 3) := by decide +kernel
theorem dX3_writeLeaves_51 : decode cX3_writeLeaves 51 = .ok (.aload_n 0, 1) := by decide +kernel
theorem dX3_writeLeaves_52 : decode cX3_writeLeaves 52 = .ok (.iload 7, 2) := by decide +kernel
theorem dX3_writeLeaves_54 : decode cX3_writeLeaves 54 = .ok (.aload_n 1, 1) := by decide +kernel
theorem dX3_writeLeaves_55 : decode cX3_writeLeaves 55 = .ok (.iload 5, 2) := by decide +kernel
theorem dX3_writeLeaves_57 : decode cX3_writeLeaves 57 = .ok (.iload 7, 2) := by decide +kernel
theorem dX3_writeLeaves_59 : decode cX3_writeLeaves 59 = .ok (.iadd, 1) := by decide +kernel
theorem dX3_writeLeaves_60 : decode cX3_writeLeaves 60 = .ok (.invokevirtual 73, 3) := by decide +kernel
theorem dX3_writeLeaves_63 : decode cX3_writeLeaves 63 = .ok (.aload_n 1, 1) := by decide +kernel
theorem dX3_writeLeaves_64 : decode cX3_writeLeaves 64 = .ok (.iload 5, 2) := by decide +kernel
theorem dX3_writeLeaves_66 : decode cX3_writeLeaves 66 = .ok (.iload 7, 2) := by decide +kernel
theorem dX3_writeLeaves_68 : decode cX3_writeLeaves 68 = .ok (.iadd, 1) := by decide +kernel
theorem dX3_writeLeaves_69 : decode cX3_writeLeaves 69 = .ok (.invokevirtual 76, 3) := by decide +kernel
theorem dX3_writeLeaves_72 : decode cX3_writeLeaves 72 = .ok (.invokevirtual 79, 3) := by decide +kernel
theorem dX3_writeLeaves_75 : decode cX3_writeLeaves 75 = .ok (.iinc 7 1, 3) := by decide +kernel
theorem dX3_writeLeaves_78 : decode cX3_writeLeaves 78 = .ok (.goto (-34), 3) := by decide +kernel
theorem dX3_writeLeaves_81 : decode cX3_writeLeaves 81 = .ok (.aload_n 0, 1) := by decide +kernel
theorem dX3_writeLeaves_82 : decode cX3_writeLeaves 82 = .ok (.getfield 18, 3) := by decide +kernel
theorem dX3_writeLeaves_85 : decode cX3_writeLeaves 85 = .ok (.iload_n 2, 1) := by decide +kernel
theorem dX3_writeLeaves_86 : decode cX3_writeLeaves 86 = .ok (.iload 4, 2) := by decide +kernel
theorem dX3_writeLeaves_88 : decode cX3_writeLeaves 88 = .ok (.iadd, 1) := by decide +kernel
theorem dX3_writeLeaves_89 : decode cX3_writeLeaves 89 = .ok (.invokevirtual 83, 3) := by decide +kernel
theorem dX3_writeLeaves_92 : decode cX3_writeLeaves 92 = .ok (.ifCond .ne 5, 3) := by decide +kernel
theorem dX3_writeLeaves_95 : decode cX3_writeLeaves 95 = .ok (.iconst 0, 1) := by decide +kernel
theorem dX3_writeLeaves_96 : decode cX3_writeLeaves 96 = .ok (.ireturn, 1) := by decide +kernel
theorem dX3_writeLeaves_97 : decode cX3_writeLeaves 97 = .ok (.iinc 4 1, 3) := by decide +kernel
theorem dX3_writeLeaves_100 : decode cX3_writeLeaves 100 = .ok (.goto (-97), 3) := by decide +kernel
theorem dX3_writeLeaves_103 : decode cX3_writeLeaves 103 = .ok (.iconst 1, 1) := by decide +kernel
theorem dX3_writeLeaves_104 : decode cX3_writeLeaves 104 = .ok (.ireturn, 1) := by decide +kernel
theorem dX3_writeNodes_0 : decode cX3_writeNodes 0 = .ok (.iload_n 2, 1) := by decide +kernel
theorem dX3_writeNodes_1 : decode cX3_writeNodes 1 = .ok (.aload_n 0, 1) := by decide +kernel
theorem dX3_writeNodes_2 : decode cX3_writeNodes 2 = .ok (.invokevirtual 22, 3) := by decide +kernel
theorem dX3_writeNodes_5 : decode cX3_writeNodes 5 = .ok (.invokestatic 26, 3) := by decide +kernel
theorem dX3_writeNodes_8 : decode cX3_writeNodes 8 = .ok (.istore_n 3, 1) := by decide +kernel
theorem dX3_writeNodes_9 : decode cX3_writeNodes 9 = .ok (.iconst 0, 1) := by decide +kernel
theorem dX3_writeNodes_10 : decode cX3_writeNodes 10 = .ok (.istore 4, 2) := by decide +kernel
theorem dX3_writeNodes_12 : decode cX3_writeNodes 12 = .ok (.iload 4, 2) := by decide +kernel
theorem dX3_writeNodes_14 : decode cX3_writeNodes 14 = .ok (.iload_n 3, 1) := by decide +kernel
theorem dX3_writeNodes_15 : decode cX3_writeNodes 15 = .ok (.if_icmp .ge 99, 3) := by decide +kernel
theorem dX3_writeNodes_18 : decode cX3_writeNodes 18 = .ok (.iload 4, 2) := by decide +kernel
theorem dX3_writeNodes_20 : decode cX3_writeNodes 20 = .ok (.aload_n 0, 1) := by decide +kernel
theorem dX3_writeNodes_21 : decode cX3_writeNodes 21 = .ok (.invokevirtual 22, 3) := by decide +kernel
theorem dX3_writeNodes_24 : decode cX3_writeNodes 24 = .ok (.imul, 1) := by decide +kernel
theorem dX3_writeNodes_25 : decode cX3_writeNodes 25 = .ok (.istore 5, 2) := by decide +kernel
theorem dX3_writeNodes_27 : decode cX3_writeNodes 27 = .ok (.aload_n 0, 1) := by decide +kernel
theorem dX3_writeNodes_28 : decode cX3_writeNodes 28 = .ok (.invokevirtual 22, 3) := by decide +kernel
theorem dX3_writeNodes_31 : decode cX3_writeNodes 31 = .ok (.iload_n 2, 1) := by decide +kernel
theorem dX3_writeNodes_32 : decode cX3_writeNodes 32 = .ok (.iload 5, 2) := by decide +kernel
theorem dX3_writeNodes_34 : decode cX3_writeNodes 34 = .ok (.isub, 1) := by decide +kernel
theorem dX3_writeNodes_35 : decode cX3_writeNodes 35 = .ok (.invokestatic 65, 3) := by decide +kernel
theorem dX3_writeNodes_38 : decode cX3_writeNodes 38 = .ok (.istore 6, 2) := by decide +kernel
theorem dX3_writeNodes_40 : decode cX3_writeNodes 40 = .ok (.aload_n 0, 1) := by decide +kernel
theorem dX3_writeNodes_41 : decode cX3_writeNodes 41 = .ok (.iconst 2, 1) := by decide +kernel
theorem dX3_writeNodes_42 : decode cX3_writeNodes 42 = .ok (.iload 6, 2) := by decide +kernel
theorem dX3_writeNodes_44 : decode cX3_writeNodes 44 = .ok (.invokevirtual 70, 3) := by decide +kernel
theorem dX3_writeNodes_47 : decode cX3_writeNodes 47 = .ok (.iconst 0, 1) := by decide +kernel
theorem dX3_writeNodes_48 : decode cX3_writeNodes 48 = .ok (.istore 7, 2) := by decide +kernel
theorem dX3_writeNodes_50 : decode cX3_writeNodes 50 = .ok (.iload 7, 2) := by decide +kernel
theorem dX3_writeNodes_52 : decode cX3_writeNodes 52 = .ok (.iload 6, 2) := by decide +kernel
theorem dX3_writeNodes_54 : decode cX3_writeNodes 54 = .ok (.if_icmp .ge 36, 3) := by decide +kernel
theorem dX3_writeNodes_57 : decode cX3_writeNodes 57 = .ok (.iload_n 1, 1) := by decide +kernel
theorem dX3_writeNodes_58 : decode cX3_writeNodes 58 = .ok (.iload 5, 2) := by decide +kernel
theorem dX3_writeNodes_60 : decode cX3_writeNodes 60 = .ok (.iadd, 1) := by decide +kernel
theorem dX3_writeNodes_61 : decode cX3_writeNodes 61 = .ok (.iload 7, 2) := by decide +kernel
theorem dX3_writeNodes_63 : decode cX3_writeNodes 63 = .ok (.iadd, 1) := by decide +kernel
theorem dX3_writeNodes_64 : decode cX3_writeNodes 64 = .ok (.istore 8, 2) := by decide +kernel
theorem dX3_writeNodes_66 : decode cX3_writeNodes 66 = .ok (.aload_n 0, 1) := by decide +kernel
theorem dX3_writeNodes_67 : decode cX3_writeNodes 67 = .ok (.iload 7, 2) := by decide +kernel
theorem dX3_writeNodes_69 : decode cX3_writeNodes 69 = .ok (.aload_n 0, 1) := by decide +kernel
theorem dX3_writeNodes_70 : decode cX3_writeNodes 70 = .ok (.getfield 18, 3) := by decide +kernel
theorem dX3_writeNodes_73 : decode cX3_writeNodes 73 = .ok (.iload 8, 2) := by decide +kernel
theorem dX3_writeNodes_75 : decode cX3_writeNodes 75 = .ok (.iconst 2, 1) := by decide +kernel
theorem dX3_writeNodes_76 : decode cX3_writeNodes 76 = .ok (.invokevirtual 53, 3) := by decide +kernel
theorem dX3_writeNodes_79 : decode cX3_writeNodes 79 = .ok (.iload 8, 2) := by decide +kernel
theorem dX3_writeNodes_81 : decode cX3_writeNodes 81 = .ok (.invokevirtual 79, 3) := by decide +kernel
theorem dX3_writeNodes_84 : decode cX3_writeNodes 84 = .ok (.iinc 7 1, 3) := by decide +kernel
theorem dX3_writeNodes_87 : decode cX3_writeNodes 87 = .ok (.goto (-37), 3) := by decide +kernel
theorem dX3_writeNodes_90 : decode cX3_writeNodes 90 = .ok (.aload_n 0, 1) := by decide +kernel
theorem dX3_writeNodes_91 : decode cX3_writeNodes 91 = .ok (.getfield 18, 3) := by decide +kernel
theorem dX3_writeNodes_94 : decode cX3_writeNodes 94 = .ok (.iload_n 1, 1) := by decide +kernel
theorem dX3_writeNodes_95 : decode cX3_writeNodes 95 = .ok (.iload_n 2, 1) := by decide +kernel
theorem dX3_writeNodes_96 : decode cX3_writeNodes 96 = .ok (.iadd, 1) := by decide +kernel
theorem dX3_writeNodes_97 : decode cX3_writeNodes 97 = .ok (.iload 4, 2) := by decide +kernel
theorem dX3_writeNodes_99 : decode cX3_writeNodes 99 = .ok (.iadd, 1) := by decide +kernel
theorem dX3_writeNodes_100 : decode cX3_writeNodes 100 = .ok (.invokevirtual 83, 3) := by decide +kernel
theorem dX3_writeNodes_103 : decode cX3_writeNodes 103 = .ok (.ifCond .ne 5, 3) := by decide +kernel
theorem dX3_writeNodes_106 : decode cX3_writeNodes 106 = .ok (.iconst 0, 1) := by decide +kernel
theorem dX3_writeNodes_107 : decode cX3_writeNodes 107 = .ok (.ireturn, 1) := by decide +kernel
theorem dX3_writeNodes_108 : decode cX3_writeNodes 108 = .ok (.iinc 4 1, 3) := by decide +kernel
theorem dX3_writeNodes_111 : decode cX3_writeNodes 111 = .ok (.goto (-99), 3) := by decide +kernel
theorem dX3_writeNodes_114 : decode cX3_writeNodes 114 = .ok (.iconst 1, 1) := by decide +kernel
theorem dX3_writeNodes_115 : decode cX3_writeNodes 115 = .ok (.ireturn, 1) := by decide +kernel
theorem dX3_beginPage_0 : decode cX3_beginPage 0 = .ok (.aload_n 0, 1) := by decide +kernel
theorem dX3_beginPage_1 : decode cX3_beginPage 1 = .ok (.getfield 18, 3) := by decide +kernel
theorem dX3_beginPage_4 : decode cX3_beginPage 4 = .ok (.invokevirtual 87, 3) := by decide +kernel
theorem dX3_beginPage_7 : decode cX3_beginPage 7 = .ok (.aload_n 0, 1) := by decide +kernel
theorem dX3_beginPage_8 : decode cX3_beginPage 8 = .ok (.getfield 18, 3) := by decide +kernel
theorem dX3_beginPage_11 : decode cX3_beginPage 11 = .ok (.iconst 0, 1) := by decide +kernel
theorem dX3_beginPage_12 : decode cX3_beginPage 12 = .ok (.iload_n 1, 1) := by decide +kernel
theorem dX3_beginPage_13 : decode cX3_beginPage 13 = .ok (.invokevirtual 90, 3) := by decide +kernel
theorem dX3_beginPage_16 : decode cX3_beginPage 16 = .ok (.aload_n 0, 1) := by decide +kernel
theorem dX3_beginPage_17 : decode cX3_beginPage 17 = .ok (.getfield 18, 3) := by decide +kernel
theorem dX3_beginPage_20 : decode cX3_beginPage 20 = .ok (.iconst 1, 1) := by decide +kernel
theorem dX3_beginPage_21 : decode cX3_beginPage 21 = .ok (.iload_n 2, 1) := by decide +kernel
theorem dX3_beginPage_22 : decode cX3_beginPage 22 = .ok (.invokevirtual 90, 3) := by decide +kernel
theorem dX3_beginPage_25 : decode cX3_beginPage 25 = .ok (.return_, 1) := by decide +kernel
theorem dX3_setPair_0 : decode cX3_setPair 0 = .ok (.aload_n 0, 1) := by decide +kernel
theorem dX3_setPair_1 : decode cX3_setPair 1 = .ok (.getfield 18, 3) := by decide +kernel
theorem dX3_setPair_4 : decode cX3_setPair 4 = .ok (.iconst 2, 1) := by decide +kernel
theorem dX3_setPair_5 : decode cX3_setPair 5 = .ok (.iconst 2, 1) := by decide +kernel
theorem dX3_setPair_6 : decode cX3_setPair 6 = .ok (.iload_n 1, 1) := by decide +kernel
theorem dX3_setPair_7 : decode cX3_setPair 7 = .ok (.imul, 1) := by decide +kernel
theorem dX3_setPair_8 : decode cX3_setPair 8 = .ok (.iadd, 1) := by decide +kernel
theorem dX3_setPair_9 : decode cX3_setPair 9 = .ok (.iload_n 2, 1) := by decide +kernel
theorem dX3_setPair_10 : decode cX3_setPair 10 = .ok (.invokevirtual 90, 3) := by decide +kernel
theorem dX3_setPair_13 : decode cX3_setPair 13 = .ok (.aload_n 0, 1) := by decide +kernel
theorem dX3_setPair_14 : decode cX3_setPair 14 = .ok (.getfield 18, 3) := by decide +kernel
theorem dX3_setPair_17 : decode cX3_setPair 17 = .ok (.iconst 2, 1) := by decide +kernel
theorem dX3_setPair_18 : decode cX3_setPair 18 = .ok (.iconst 2, 1) := by decide +kernel
theorem dX3_setPair_19 : decode cX3_setPair 19 = .ok (.iload_n 1, 1) := by decide +kernel
theorem dX3_setPair_20 : decode cX3_setPair 20 = .ok (.imul, 1) := by decide +kernel
theorem dX3_setPair_21 : decode cX3_setPair 21 = .ok (.iadd, 1) := by decide +kernel
theorem dX3_setPair_22 : decode cX3_setPair 22 = .ok (.iconst 1, 1) := by decide +kernel
theorem dX3_setPair_23 : decode cX3_setPair 23 = .ok (.iadd, 1) := by decide +kernel
theorem dX3_setPair_24 : decode cX3_setPair 24 = .ok (.iload_n 3, 1) := by decide +kernel
theorem dX3_setPair_25 : decode cX3_setPair 25 = .ok (.invokevirtual 90, 3) := by decide +kernel
theorem dX3_setPair_28 : decode cX3_setPair 28 = .ok (.return_, 1) := by decide +kernel
theorem dJ7_fill_53178_0 : decode cJ7_fill_53178 0 = .ok (.iconst 0, 1) := by decide +kernel
theorem dJ7_fill_53178_1 : decode cJ7_fill_53178 1 = .ok (.istore_n 2, 1) := by decide +kernel
theorem dJ7_fill_53178_2 : decode cJ7_fill_53178 2 = .ok (.aload_n 0, 1) := by decide +kernel
theorem dJ7_fill_53178_3 : decode cJ7_fill_53178 3 = .ok (.arraylength, 1) := by decide +kernel
theorem dJ7_fill_53178_4 : decode cJ7_fill_53178 4 = .ok (.istore_n 3, 1) := by decide +kernel
theorem dJ7_fill_53178_5 : decode cJ7_fill_53178 5 = .ok (.iload_n 2, 1) := by decide +kernel
theorem dJ7_fill_53178_6 : decode cJ7_fill_53178 6 = .ok (.iload_n 3, 1) := by decide +kernel
theorem dJ7_fill_53178_7 : decode cJ7_fill_53178 7 = .ok (.if_icmp .ge 13, 3) := by decide +kernel
theorem dJ7_fill_53178_10 : decode cJ7_fill_53178 10 = .ok (.aload_n 0, 1) := by decide +kernel
theorem dJ7_fill_53178_11 : decode cJ7_fill_53178 11 = .ok (.iload_n 2, 1) := by decide +kernel
theorem dJ7_fill_53178_12 : decode cJ7_fill_53178 12 = .ok (.iload_n 1, 1) := by decide +kernel
theorem dJ7_fill_53178_13 : decode cJ7_fill_53178 13 = .ok (.iastore, 1) := by decide +kernel
theorem dJ7_fill_53178_14 : decode cJ7_fill_53178 14 = .ok (.iinc 2 1, 3) := by decide +kernel
theorem dJ7_fill_53178_17 : decode cJ7_fill_53178 17 = .ok (.goto (-12), 3) := by decide +kernel
theorem dJ7_fill_53178_20 : decode cJ7_fill_53178 20 = .ok (.return_, 1) := by decide +kernel
