theorem dX5_init_0 : decode cX5_init 0 = .ok (.aload_n 0, 1) := by decide +kernel
theorem dX5_init_1 : decode cX5_init 1 = .ok (.invokespecial 1, 3) := by decide +kernel
theorem dX5_init_4 : decode cX5_init 4 = .ok (.aload_n 0, 1) := by decide +kernel
theorem dX5_init_5 : decode cX5_init 5 = .ok (.ldc 7, 2) := by decide +kernel
theorem dX5_init_7 : decode cX5_init 7 = .ok (.newarray .int, 2) := by decide +kernel
theorem dX5_init_9 : decode cX5_init 9 = .ok (.putfield 8, 3) := by decide +kernel
theorem dX5_init_12 : decode cX5_init 12 = .ok (.aload_n 0, 1) := by decide +kernel
theorem dX5_init_13 : decode cX5_init 13 = .ok (.sipush 12000, 3) := by decide +kernel
theorem dX5_init_16 : decode cX5_init 16 = .ok (.newarray .int, 2) := by decide +kernel
theorem dX5_init_18 : decode cX5_init 18 = .ok (.putfield 14, 3) := by decide +kernel
theorem dX5_init_21 : decode cX5_init 21 = .ok (.aload_n 0, 1) := by decide +kernel
theorem dX5_init_22 : decode cX5_init 22 = .ok (.sipush 12000, 3) := by decide +kernel
theorem dX5_init_25 : decode cX5_init 25 = .ok (.newarray .int, 2) := by decide +kernel
theorem dX5_init_27 : decode cX5_init 27 = .ok (.putfield 17, 3) := by decide +kernel
theorem dX5_init_30 : decode cX5_init 30 = .ok (.aload_n 0, 1) := by decide +kernel
theorem dX5_init_31 : decode cX5_init 31 = .ok (.sipush 600, 3) := by decide +kernel
theorem dX5_init_34 : decode cX5_init 34 = .ok (.newarray .int, 2) := by decide +kernel
theorem dX5_init_36 : decode cX5_init 36 = .ok (.putfield 20, 3) := by decide +kernel
theorem dX5_init_39 : decode cX5_init 39 = .ok (.aload_n 0, 1) := by decide +kernel
theorem dX5_init_40 : decode cX5_init 40 = .ok (.sipush 600, 3) := by decide +kernel
theorem dX5_init_43 : decode cX5_init 43 = .ok (.newarray .int, 2) := by decide +kernel
theorem dX5_init_45 : decode cX5_init 45 = .ok (.putfield 23, 3) := by decide +kernel
theorem dX5_init_48 : decode cX5_init 48 = .ok (.aload_n 0, 1) := by decide +kernel
theorem dX5_init_49 : decode cX5_init 49 = .ok (.sipush 600, 3) := by decide +kernel
theorem dX5_init_52 : decode cX5_init 52 = .ok (.newarray .boolean, 2) := by decide +kernel
theorem dX5_init_54 : decode cX5_init 54 = .ok (.putfield 26, 3) := by decide +kernel
theorem dX5_init_57 : decode cX5_init 57 = .ok (.aload_n 0, 1) := by decide +kernel
theorem dX5_init_58 : decode cX5_init 58 = .ok (.bipush 64, 2) := by decide +kernel
theorem dX5_init_60 : decode cX5_init 60 = .ok (.newarray .int, 2) := by decide +kernel
theorem dX5_init_62 : decode cX5_init 62 = .ok (.putfield 30, 3) := by decide +kernel
theorem dX5_init_65 : decode cX5_init 65 = .ok (.aload_n 0, 1) := by decide +kernel
theorem dX5_init_66 : decode cX5_init 66 = .ok (.sipush 512, 3) := by decide +kernel
theorem dX5_init_69 : decode cX5_init 69 = .ok (.newarray .int, 2) := by decide +kernel
theorem dX5_init_71 : decode cX5_init 71 = .ok (.putfield 33, 3) := by decide +kernel
theorem dX5_init_74 : decode cX5_init 74 = .ok (.aload_n 0, 1) := by decide +kernel
theorem dX5_init_75 : decode cX5_init 75 = .ok (.sipush 512, 3) := by decide +kernel
theorem dX5_init_78 : decode cX5_init 78 = .ok (.newarray .int, 2) := by decide +kernel
theorem dX5_init_80 : decode cX5_init 80 = .ok (.putfield 36, 3) := by decide +kernel
theorem dX5_init_83 : decode cX5_init 83 = .ok (.aload_n 0, 1) := by decide +kernel
theorem dX5_init_84 : decode cX5_init 84 = .ok (.sipush 1801, 3) := by decide +kernel
theorem dX5_init_87 : decode cX5_init 87 = .ok (.newarray .int, 2) := by decide +kernel
theorem dX5_init_89 : decode cX5_init 89 = .ok (.putfield 39, 3) := by decide +kernel
theorem dX5_init_92 : decode cX5_init 92 = .ok (.return_, 1) := by decide +kernel
theorem dX5_sumOf_0 : decode cX5_sumOf 0 = .ok (.bipush 7, 2) := by decide +kernel
theorem dX5_sumOf_2 : decode cX5_sumOf 2 = .ok (.istore_n 3, 1) := by decide +kernel
theorem dX5_sumOf_3 : decode cX5_sumOf 3 = .ok (.iconst 0, 1) := by decide +kernel
theorem dX5_sumOf_4 : decode cX5_sumOf 4 = .ok (.istore 4, 2) := by decide +kernel
theorem dX5_sumOf_6 : decode cX5_sumOf 6 = .ok (.iload 4, 2) := by decide +kernel
theorem dX5_sumOf_8 : decode cX5_sumOf 8 = .ok (.iload_n 2, 1) := by decide +kernel
theorem dX5_sumOf_9 : decode cX5_sumOf 9 = .ok (.if_icmp .ge 21, 3) := by decide +kernel
theorem dX5_sumOf_12 : decode cX5_sumOf 12 = .ok (.bipush 31, 2) := by decide +kernel
theorem dX5_sumOf_14 : decode cX5_sumOf 14 = .ok (.iload_n 3, 1) := by decide +kernel
theorem dX5_sumOf_15 : decode cX5_sumOf 15 = .ok (.imul, 1) := by decide +kernel
theorem dX5_sumOf_16 : decode cX5_sumOf 16 = .ok (.aload_n 0, 1) := by decide +kernel
theorem dX5_sumOf_17 : decode cX5_sumOf 17 = .ok (.iload_n 1, 1) := by decide +kernel
theorem dX5_sumOf_18 : decode cX5_sumOf 18 = .ok (.iload 4, 2) := by decide +kernel
theorem dX5_sumOf_20 : decode cX5_sumOf 20 = .ok (.iadd, 1) := by decide +kernel
theorem dX5_sumOf_21 : decode cX5_sumOf 21 = .ok (.iaload, 1) := by decide +kernel
theorem dX5_sumOf_22 : decode cX5_sumOf 22 = .ok (.iadd, 1) := by decide +kernel
theorem dX5_sumOf_23 : decode cX5_sumOf 23 = .ok (.istore_n 3, 1) := by decide +kernel
theorem dX5_sumOf_24 : decode cX5_sumOf 24 = .ok (.iinc 4 1, 3) := by decide +kernel
theorem dX5_sumOf_27 : decode cX5_sumOf 27 = .ok (.goto (-21), 3) := by decide +kernel
theorem dX5_sumOf_30 : decode cX5_sumOf 30 = .ok (.iload_n 3, 1) := by decide +kernel
theorem dX5_sumOf_31 : decode cX5_sumOf 31 = .ok (.ireturn, 1) := by decide +kernel
theorem dX5_isGood_0 : decode cX5_isGood 0 = .ok (.aload_n 0, 1) := by decide +kernel
theorem dX5_isGood_1 : decode cX5_isGood 1 = .ok (.getfield 8, 3) := by decide +kernel
theorem dX5_isGood_4 : decode cX5_isGood 4 = .ok (.aload_n 0, 1) := by decide +kernel
theorem dX5_isGood_5 : decode cX5_isGood 5 = .ok (.getfield 42, 3) := by decide +kernel
theorem dX5_isGood_8 : decode cX5_isGood 8 = .ok (.iload_n 1, 1) := by decide +kernel
theorem dX5_isGood_9 : decode cX5_isGood 9 = .ok (.imul, 1) := by decide +kernel
theorem dX5_isGood_10 : decode cX5_isGood 10 = .ok (.aload_n 0, 1) := by decide +kernel
theorem dX5_isGood_11 : decode cX5_isGood 11 = .ok (.getfield 42, 3) := by decide +kernel
theorem dX5_isGood_14 : decode cX5_isGood 14 = .ok (.iadd, 1) := by decide +kernel
theorem dX5_isGood_15 : decode cX5_isGood 15 = .ok (.iconst 1, 1) := by decide +kernel
theorem dX5_isGood_16 : decode cX5_isGood 16 = .ok (.isub, 1) := by decide +kernel
theorem dX5_isGood_17 : decode cX5_isGood 17 = .ok (.iaload, 1) := by decide +kernel
theorem dX5_isGood_18 : decode cX5_isGood 18 = .ok (.aload_n 0, 1) := by decide +kernel
theorem dX5_isGood_19 : decode cX5_isGood 19 = .ok (.getfield 8, 3) := by decide +kernel
theorem dX5_isGood_22 : decode cX5_isGood 22 = .ok (.aload_n 0, 1) := by decide +kernel
theorem dX5_isGood_23 : decode cX5_isGood 23 = .ok (.getfield 42, 3) := by decide +kernel
theorem dX5_isGood_26 : decode cX5_isGood 26 = .ok (.iload_n 1, 1) := by decide +kernel
theorem dX5_isGood_27 : decode cX5_isGood 27 = .ok (.imul, 1) := by decide +kernel
theorem dX5_isGood_28 : decode cX5_isGood 28 = .ok (.aload_n 0, 1) := by decide +kernel
theorem dX5_isGood_29 : decode cX5_isGood 29 = .ok (.getfield 42, 3) := by decide +kernel
theorem dX5_isGood_32 : decode cX5_isGood 32 = .ok (.iconst 1, 1) := by decide +kernel
theorem dX5_isGood_33 : decode cX5_isGood 33 = .ok (.isub, 1) := by decide +kernel
theorem dX5_isGood_34 : decode cX5_isGood 34 = .ok (.invokestatic 46, 3) := by decide +kernel
theorem dX5_isGood_37 : decode cX5_isGood 37 = .ok (.if_icmp .ne 7, 3) := by decide +kernel
theorem dX5_isGood_40 : decode cX5_isGood 40 = .ok (.iconst 1, 1) := by decide +kernel
theorem dX5_isGood_41 : decode cX5_isGood 41 = .ok (.goto 4, 3) := by decide +kernel
theorem dX5_isGood_44 : decode cX5_isGood 44 = .ok (.iconst 0, 1) := by decide +kernel
theorem dX5_isGood_45 : decode cX5_isGood 45 = .ok (.ireturn, 1) := by decide +kernel
theorem dX5_blank_0 : decode cX5_blank 0 = .ok (.iconst 0, 1) := by decide +kernel
theorem dX5_blank_1 : decode cX5_blank 1 = .ok (.istore_n 1, 1) := by decide +kernel
theorem dX5_blank_2 : decode cX5_blank 2 = .ok (.iload_n 1, 1) := by decide +kernel
theorem dX5_blank_3 : decode cX5_blank 3 = .ok (.bipush 64, 2) := by decide +kernel
theorem dX5_blank_5 : decode cX5_blank 5 = .ok (.if_icmp .ge 16, 3) := by decide +kernel
theorem dX5_blank_8 : decode cX5_blank 8 = .ok (.aload_n 0, 1) := by decide +kernel
theorem dX5_blank_9 : decode cX5_blank 9 = .ok (.getfield 30, 3) := by decide +kernel
theorem dX5_blank_12 : decode cX5_blank 12 = .ok (.iload_n 1, 1) := by decide +kernel
theorem dX5_blank_13 : decode cX5_blank 13 = .ok (.iconst 0, 1) := by decide +kernel
theorem dX5_blank_14 : decode cX5_blank 14 = .ok (.iastore, 1) := by decide +kernel
theorem dX5_blank_15 : decode cX5_blank 15 = .ok (.iinc 1 1, 3) := by decide +kernel
theorem dX5_blank_18 : decode cX5_blank 18 = .ok (.goto (-16), 3) := by decide +kernel
theorem dX5_blank_21 : decode cX5_blank 21 = .ok (.return_, 1) := by decide +kernel
theorem dX5_write_0 : decode cX5_write 0 = .ok (.aload_n 0, 1) := by decide +kernel
theorem dX5_write_1 : decode cX5_write 1 = .ok (.getfield 50, 3) := by decide +kernel
theorem dX5_write_4 : decode cX5_write 4 = .ok (.ifCond .le 32, 3) := by decide +kernel
theorem dX5_write_7 : decode cX5_write 7 = .ok (.aload_n 0, 1) := by decide +kernel
theorem dX5_write_8 : decode cX5_write 8 = .ok (.dup, 1) := by decide +kernel
theorem dX5_write_9 : decode cX5_write 9 = .ok (.getfield 50, 3) := by decide +kernel
theorem dX5_write_12 : decode cX5_write 12 = .ok (.iconst 1, 1) := by decide +kernel
theorem dX5_write_13 : decode cX5_write 13 = .ok (.isub, 1) := by decide +kernel
theorem dX5_write_14 : decode cX5_write 14 = .ok (.putfield 50, 3) := by decide +kernel
theorem dX5_write_17 : decode cX5_write 17 = .ok (.aload_n 0, 1) := by decide +kernel
theorem dX5_write_18 : decode cX5_write 18 = .ok (.getfield 50, 3) := by decide +kernel
theorem dX5_write_21 : decode cX5_write 21 = .ok (.ifCond .ne 15, 3) := by decide +kernel
theorem dX5_write_24 : decode cX5_write 24 = .ok (.aload_n 0, 1) := by decide +kernel
theorem dX5_write_25 : decode cX5_write 25 = .ok (.iconst 3, 1) := by decide +kernel
theorem dX5_write_26 : decode cX5_write 26 = .ok (.putfield 53, 3) := by decide +kernel
theorem dX5_write_29 : decode cX5_write 29 = .ok (.aload_n 0, 1) := by decide +kernel
theorem dX5_write_30 : decode cX5_write 30 = .ok (.iconst 0, 1) := by decide +kernel
theorem dX5_write_31 : decode cX5_write 31 = .ok (.putfield 56, 3) := by decide +kernel
theorem dX5_write_34 : decode cX5_write 34 = .ok (.iconst 0, 1) := by decide +kernel
theorem dX5_write_35 : decode cX5_write 35 = .ok (.ireturn, 1) := by decide +kernel
theorem dX5_write_36 : decode cX5_write 36 = .ok (.aload_n 0, 1) := by decide +kernel
theorem dX5_write_37 : decode cX5_write 37 = .ok (.getfield 30, 3) := by decide +kernel
theorem dX5_write_40 : decode cX5_write 40 = .ok (.aload_n 0, 1) := by decide +kernel
theorem dX5_write_41 : decode cX5_write 41 = .ok (.getfield 42, 3) := by decide +kernel
theorem dX5_write_44 : decode cX5_write 44 = .ok (.iconst 1, 1) := by decide +kernel
theorem dX5_write_45 : decode cX5_write 45 = .ok (.isub, 1) := by decide +kernel
theorem dX5_write_46 : decode cX5_write 46 = .ok (.aload_n 0, 1) := by decide +kernel
theorem dX5_write_47 : decode cX5_write 47 = .ok (.getfield 30, 3) := by decide +kernel
theorem dX5_write_50 : decode cX5_write 50 = .ok (.iconst 0, 1) := by decide +kernel
theorem dX5_write_51 : decode cX5_write 51 = .ok (.aload_n 0, 1) := by decide +kernel
theorem dX5_write_52 : decode cX5_write 52 = .ok (.getfield 42, 3) := by decide +kernel
theorem dX5_write_55 : decode cX5_write 55 = .ok (.iconst 1, 1) := by decide +kernel
theorem dX5_write_56 : decode cX5_write 56 = .ok (.isub, 1) := by decide +kernel
theorem dX5_write_57 : decode cX5_write 57 = .ok (.invokestatic 46, 3) := by decide +kernel
theorem dX5_write_60 : decode cX5_write 60 = .ok (.iastore, 1) := by decide +kernel
theorem dX5_write_61 : decode cX5_write 61 = .ok (.iconst 0, 1) := by decide +kernel
theorem dX5_write_62 : decode cX5_write 62 = .ok (.istore_n 2, 1) := by decide +kernel
theorem dX5_write_63 : decode cX5_write 63 = .ok (.iload_n 2, 1) := by decide +kernel
theorem dX5_write_64 : decode cX5_write 64 = .ok (.aload_n 0, 1) := by decide +kernel
theorem dX5_write_65 : decode cX5_write 65 = .ok (.getfield 42, 3) := by decide +kernel
theorem dX5_write_68 : decode cX5_write 68 = .ok (.if_icmp .ge 28, 3) := by decide +kernel
theorem dX5_write_71 : decode cX5_write 71 = .ok (.aload_n 0, 1) := by decide +kernel
theorem dX5_write_72 : decode cX5_write 72 = .ok (.getfield 8, 3) := by decide +kernel
theorem dX5_write_75 : decode cX5_write 75 = .ok (.aload_n 0, 1) := by decide +kernel
theorem dX5_write_76 : decode cX5_write 76 = .ok (.getfield 42, 3) := by decide +kernel
theorem dX5_write_79 : decode cX5_write 79 = .ok (.iload_n 1, 1) := by decide +kernel
theorem dX5_write_80 : decode cX5_write 80 = .ok (.imul, 1) := by decide +kernel
theorem dX5_write_81 : decode cX5_write 81 = .ok (.iload_n 2, 1) := by decide +kernel
theorem dX5_write_82 : decode cX5_write 82 = .ok (.iadd, 1) := by decide +kernel
theorem dX5_write_83 : decode cX5_write 83 = .ok (.aload_n 0, 1) := by decide +kernel
theorem dX5_write_84 : decode cX5_write 84 = .ok (.getfield 30, 3) := by decide +kernel
theorem dX5_write_87 : decode cX5_write 87 = .ok (.iload_n 2, 1) := by decide +kernel
theorem dX5_write_88 : decode cX5_write 88 = .ok (.iaload, 1) := by decide +kernel
theorem dX5_write_89 : decode cX5_write 89 = .ok (.iastore, 1) := by decide +kernel
theorem dX5_write_90 : decode cX5_write 90 = .ok (.iinc 2 1, 3) := by decide +kernel
theorem dX5_write_93 : decode cX5_write 93 = .ok (.goto (-30), 3) := by decide +kernel
theorem dX5_write_96 : decode cX5_write 96 = .ok (.aload_n 0, 1) := by decide +kernel
theorem dX5_write_97 : decode cX5_write 97 = .ok (.dup, 1) := by decide +kernel
theorem dX5_write_98 : decode cX5_write 98 = .ok (.getfield 60, 3) := by decide +kernel
theorem dX5_write_101 : decode cX5_write 101 = .ok (.iconst 1, 1) := by decide +kernel
theorem dX5_write_102 : decode cX5_write 102 = .ok (.iadd, 1) := by decide +kernel
theorem dX5_write_103 : decode cX5_write 103 = .ok (.putfield 60, 3) := by decide +kernel
theorem dX5_write_106 : decode cX5_write 106 = .ok (.iconst 1, 1) := by decide +kernel
theorem dX5_write_107 : decode cX5_write 107 = .ok (.ireturn, 1) := by decide +kernel
theorem dX5_writeHead_0 : decode cX5_writeHead 0 = .ok (.aload_n 0, 1) := by decide +kernel
theorem dX5_writeHead_1 : decode cX5_writeHead 1 = .ok (.invokevirtual 63, 3) := by decide +kernel
theorem dX5_writeHead_4 : decode cX5_writeHead 4 = .ok (.aload_n 0, 1) := by decide +kernel
theorem dX5_writeHead_5 : decode cX5_writeHead 5 = .ok (.getfield 30, 3) := by decide +kernel
theorem dX5_writeHead_8 : decode cX5_writeHead 8 = .ok (.iconst 0, 1) := by decide +kernel
theorem dX5_writeHead_9 : decode cX5_writeHead 9 = .ok (.ldc 66, 2) := by decide +kernel
theorem dX5_writeHead_11 : decode cX5_writeHead 11 = .ok (.iastore, 1) := by decide +kernel
theorem dX5_writeHead_12 : decode cX5_writeHead 12 = .ok (.aload_n 0, 1) := by decide +kernel
theorem dX5_writeHead_13 : decode cX5_writeHead 13 = .ok (.getfield 30, 3) := by decide +kernel
theorem dX5_writeHead_16 : decode cX5_writeHead 16 = .ok (.iconst 1, 1) := by decide +kernel
theorem dX5_writeHead_17 : decode cX5_writeHead 17 = .ok (.iload_n 1, 1) := by decide +kernel
theorem dX5_writeHead_18 : decode cX5_writeHead 18 = .ok (.iastore, 1) := by decide +kernel
theorem dX5_writeHead_19 : decode cX5_writeHead 19 = .ok (.aload_n 0, 1) := by decide +kernel
theorem dX5_writeHead_20 : decode cX5_writeHead 20 = .ok (.getfield 30, 3) := by decide +kernel
theorem dX5_writeHead_23 : decode cX5_writeHead 23 = .ok (.iconst 2, 1) := by decide +kernel
theorem dX5_writeHead_24 : decode cX5_writeHead 24 = .ok (.iload_n 2, 1) := by decide +kernel
theorem dX5_writeHead_25 : decode cX5_writeHead 25 = .ok (.iastore, 1) := by decide +kernel
theorem dX5_writeHead_26 : decode cX5_writeHead 26 = .ok (.aload_n 0, 1) := by decide +kernel
theorem dX5_writeHead_27 : decode cX5_writeHead 27 = .ok (.getfield 30, 3) := by decide +kernel
theorem dX5_writeHead_30 : decode cX5_writeHead 30 = .ok (.iconst 3, 1) := by decide +kernel
theorem dX5_writeHead_31 : decode cX5_writeHead 31 = .ok (.iload_n 3, 1) := by decide +kernel
theorem dX5_writeHead_32 : decode cX5_writeHead 32 = .ok (.iastore, 1) := by decide +kernel
theorem dX5_writeHead_33 : decode cX5_writeHead 33 = .ok (.aload_n 0, 1) := by decide +kernel
theorem dX5_writeHead_34 : decode cX5_writeHead 34 = .ok (.getfield 30, 3) := by decide +kernel
theorem dX5_writeHead_37 : decode cX5_writeHead 37 = .ok (.iconst 4, 1) := by decide +kernel
theorem dX5_writeHead_38 : decode cX5_writeHead 38 = .ok (.iload 4, 2) := by decide +kernel
theorem dX5_writeHead_40 : decode cX5_writeHead 40 = .ok (.iastore, 1) := by decide +kernel
theorem dX5_writeHead_41 : decode cX5_writeHead 41 = .ok (.aload_n 0, 1) := by decide +kernel
theorem dX5_writeHead_42 : decode cX5_writeHead 42 = .ok (.getfield 30, 3) := by decide +kernel
theorem dX5_writeHead_45 : decode cX5_writeHead 45 = .ok (.iconst 5, 1) := by decide +kernel
theorem dX5_writeHead_46 : decode cX5_writeHead 46 = .ok (.iload 5, 2) := by decide +kernel
theorem dX5_writeHead_48 : decode cX5_writeHead 48 = .ok (.iastore, 1) := by decide +kernel
theorem dX5_writeHead_49 : decode cX5_writeHead 49 = .ok (.aload_n 0, 1) := by decide +kernel
theorem dX5_writeHead_50 : decode cX5_writeHead 50 = .ok (.iconst 0, 1) := by decide +kernel
theorem dX5_writeHead_51 : decode cX5_writeHead 51 = .ok (.invokevirtual 67, 3) := by decide +kernel
theorem dX5_writeHead_54 : decode cX5_writeHead 54 = .ok (.ireturn, 1) := by decide +kernel
theorem dX5_area_0 : decode cX5_area 0 = .ok (.aload_n 0, 1) := by decide +kernel
theorem dX5_area_1 : decode cX5_area 1 = .ok (.getfield 71, 3) := by decide +kernel
theorem dX5_area_4 : decode cX5_area 4 = .ok (.iconst 1, 1) := by decide +kernel
theorem dX5_area_5 : decode cX5_area 5 = .ok (.isub, 1) := by decide +kernel
theorem dX5_area_6 : decode cX5_area 6 = .ok (.aload_n 0, 1) := by decide +kernel
theorem dX5_area_7 : decode cX5_area 7 = .ok (.getfield 74, 3) := by decide +kernel
theorem dX5_area_10 : decode cX5_area 10 = .ok (.isub, 1) := by decide +kernel
theorem dX5_area_11 : decode cX5_area 11 = .ok (.iconst 2, 1) := by decide +kernel
theorem dX5_area_12 : decode cX5_area 12 = .ok (.idiv, 1) := by decide +kernel
theorem dX5_area_13 : decode cX5_area 13 = .ok (.ireturn, 1) := by decide +kernel
theorem dX5_fan_0 : decode cX5_fan 0 = .ok (.aload_n 0, 1) := by decide +kernel
theorem dX5_fan_1 : decode cX5_fan 1 = .ok (.getfield 42, 3) := by decide +kernel
theorem dX5_fan_4 : decode cX5_fan 4 = .ok (.iconst 3, 1) := by decide +kernel
theorem dX5_fan_5 : decode cX5_fan 5 = .ok (.isub, 1) := by decide +kernel
theorem dX5_fan_6 : decode cX5_fan 6 = .ok (.iconst 2, 1) := by decide +kernel
theorem dX5_fan_7 : decode cX5_fan 7 = .ok (.idiv, 1) := by decide +kernel
theorem dX5_fan_8 : decode cX5_fan 8 = .ok (.ireturn, 1) := by decide +kernel
theorem dX5_part_0 : decode cX5_part 0 = .ok (.aload_n 0, 1) := by decide +kernel
theorem dX5_part_1 : decode cX5_part 1 = .ok (.getfield 42, 3) := by decide +kernel
theorem dX5_part_4 : decode cX5_part 4 = .ok (.iconst 5, 1) := by decide +kernel
theorem dX5_part_5 : decode cX5_part 5 = .ok (.isub, 1) := by decide +kernel
theorem dX5_part_6 : decode cX5_part 6 = .ok (.ireturn, 1) := by decide +kernel
theorem dX5_not_0 : decode cX5_not 0 = .ok (.aload_n 0, 1) := by decide +kernel
theorem dX5_not_1 : decode cX5_not 1 = .ok (.getfield 53, 3) := by decide +kernel
theorem dX5_not_4 : decode cX5_not 4 = .ok (.ifCond .ne 8, 3) := by decide +kernel
theorem dX5_not_7 : decode cX5_not 7 = .ok (.bipush (-7), 2) := by decide +kernel
theorem dX5_not_9 : decode cX5_not 9 = .ok (.goto 29, 3) := by decide +kernel
theorem dX5_not_12 : decode cX5_not 12 = .ok (.aload_n 0, 1) := by decide +kernel
theorem dX5_not_13 : decode cX5_not 13 = .ok (.getfield 53, 3) := by decide +kernel
theorem dX5_not_16 : decode cX5_not 16 = .ok (.iconst 1, 1) := by decide +kernel
theorem dX5_not_17 : decode cX5_not 17 = .ok (.if_icmp .ne 8, 3) := by decide +kernel
theorem dX5_not_20 : decode cX5_not 20 = .ok (.bipush (-2), 2) := by decide +kernel
theorem dX5_not_22 : decode cX5_not 22 = .ok (.goto 16, 3) := by decide +kernel
theorem dX5_not_25 : decode cX5_not 25 = .ok (.aload_n 0, 1) := by decide +kernel
theorem dX5_not_26 : decode cX5_not 26 = .ok (.getfield 53, 3) := by decide +kernel
theorem dX5_not_29 : decode cX5_not 29 = .ok (.iconst 3, 1) := by decide +kernel
theorem dX5_not_30 : decode cX5_not 30 = .ok (.if_icmp .ne 7, 3) := by decide +kernel
theorem dX5_not_33 : decode cX5_not 33 = .ok (.iconst (-1), 1) := by decide +kernel
theorem dX5_not_34 : decode cX5_not 34 = .ok (.goto 4, 3) := by decide +kernel
theorem dX5_not_37 : decode cX5_not 37 = .ok (.iconst 0, 1) := by decide +kernel
theorem dX5_not_38 : decode cX5_not 38 = .ok (.ireturn, 1) := by decide +kernel
theorem dX5_disk_0 : decode cX5_disk 0 = .ok (.iload_n 1, 1) := by decide +kernel
theorem dX5_disk_1 : decode cX5_disk 1 = .ok (.bipush 16, 2) := by decide +kernel
theorem dX5_disk_3 : decode cX5_disk 3 = .ok (.if_icmp .lt 43, 3) := by decide +kernel
theorem dX5_disk_6 : decode cX5_disk 6 = .ok (.iload_n 1, 1) := by decide +kernel
theorem dX5_disk_7 : decode cX5_disk 7 = .ok (.sipush 512, 3) := by decide +kernel
theorem dX5_disk_10 : decode cX5_disk 10 = .ok (.if_icmp .gt 36, 3) := by decide +kernel
theorem dX5_disk_13 : decode cX5_disk 13 = .ok (.iload_n 2, 1) := by decide +kernel
theorem dX5_disk_14 : decode cX5_disk 14 = .ok (.bipush 16, 2) := by decide +kernel
theorem dX5_disk_16 : decode cX5_disk 16 = .ok (.if_icmp .lt 30, 3) := by decide +kernel
theorem dX5_disk_19 : decode cX5_disk 19 = .ok (.iload_n 2, 1) := by decide +kernel
theorem dX5_disk_20 : decode cX5_disk 20 = .ok (.bipush 64, 2) := by decide +kernel
theorem dX5_disk_22 : decode cX5_disk 22 = .ok (.if_icmp .gt 24, 3) := by decide +kernel
theorem dX5_disk_25 : decode cX5_disk 25 = .ok (.iload_n 3, 1) := by decide +kernel
theorem dX5_disk_26 : decode cX5_disk 26 = .ok (.iconst 4, 1) := by decide +kernel
theorem dX5_disk_27 : decode cX5_disk 27 = .ok (.if_icmp .lt 19, 3) := by decide +kernel
theorem dX5_disk_30 : decode cX5_disk 30 = .ok (.iload_n 3, 1) := by decide +kernel
theorem dX5_disk_31 : decode cX5_disk 31 = .ok (.sipush 128, 3) := by decide +kernel
theorem dX5_disk_34 : decode cX5_disk 34 = .ok (.if_icmp .gt 12, 3) := by decide +kernel
theorem dX5_disk_37 : decode cX5_disk 37 = .ok (.iload_n 1, 1) := by decide +kernel
theorem dX5_disk_38 : decode cX5_disk 38 = .ok (.iconst 1, 1) := by decide +kernel
theorem dX5_disk_39 : decode cX5_disk 39 = .ok (.isub, 1) := by decide +kernel
theorem dX5_disk_40 : decode cX5_disk 40 = .ok (.iload_n 3, 1) := by decide +kernel
theorem dX5_disk_41 : decode cX5_disk 41 = .ok (.isub, 1) := by decide +kernel
theorem dX5_disk_42 : decode cX5_disk 42 = .ok (.iconst 4, 1) := by decide +kernel
theorem dX5_disk_43 : decode cX5_disk 43 = .ok (.if_icmp .ge 5, 3) := by decide +kernel
theorem dX5_disk_46 : decode cX5_disk 46 = .ok (.iconst 0, 1) := by decide +kernel
theorem dX5_disk_47 : decode cX5_disk 47 = .ok (.ireturn, 1) := by decide +kernel
theorem dX5_disk_48 : decode cX5_disk 48 = .ok (.aload_n 0, 1) := by decide +kernel
theorem dX5_disk_49 : decode cX5_disk 49 = .ok (.iload_n 1, 1) := by decide +kernel
theorem dX5_disk_50 : decode cX5_disk 50 = .ok (.putfield 71, 3) := by decide +kernel
theorem dX5_disk_53 : decode cX5_disk 53 = .ok (.aload_n 0, 1) := by decide +kernel
theorem dX5_disk_54 : decode cX5_disk 54 = .ok (.iload_n 2, 1) := by decide +kernel
theorem dX5_disk_55 : decode cX5_disk 55 = .ok (.putfield 42, 3) := by decide +kernel
theorem dX5_disk_58 : decode cX5_disk 58 = .ok (.aload_n 0, 1) := by decide +kernel
theorem dX5_disk_59 : decode cX5_disk 59 = .ok (.iload_n 3, 1) := by decide +kernel
theorem dX5_disk_60 : decode cX5_disk 60 = .ok (.putfield 74, 3) := by decide +kernel
theorem dX5_disk_63 : decode cX5_disk 63 = .ok (.iconst 0, 1) := by decide +kernel
theorem dX5_disk_64 : decode cX5_disk 64 = .ok (.istore 4, 2) := by decide +kernel
theorem dX5_disk_66 : decode cX5_disk 66 = .ok (.iload 4, 2) := by decide +kernel
theorem dX5_disk_68 : decode cX5_disk 68 = .ok (.aload_n 0, 1) := by decide +kernel
theorem dX5_disk_69 : decode cX5_disk 69 = .ok (.getfield 8, 3) := by decide +kernel
theorem dX5_disk_72 : decode cX5_disk 72 = .ok (.arraylength, 1) := by decide +kernel
theorem dX5_disk_73 : decode cX5_disk 73 = .ok (.if_icmp .ge 17, 3) := by decide +kernel
theorem dX5_disk_76 : decode cX5_disk 76 = .ok (.aload_n 0, 1) := by decide +kernel
theorem dX5_disk_77 : decode cX5_disk 77 = .ok (.getfield 8, 3) := by decide +kernel
theorem dX5_disk_80 : decode cX5_disk 80 = .ok (.iload 4, 2) := by decide +kernel
theorem dX5_disk_82 : decode cX5_disk 82 = .ok (.iconst 0, 1) := by decide +kernel
theorem dX5_disk_83 : decode cX5_disk 83 = .ok (.iastore, 1) := by decide +kernel
theorem dX5_disk_84 : decode cX5_disk 84 = .ok (.iinc 4 1, 3) := by decide +kernel
theorem dX5_disk_87 : decode cX5_disk 87 = .ok (.goto (-21), 3) := by decide +kernel
theorem dX5_disk_90 : decode cX5_disk 90 = .ok (.aload_n 0, 1) := by decide +kernel
theorem dX5_disk_91 : decode cX5_disk 91 = .ok (.iconst 1, 1) := by decide +kernel
theorem dX5_disk_92 : decode cX5_disk 92 = .ok (.putfield 53, 3) := by decide +kernel
theorem dX5_disk_95 : decode cX5_disk 95 = .ok (.aload_n 0, 1) := by decide +kernel
theorem dX5_disk_96 : decode cX5_disk 96 = .ok (.iconst 0, 1) := by decide +kernel
theorem dX5_disk_97 : decode cX5_disk 97 = .ok (.putfield 50, 3) := by decide +kernel
theorem dX5_disk_100 : decode cX5_disk 100 = .ok (.aload_n 0, 1) := by decide +kernel
theorem dX5_disk_101 : decode cX5_disk 101 = .ok (.iconst 0, 1) := by decide +kernel
theorem dX5_disk_102 : decode cX5_disk 102 = .ok (.putfield 60, 3) := by decide +kernel
theorem dX5_disk_105 : decode cX5_disk 105 = .ok (.aload_n 0, 1) := by decide +kernel
theorem dX5_disk_106 : decode cX5_disk 106 = .ok (.iconst 0, 1) := by decide +kernel
theorem dX5_disk_107 : decode cX5_disk 107 = .ok (.putfield 56, 3) := by decide +kernel
theorem dX5_disk_110 : decode cX5_disk 110 = .ok (.iconst 1, 1) := by decide +kernel
theorem dX5_disk_111 : decode cX5_disk 111 = .ok (.ireturn, 1) := by decide +kernel
theorem dX5_format_0 : decode cX5_format 0 = .ok (.aload_n 0, 1) := by decide +kernel
theorem dX5_format_1 : decode cX5_format 1 = .ok (.getfield 53, 3) := by decide +kernel
theorem dX5_format_4 : decode cX5_format 4 = .ok (.ifCond .eq 11, 3) := by decide +kernel
theorem dX5_format_7 : decode cX5_format 7 = .ok (.aload_n 0, 1) := by decide +kernel
theorem dX5_format_8 : decode cX5_format 8 = .ok (.getfield 53, 3) := by decide +kernel
theorem dX5_format_11 : decode cX5_format 11 = .ok (.iconst 3, 1) := by decide +kernel
theorem dX5_format_12 : decode cX5_format 12 = .ok (.if_icmp .ne 8, 3) := by decide +kernel
theorem dX5_format_15 : decode cX5_format 15 = .ok (.aload_n 0, 1) := by decide +kernel
theorem dX5_format_16 : decode cX5_format 16 = .ok (.invokevirtual 77, 3) := by decide +kernel
theorem dX5_format_19 : decode cX5_format 19 = .ok (.ireturn, 1) := by decide +kernel
theorem dX5_format_20 : decode cX5_format 20 = .ok (.aload_n 0, 1) := by decide +kernel
theorem dX5_format_21 : decode cX5_format 21 = .ok (.getfield 8, 3) := by decide +kernel
theorem dX5_format_24 : decode cX5_format 24 = .ok (.iconst 1, 1) := by decide +kernel
theorem dX5_format_25 : decode cX5_format 25 = .ok (.iaload, 1) := by decide +kernel
theorem dX5_format_26 : decode cX5_format 26 = .ok (.iconst 1, 1) := by decide +kernel
theorem dX5_format_27 : decode cX5_format 27 = .ok (.iadd, 1) := by decide +kernel
theorem dX5_format_28 : decode cX5_format 28 = .ok (.istore_n 1, 1) := by decide +kernel
theorem dX5_format_29 : decode cX5_format 29 = .ok (.aload_n 0, 1) := by decide +kernel
theorem dX5_format_30 : decode cX5_format 30 = .ok (.iconst 0, 1) := by decide +kernel
theorem dX5_format_31 : decode cX5_format 31 = .ok (.putfield 56, 3) := by decide +kernel
theorem dX5_format_34 : decode cX5_format 34 = .ok (.aload_n 0, 1) := by decide +kernel
theorem dX5_format_35 : decode cX5_format 35 = .ok (.invokevirtual 63, 3) := by decide +kernel
theorem dX5_format_38 : decode cX5_format 38 = .ok (.aload_n 0, 1) := by decide +kernel
theorem dX5_format_39 : decode cX5_format 39 = .ok (.getfield 30, 3) := by decide +kernel
theorem dX5_format_42 : decode cX5_format 42 = .ok (.iconst 1, 1) := by decide +kernel
theorem dX5_format_43 : decode cX5_format 43 = .ok (.iload_n 1, 1) := by decide +kernel
theorem dX5_format_44 : decode cX5_format 44 = .ok (.iastore, 1) := by decide +kernel
theorem dX5_format_45 : decode cX5_format 45 = .ok (.aload_n 0, 1) := by decide +kernel
theorem dX5_format_46 : decode cX5_format 46 = .ok (.iconst 0, 1) := by decide +kernel
theorem dX5_format_47 : decode cX5_format 47 = .ok (.invokevirtual 67, 3) := by decide +kernel
theorem dX5_format_50 : decode cX5_format 50 = .ok (.ifCond .ne 5, 3) := by decide +kernel
theorem dX5_format_53 : decode cX5_format 53 = .ok (.iconst (-1), 1) := by decide +kernel
theorem dX5_format_54 : decode cX5_format 54 = .ok (.ireturn, 1) := by decide +kernel
theorem dX5_format_55 : decode cX5_format 55 = .ok (.aload_n 0, 1) := by decide +kernel
theorem dX5_format_56 : decode cX5_format 56 = .ok (.iload_n 1, 1) := by decide +kernel
theorem dX5_format_57 : decode cX5_format 57 = .ok (.iconst 1, 1) := by decide +kernel
theorem dX5_format_58 : decode cX5_format 58 = .ok (.iconst 0, 1) := by decide +kernel
theorem dX5_format_59 : decode cX5_format 59 = .ok (.iconst 0, 1) := by decide +kernel
theorem dX5_format_60 : decode cX5_format 60 = .ok (.iconst 0, 1) := by decide +kernel
theorem dX5_format_61 : decode cX5_format 61 = .ok (.invokevirtual 81, 3) := by decide +kernel
theorem dX5_format_64 : decode cX5_format 64 = .ok (.ifCond .ne 5, 3) := by decide +kernel
theorem dX5_format_67 : decode cX5_format 67 = .ok (.iconst (-1), 1) := by decide +kernel
theorem dX5_format_68 : decode cX5_format 68 = .ok (.ireturn, 1) := by decide +kernel
theorem dX5_format_69 : decode cX5_format 69 = .ok (.aload_n 0, 1) := by decide +kernel
theorem dX5_format_70 : decode cX5_format 70 = .ok (.iconst 2, 1) := by decide +kernel
theorem dX5_format_71 : decode cX5_format 71 = .ok (.putfield 53, 3) := by decide +kernel
theorem dX5_format_74 : decode cX5_format 74 = .ok (.aload_n 0, 1) := by decide +kernel
theorem dX5_format_75 : decode cX5_format 75 = .ok (.iload_n 1, 1) := by decide +kernel
theorem dX5_format_76 : decode cX5_format 76 = .ok (.putfield 85, 3) := by decide +kernel
theorem dX5_format_79 : decode cX5_format 79 = .ok (.aload_n 0, 1) := by decide +kernel
theorem dX5_format_80 : decode cX5_format 80 = .ok (.iconst 1, 1) := by decide +kernel
theorem dX5_format_81 : decode cX5_format 81 = .ok (.putfield 88, 3) := by decide +kernel
theorem dX5_format_84 : decode cX5_format 84 = .ok (.aload_n 0, 1) := by decide +kernel
theorem dX5_format_85 : decode cX5_format 85 = .ok (.iconst 0, 1) := by decide +kernel
theorem dX5_format_86 : decode cX5_format 86 = .ok (.putfield 91, 3) := by decide +kernel
theorem dX5_format_89 : decode cX5_format 89 = .ok (.aload_n 0, 1) := by decide +kernel
theorem dX5_format_90 : decode cX5_format 90 = .ok (.iconst 0, 1) := by decide +kernel
theorem dX5_format_91 : decode cX5_format 91 = .ok (.putfield 94, 3) := by decide +kernel
theorem dX5_format_94 : decode cX5_format 94 = .ok (.aload_n 0, 1) := by decide +kernel
theorem dX5_format_95 : decode cX5_format 95 = .ok (.iconst 0, 1) := by decide +kernel
theorem dX5_format_96 : decode cX5_format 96 = .ok (.putfield 97, 3) := by decide +kernel
theorem dX5_format_99 : decode cX5_format 99 = .ok (.iconst 0, 1) := by decide +kernel
theorem dX5_format_100 : decode cX5_format 100 = .ok (.ireturn, 1) := by decide +kernel
theorem dX5_power_0 : decode cX5_power 0 = .ok (.aload_n 0, 1) := by decide +kernel
theorem dX5_power_1 : decode cX5_power 1 = .ok (.getfield 53, 3) := by decide +kernel
theorem dX5_power_4 : decode cX5_power 4 = .ok (.ifCond .ne 6, 3) := by decide +kernel
theorem dX5_power_7 : decode cX5_power 7 = .ok (.bipush (-7), 2) := by decide +kernel
theorem dX5_power_9 : decode cX5_power 9 = .ok (.ireturn, 1) := by decide +kernel
theorem dX5_power_10 : decode cX5_power 10 = .ok (.aload_n 0, 1) := by decide +kernel
theorem dX5_power_11 : decode cX5_power 11 = .ok (.iload_n 1, 1) := by decide +kernel
theorem dX5_power_12 : decode cX5_power 12 = .ok (.iconst 1, 1) := by decide +kernel
theorem dX5_power_13 : decode cX5_power 13 = .ok (.if_icmp .ge 7, 3) := by decide +kernel
theorem dX5_power_16 : decode cX5_power 16 = .ok (.iconst 0, 1) := by decide +kernel
theorem dX5_power_17 : decode cX5_power 17 = .ok (.goto 4, 3) := by decide +kernel
theorem dX5_power_20 : decode cX5_power 20 = .ok (.iload_n 1, 1) := by decide +kernel
theorem dX5_power_21 : decode cX5_power 21 = .ok (.putfield 50, 3) := by decide +kernel
theorem dX5_power_24 : decode cX5_power 24 = .ok (.iconst 0, 1) := by decide +kernel
theorem dX5_power_25 : decode cX5_power 25 = .ok (.ireturn, 1) := by decide +kernel
theorem dX5_at_0 : decode cX5_at 0 = .ok (.iconst 0, 1) := by decide +kernel
theorem dX5_at_1 : decode cX5_at 1 = .ok (.istore_n 2, 1) := by decide +kernel
theorem dX5_at_2 : decode cX5_at 2 = .ok (.aload_n 0, 1) := by decide +kernel
theorem dX5_at_3 : decode cX5_at 3 = .ok (.getfield 97, 3) := by decide +kernel
theorem dX5_at_6 : decode cX5_at 6 = .ok (.istore_n 3, 1) := by decide +kernel
theorem dX5_at_7 : decode cX5_at 7 = .ok (.iload_n 2, 1) := by decide +kernel
theorem dX5_at_8 : decode cX5_at 8 = .ok (.iload_n 3, 1) := by decide +kernel
theorem dX5_at_9 : decode cX5_at 9 = .ok (.if_icmp .ge 35, 3) := by decide +kernel
theorem dX5_at_12 : decode cX5_at 12 = .ok (.iload_n 2, 1) := by decide +kernel
theorem dX5_at_13 : decode cX5_at 13 = .ok (.iload_n 3, 1) := by decide +kernel
theorem dX5_at_14 : decode cX5_at 14 = .ok (.iadd, 1) := by decide +kernel
theorem dX5_at_15 : decode cX5_at 15 = .ok (.iconst 2, 1) := by decide +kernel
theorem dX5_at_16 : decode cX5_at 16 = .ok (.idiv, 1) := by decide +kernel
theorem dX5_at_17 : decode cX5_at 17 = .ok (.istore 4, 2) := by decide +kernel
theorem dX5_at_19 : decode cX5_at 19 = .ok (.aload_n 0, 1) := by decide +kernel
theorem dX5_at_20 : decode cX5_at 20 = .ok (.getfield 14, 3) := by decide +kernel
theorem dX5_at_23 : decode cX5_at 23 = .ok (.iload 4, 2) := by decide +kernel
theorem dX5_at_25 : decode cX5_at 25 = .ok (.iaload, 1) := by decide +kernel
theorem dX5_at_26 : decode cX5_at 26 = .ok (.iload_n 1, 1) := by decide +kernel
theorem dX5_at_27 : decode cX5_at 27 = .ok (.if_icmp .ge 11, 3) := by decide +kernel
theorem dX5_at_30 : decode cX5_at 30 = .ok (.iload 4, 2) := by decide +kernel
theorem dX5_at_32 : decode cX5_at 32 = .ok (.iconst 1, 1) := by decide +kernel
theorem dX5_at_33 : decode cX5_at 33 = .ok (.iadd, 1) := by decide +kernel
theorem dX5_at_34 : decode cX5_at 34 = .ok (.istore_n 2, 1) := by decide +kernel
theorem dX5_at_35 : decode cX5_at 35 = .ok (.goto 6, 3) := by decide +kernel
theorem dX5_at_38 : decode cX5_at 38 = .ok (.iload 4, 2) := by decide +kernel
theorem dX5_at_40 : decode cX5_at 40 = .ok (.istore_n 3, 1) := by decide +kernel
theorem dX5_at_41 : decode cX5_at 41 = .ok (.goto (-34), 3) := by decide +kernel
theorem dX5_at_44 : decode cX5_at 44 = .ok (.iload_n 2, 1) := by decide +kernel
theorem dX5_at_45 : decode cX5_at 45 = .ok (.ireturn, 1) := by decide +kernel
theorem dX5_bind_0 : decode cX5_bind 0 = .ok (.aload_n 0, 1) := by decide +kernel
theorem dX5_bind_1 : decode cX5_bind 1 = .ok (.iload_n 1, 1) := by decide +kernel
theorem dX5_bind_2 : decode cX5_bind 2 = .ok (.invokevirtual 100, 3) := by decide +kernel
theorem dX5_bind_5 : decode cX5_bind 5 = .ok (.istore_n 3, 1) := by decide +kernel
theorem dX5_bind_6 : decode cX5_bind 6 = .ok (.iload_n 3, 1) := by decide +kernel
theorem dX5_bind_7 : decode cX5_bind 7 = .ok (.aload_n 0, 1) := by decide +kernel
theorem dX5_bind_8 : decode cX5_bind 8 = .ok (.getfield 97, 3) := by decide +kernel
theorem dX5_bind_11 : decode cX5_bind 11 = .ok (.if_icmp .eq 13, 3) := by decide +kernel
theorem dX5_bind_14 : decode cX5_bind 14 = .ok (.aload_n 0, 1) := by decide +kernel
theorem dX5_bind_15 : decode cX5_bind 15 = .ok (.getfield 14, 3) := by decide +kernel
theorem dX5_bind_18 : decode cX5_bind 18 = .ok (.iload_n 3, 1) := by decide +kernel
theorem dX5_bind_19 : decode cX5_bind 19 = .ok (.iaload, 1) := by decide +kernel
theorem dX5_bind_20 : decode cX5_bind 20 = .ok (.iload_n 1, 1) := by decide +kernel
theorem dX5_bind_21 : decode cX5_bind 21 = .ok (.if_icmp .eq 70, 3) := by decide +kernel
theorem dX5_bind_24 : decode cX5_bind 24 = .ok (.aload_n 0, 1) := by decide +kernel
theorem dX5_bind_25 : decode cX5_bind 25 = .ok (.getfield 97, 3) := by decide +kernel
theorem dX5_bind_28 : decode cX5_bind 28 = .ok (.istore 4, 2) := by decide +kernel
theorem dX5_bind_30 : decode cX5_bind 30 = .ok (.iload 4, 2) := by decide +kernel
theorem dX5_bind_32 : decode cX5_bind 32 = .ok (.iload_n 3, 1) := by decide +kernel
theorem dX5_bind_33 : decode cX5_bind 33 = .ok (.if_icmp .le 41, 3) := by decide +kernel
theorem dX5_bind_36 : decode cX5_bind 36 = .ok (.aload_n 0, 1) := by decide +kernel
theorem dX5_bind_37 : decode cX5_bind 37 = .ok (.getfield 14, 3) := by decide +kernel
theorem dX5_bind_40 : decode cX5_bind 40 = .ok (.iload 4, 2) := by decide +kernel
theorem dX5_bind_42 : decode cX5_bind 42 = .ok (.aload_n 0, 1) := by decide +kernel
theorem dX5_bind_43 : decode cX5_bind 43 = .ok (.getfield 14, 3) := by decide +kernel
theorem dX5_bind_46 : decode cX5_bind 46 = .ok (.iload 4, 2) := by decide +kernel
theorem dX5_bind_48 : decode cX5_bind 48 = .ok (.iconst 1, 1) := by decide +kernel
theorem dX5_bind_49 : decode cX5_bind 49 = .ok (.isub, 1) := by decide +kernel
theorem dX5_bind_50 : decode cX5_bind 50 = .ok (.iaload, 1) := by decide +kernel
theorem dX5_bind_51 : decode cX5_bind 51 = .ok (.iastore, 1) := by decide +kernel
theorem dX5_bind_52 : decode cX5_bind 52 = .ok (.aload_n 0, 1) := by decide +kernel
theorem dX5_bind_53 : decode cX5_bind 53 = .ok (.getfield 17, 3) := by decide +kernel
theorem dX5_bind_56 : decode cX5_bind 56 = .ok (.iload 4, 2) := by decide +kernel
theorem dX5_bind_58 : decode cX5_bind 58 = .ok (.aload_n 0, 1) := by decide +kernel
theorem dX5_bind_59 : decode cX5_bind 59 = .ok (.getfield 17, 3) := by decide +kernel
theorem dX5_bind_62 : decode cX5_bind 62 = .ok (.iload 4, 2) := by decide +kernel
theorem dX5_bind_64 : decode cX5_bind 64 = .ok (.iconst 1, 1) := by decide +kernel
theorem dX5_bind_65 : decode cX5_bind 65 = .ok (.isub, 1) := by decide +kernel
theorem dX5_bind_66 : decode cX5_bind 66 = .ok (.iaload, 1) := by decide +kernel
theorem dX5_bind_67 : decode cX5_bind 67 = .ok (.iastore, 1) := by decide +kernel
theorem dX5_bind_68 : decode cX5_bind 68 = .ok (.iinc 4 (-1), 3) := by decide +kernel
theorem dX5_bind_71 : decode cX5_bind 71 = .ok (.goto (-41), 3) := by decide +kernel
theorem dX5_bind_74 : decode cX5_bind 74 = .ok (.aload_n 0, 1) := by decide +kernel
theorem dX5_bind_75 : decode cX5_bind 75 = .ok (.getfield 14, 3) := by decide +kernel
theorem dX5_bind_78 : decode cX5_bind 78 = .ok (.iload_n 3, 1) := by decide +kernel
theorem dX5_bind_79 : decode cX5_bind 79 = .ok (.iload_n 1, 1) := by decide +kernel
theorem dX5_bind_80 : decode cX5_bind 80 = .ok (.iastore, 1) := by decide +kernel
theorem dX5_bind_81 : decode cX5_bind 81 = .ok (.aload_n 0, 1) := by decide +kernel
theorem dX5_bind_82 : decode cX5_bind 82 = .ok (.dup, 1) := by decide +kernel
theorem dX5_bind_83 : decode cX5_bind 83 = .ok (.getfield 97, 3) := by decide +kernel
theorem dX5_bind_86 : decode cX5_bind 86 = .ok (.iconst 1, 1) := by decide +kernel
theorem dX5_bind_87 : decode cX5_bind 87 = .ok (.iadd, 1) := by decide +kernel
theorem dX5_bind_88 : decode cX5_bind 88 = .ok (.putfield 97, 3) := by decide +kernel
theorem dX5_bind_91 : decode cX5_bind 91 = .ok (.aload_n 0, 1) := by decide +kernel
theorem dX5_bind_92 : decode cX5_bind 92 = .ok (.getfield 17, 3) := by decide +kernel
theorem dX5_bind_95 : decode cX5_bind 95 = .ok (.iload_n 3, 1) := by decide +kernel
theorem dX5_bind_96 : decode cX5_bind 96 = .ok (.iload_n 2, 1) := by decide +kernel
theorem dX5_bind_97 : decode cX5_bind 97 = .ok (.iastore, 1) := by decide +kernel
theorem dX5_bind_98 : decode cX5_bind 98 = .ok (.return_, 1) := by decide +kernel
theorem dX5_unbind_0 : decode cX5_unbind 0 = .ok (.aload_n 0, 1) := by decide +kernel
theorem dX5_unbind_1 : decode cX5_unbind 1 = .ok (.iload_n 1, 1) := by decide +kernel
theorem dX5_unbind_2 : decode cX5_unbind 2 = .ok (.invokevirtual 100, 3) := by decide +kernel
theorem dX5_unbind_5 : decode cX5_unbind 5 = .ok (.istore_n 2, 1) := by decide +kernel
theorem dX5_unbind_6 : decode cX5_unbind 6 = .ok (.iload_n 2, 1) := by decide +kernel
theorem dX5_unbind_7 : decode cX5_unbind 7 = .ok (.aload_n 0, 1) := by decide +kernel
theorem dX5_unbind_8 : decode cX5_unbind 8 = .ok (.getfield 97, 3) := by decide +kernel
theorem dX5_unbind_11 : decode cX5_unbind 11 = .ok (.if_icmp .eq 13, 3) := by decide +kernel
theorem dX5_unbind_14 : decode cX5_unbind 14 = .ok (.aload_n 0, 1) := by decide +kernel
theorem dX5_unbind_15 : decode cX5_unbind 15 = .ok (.getfield 14, 3) := by decide +kernel
theorem dX5_unbind_18 : decode cX5_unbind 18 = .ok (.iload_n 2, 1) := by decide +kernel
theorem dX5_unbind_19 : decode cX5_unbind 19 = .ok (.iaload, 1) := by decide +kernel
theorem dX5_unbind_20 : decode cX5_unbind 20 = .ok (.iload_n 1, 1) := by decide +kernel
theorem dX5_unbind_21 : decode cX5_unbind 21 = .ok (.if_icmp .eq 4, 3) := by decide +kernel
theorem dX5_unbind_24 : decode cX5_unbind 24 = .ok (.return_, 1) := by decide +kernel
theorem dX5_unbind_25 : decode cX5_unbind 25 = .ok (.aload_n 0, 1) := by decide +kernel
theorem dX5_unbind_26 : decode cX5_unbind 26 = .ok (.dup, 1) := by decide +kernel
theorem dX5_unbind_27 : decode cX5_unbind 27 = .ok (.getfield 97, 3) := by decide +kernel
theorem dX5_unbind_30 : decode cX5_unbind 30 = .ok (.iconst 1, 1) := by decide +kernel
theorem dX5_unbind_31 : decode cX5_unbind 31 = .ok (.isub, 1) := by decide +kernel
theorem dX5_unbind_32 : decode cX5_unbind 32 = .ok (.putfield 97, 3) := by decide +kernel
theorem dX5_unbind_35 : decode cX5_unbind 35 = .ok (.iload_n 2, 1) := by decide +kernel
theorem dX5_unbind_36 : decode cX5_unbind 36 = .ok (.istore_n 3, 1) := by decide +kernel
theorem dX5_unbind_37 : decode cX5_unbind 37 = .ok (.iload_n 3, 1) := by decide +kernel
theorem dX5_unbind_38 : decode cX5_unbind 38 = .ok (.aload_n 0, 1) := by decide +kernel
theorem dX5_unbind_39 : decode cX5_unbind 39 = .ok (.getfield 97, 3) := by decide +kernel
theorem dX5_unbind_42 : decode cX5_unbind 42 = .ok (.if_icmp .ge 37, 3) := by decide +kernel
theorem dX5_unbind_45 : decode cX5_unbind 45 = .ok (.aload_n 0, 1) := by decide +kernel
theorem dX5_unbind_46 : decode cX5_unbind 46 = .ok (.getfield 14, 3) := by decide +kernel
theorem dX5_unbind_49 : decode cX5_unbind 49 = .ok (.iload_n 3, 1) := by decide +kernel
theorem dX5_unbind_50 : decode cX5_unbind 50 = .ok (.aload_n 0, 1) := by decide +kernel
theorem dX5_unbind_51 : decode cX5_unbind 51 = .ok (.getfield 14, 3) := by decide +kernel
theorem dX5_unbind_54 : decode cX5_unbind 54 = .ok (.iload_n 3, 1) := by decide +kernel
theorem dX5_unbind_55 : decode cX5_unbind 55 = .ok (.iconst 1, 1) := by decide +kernel
theorem dX5_unbind_56 : decode cX5_unbind 56 = .ok (.iadd, 1) := by decide +kernel
theorem dX5_unbind_57 : decode cX5_unbind 57 = .ok (.iaload, 1) := by decide +kernel
theorem dX5_unbind_58 : decode cX5_unbind 58 = .ok (.iastore, 1) := by decide +kernel
theorem dX5_unbind_59 : decode cX5_unbind 59 = .ok (.aload_n 0, 1) := by decide +kernel
theorem dX5_unbind_60 : decode cX5_unbind 60 = .ok (.getfield 17, 3) := by decide +kernel
theorem dX5_unbind_63 : decode cX5_unbind 63 = .ok (.iload_n 3, 1) := by decide +kernel
theorem dX5_unbind_64 : decode cX5_unbind 64 = .ok (.aload_n 0, 1) := by decide +kernel
theorem dX5_unbind_65 : decode cX5_unbind 65 = .ok (.getfield 17, 3) := by decide +kernel
theorem dX5_unbind_68 : decode cX5_unbind 68 = .ok (.iload_n 3, 1) := by decide +kernel
theorem dX5_unbind_69 : decode cX5_unbind 69 = .ok (.iconst 1, 1) := by decide +kernel
theorem dX5_unbind_70 : decode cX5_unbind 70 = .ok (.iadd, 1) := by decide +kernel
theorem dX5_unbind_71 : decode cX5_unbind 71 = .ok (.iaload, 1) := by decide +kernel
theorem dX5_unbind_72 : decode cX5_unbind 72 = .ok (.iastore, 1) := by decide +kernel
theorem dX5_unbind_73 : decode cX5_unbind 73 = .ok (.iinc 3 1, 3) := by decide +kernel
theorem dX5_unbind_76 : decode cX5_unbind 76 = .ok (.goto (-39), 3) := by decide +kernel
theorem dX5_unbind_79 : decode cX5_unbind 79 = .ok (.return_, 1) := by decide +kernel
theorem dX5_changeAt_0 : decode cX5_changeAt 0 = .ok (.iconst 0, 1) := by decide +kernel
theorem dX5_changeAt_1 : decode cX5_changeAt 1 = .ok (.istore_n 2, 1) := by decide +kernel
theorem dX5_changeAt_2 : decode cX5_changeAt 2 = .ok (.iload_n 2, 1) := by decide +kernel
theorem dX5_changeAt_3 : decode cX5_changeAt 3 = .ok (.aload_n 0, 1) := by decide +kernel
theorem dX5_changeAt_4 : decode cX5_changeAt 4 = .ok (.getfield 104, 3) := by decide +kernel
theorem dX5_changeAt_7 : decode cX5_changeAt 7 = .ok (.if_icmp .ge 19, 3) := by decide +kernel
theorem dX5_changeAt_10 : decode cX5_changeAt 10 = .ok (.aload_n 0, 1) := by decide +kernel
theorem dX5_changeAt_11 : decode cX5_changeAt 11 = .ok (.getfield 20, 3) := by decide +kernel
theorem dX5_changeAt_14 : decode cX5_changeAt 14 = .ok (.iload_n 2, 1) := by decide +kernel
theorem dX5_changeAt_15 : decode cX5_changeAt 15 = .ok (.iaload, 1) := by decide +kernel
theorem dX5_changeAt_16 : decode cX5_changeAt 16 = .ok (.iload_n 1, 1) := by decide +kernel
theorem dX5_changeAt_17 : decode cX5_changeAt 17 = .ok (.if_icmp .ge 9, 3) := by decide +kernel
theorem dX5_changeAt_20 : decode cX5_changeAt 20 = .ok (.iinc 2 1, 3) := by decide +kernel
theorem dX5_changeAt_23 : decode cX5_changeAt 23 = .ok (.goto (-21), 3) := by decide +kernel
theorem dX5_changeAt_26 : decode cX5_changeAt 26 = .ok (.iload_n 2, 1) := by decide +kernel
theorem dX5_changeAt_27 : decode cX5_changeAt 27 = .ok (.ireturn, 1) := by decide +kernel
theorem dX5_isChanged_0 : decode cX5_isChanged 0 = .ok (.aload_n 0, 1) := by decide +kernel
theorem dX5_isChanged_1 : decode cX5_isChanged 1 = .ok (.iload_n 1, 1) := by decide +kernel
theorem dX5_isChanged_2 : decode cX5_isChanged 2 = .ok (.invokevirtual 107, 3) := by decide +kernel
theorem dX5_isChanged_5 : decode cX5_isChanged 5 = .ok (.istore_n 2, 1) := by decide +kernel
theorem dX5_isChanged_6 : decode cX5_isChanged 6 = .ok (.aload_n 0, 1) := by decide +kernel
theorem dX5_isChanged_7 : decode cX5_isChanged 7 = .ok (.getfield 56, 3) := by decide +kernel
theorem dX5_isChanged_10 : decode cX5_isChanged 10 = .ok (.ifCond .eq 25, 3) := by decide +kernel
theorem dX5_isChanged_13 : decode cX5_isChanged 13 = .ok (.iload_n 2, 1) := by decide +kernel
theorem dX5_isChanged_14 : decode cX5_isChanged 14 = .ok (.aload_n 0, 1) := by decide +kernel
theorem dX5_isChanged_15 : decode cX5_isChanged 15 = .ok (.getfield 104, 3) := by decide +kernel
theorem dX5_isChanged_18 : decode cX5_isChanged 18 = .ok (.if_icmp .ge 17, 3) := by decide +kernel
theorem dX5_isChanged_21 : decode cX5_isChanged 21 = .ok (.aload_n 0, 1) := by decide +kernel
theorem dX5_isChanged_22 : decode cX5_isChanged 22 = .ok (.getfield 20, 3) := by decide +kernel
theorem dX5_isChanged_25 : decode cX5_isChanged 25 = .ok (.iload_n 2, 1) := by decide +kernel
theorem dX5_isChanged_26 : decode cX5_isChanged 26 = .ok (.iaload, 1) := by decide +kernel
theorem dX5_isChanged_27 : decode cX5_isChanged 27 = .ok (.iload_n 1, 1) := by decide +kernel
theorem dX5_isChanged_28 : decode cX5_isChanged 28 = .ok (.if_icmp .ne 7, 3) := by decide +kernel
theorem dX5_isChanged_31 : decode cX5_isChanged 31 = .ok (.iconst 1, 1) := by decide +kernel
theorem dX5_isChanged_32 : decode cX5_isChanged 32 = .ok (.goto 4, 3) := by decide +kernel
theorem dX5_isChanged_35 : decode cX5_isChanged 35 = .ok (.iconst 0, 1) := by decide +kernel
theorem dX5_isChanged_36 : decode cX5_isChanged 36 = .ok (.ireturn, 1) := by decide +kernel
theorem dX5_isPart_0 : decode cX5_isPart 0 = .ok (.aload_n 0, 1) := by decide +kernel
theorem dX5_isPart_1 : decode cX5_isPart 1 = .ok (.getfield 42, 3) := by decide +kernel
theorem dX5_isPart_4 : decode cX5_isPart 4 = .ok (.iload_n 1, 1) := by decide +kernel
theorem dX5_isPart_5 : decode cX5_isPart 5 = .ok (.imul, 1) := by decide +kernel
theorem dX5_isPart_6 : decode cX5_isPart 6 = .ok (.istore 4, 2) := by decide +kernel
theorem dX5_isPart_8 : decode cX5_isPart 8 = .ok (.aload_n 0, 1) := by decide +kernel
theorem dX5_isPart_9 : decode cX5_isPart 9 = .ok (.iload_n 1, 1) := by decide +kernel
theorem dX5_isPart_10 : decode cX5_isPart 10 = .ok (.invokevirtual 110, 3) := by decide +kernel
theorem dX5_isPart_13 : decode cX5_isPart 13 = .ok (.ifCond .eq 47, 3) := by decide +kernel
theorem dX5_isPart_16 : decode cX5_isPart 16 = .ok (.aload_n 0, 1) := by decide +kernel
theorem dX5_isPart_17 : decode cX5_isPart 17 = .ok (.getfield 8, 3) := by decide +kernel
theorem dX5_isPart_20 : decode cX5_isPart 20 = .ok (.iload 4, 2) := by decide +kernel
theorem dX5_isPart_22 : decode cX5_isPart 22 = .ok (.iaload, 1) := by decide +kernel
theorem dX5_isPart_23 : decode cX5_isPart 23 = .ok (.aload_n 0, 1) := by decide +kernel
theorem dX5_isPart_24 : decode cX5_isPart 24 = .ok (.getfield 85, 3) := by decide +kernel
theorem dX5_isPart_27 : decode cX5_isPart 27 = .ok (.if_icmp .ne 33, 3) := by decide +kernel
theorem dX5_isPart_30 : decode cX5_isPart 30 = .ok (.aload_n 0, 1) := by decide +kernel
theorem dX5_isPart_31 : decode cX5_isPart 31 = .ok (.getfield 8, 3) := by decide +kernel
theorem dX5_isPart_34 : decode cX5_isPart 34 = .ok (.iload 4, 2) := by decide +kernel
theorem dX5_isPart_36 : decode cX5_isPart 36 = .ok (.iconst 1, 1) := by decide +kernel
theorem dX5_isPart_37 : decode cX5_isPart 37 = .ok (.iadd, 1) := by decide +kernel
theorem dX5_isPart_38 : decode cX5_isPart 38 = .ok (.iaload, 1) := by decide +kernel
theorem dX5_isPart_39 : decode cX5_isPart 39 = .ok (.iload_n 2, 1) := by decide +kernel
theorem dX5_isPart_40 : decode cX5_isPart 40 = .ok (.if_icmp .ne 20, 3) := by decide +kernel
theorem dX5_isPart_43 : decode cX5_isPart 43 = .ok (.aload_n 0, 1) := by decide +kernel
theorem dX5_isPart_44 : decode cX5_isPart 44 = .ok (.getfield 8, 3) := by decide +kernel
theorem dX5_isPart_47 : decode cX5_isPart 47 = .ok (.iload 4, 2) := by decide +kernel
theorem dX5_isPart_49 : decode cX5_isPart 49 = .ok (.iconst 2, 1) := by decide +kernel
theorem dX5_isPart_50 : decode cX5_isPart 50 = .ok (.iadd, 1) := by decide +kernel
theorem dX5_isPart_51 : decode cX5_isPart 51 = .ok (.iaload, 1) := by decide +kernel
theorem dX5_isPart_52 : decode cX5_isPart 52 = .ok (.iload_n 3, 1) := by decide +kernel
theorem dX5_isPart_53 : decode cX5_isPart 53 = .ok (.if_icmp .ne 7, 3) := by decide +kernel
theorem dX5_isPart_56 : decode cX5_isPart 56 = .ok (.iconst 1, 1) := by decide +kernel
theorem dX5_isPart_57 : decode cX5_isPart 57 = .ok (.goto 4, 3) := by decide +kernel
theorem dX5_isPart_60 : decode cX5_isPart 60 = .ok (.iconst 0, 1) := by decide +kernel
theorem dX5_isPart_61 : decode cX5_isPart 61 = .ok (.ireturn, 1) := by decide +kernel
theorem dX5_needed_0 : decode cX5_needed 0 = .ok (.lconst 1, 1) := by decide +kernel
theorem dX5_needed_1 : decode cX5_needed 1 = .ok (.ldc2_w 113, 3) := by decide +kernel
theorem dX5_needed_4 : decode cX5_needed 4 = .ok (.lload_n 1, 1) := by decide +kernel
theorem dX5_needed_5 : decode cX5_needed 5 = .ok (.lmul, 1) := by decide +kernel
theorem dX5_needed_6 : decode cX5_needed 6 = .ok (.ladd, 1) := by decide +kernel
theorem dX5_needed_7 : decode cX5_needed 7 = .ok (.lstore_n 3, 1) := by decide +kernel
theorem dX5_needed_8 : decode cX5_needed 8 = .ok (.lload_n 3, 1) := by decide +kernel
theorem dX5_needed_9 : decode cX5_needed 9 = .ok (.aload_n 0, 1) := by decide +kernel
theorem dX5_needed_10 : decode cX5_needed 10 = .ok (.invokevirtual 115, 3) := by decide +kernel
theorem dX5_needed_13 : decode cX5_needed 13 = .ok (.i2l, 1) := by decide +kernel
theorem dX5_needed_14 : decode cX5_needed 14 = .ok (.ladd, 1) := by decide +kernel
theorem dX5_needed_15 : decode cX5_needed 15 = .ok (.lconst 1, 1) := by decide +kernel
theorem dX5_needed_16 : decode cX5_needed 16 = .ok (.lsub, 1) := by decide +kernel
theorem dX5_needed_17 : decode cX5_needed 17 = .ok (.aload_n 0, 1) := by decide +kernel
theorem dX5_needed_18 : decode cX5_needed 18 = .ok (.invokevirtual 115, 3) := by decide +kernel
theorem dX5_needed_21 : decode cX5_needed 21 = .ok (.i2l, 1) := by decide +kernel
theorem dX5_needed_22 : decode cX5_needed 22 = .ok (.ldiv, 1) := by decide +kernel
theorem dX5_needed_23 : decode cX5_needed 23 = .ok (.lstore 5, 2) := by decide +kernel
theorem dX5_needed_25 : decode cX5_needed 25 = .ok (.lload 5, 2) := by decide +kernel
theorem dX5_needed_27 : decode cX5_needed 27 = .ok (.ldc2_w 118, 3) := by decide +kernel
theorem dX5_needed_30 : decode cX5_needed 30 = .ok (.lcmp, 1) := by decide +kernel
theorem dX5_needed_31 : decode cX5_needed 31 = .ok (.ifCond .le 9, 3) := by decide +kernel
theorem dX5_needed_34 : decode cX5_needed 34 = .ok (.sipush 1000, 3) := by decide +kernel
theorem dX5_needed_37 : decode cX5_needed 37 = .ok (.goto 6, 3) := by decide +kernel
theorem dX5_needed_40 : decode cX5_needed 40 = .ok (.lload 5, 2) := by decide +kernel
theorem dX5_needed_42 : decode cX5_needed 42 = .ok (.l2i, 1) := by decide +kernel
theorem dX5_needed_43 : decode cX5_needed 43 = .ok (.ireturn, 1) := by decide +kernel
theorem dX5_redo_0 : decode cX5_redo 0 = .ok (.iload_n 1, 1) := by decide +kernel
theorem dX5_redo_1 : decode cX5_redo 1 = .ok (.aload_n 0, 1) := by decide +kernel
theorem dX5_redo_2 : decode cX5_redo 2 = .ok (.getfield 74, 3) := by decide +kernel
theorem dX5_redo_5 : decode cX5_redo 5 = .ok (.if_icmp .gt 13, 3) := by decide +kernel
theorem dX5_redo_8 : decode cX5_redo 8 = .ok (.aload_n 0, 1) := by decide +kernel
theorem dX5_redo_9 : decode cX5_redo 9 = .ok (.iload_n 1, 1) := by decide +kernel
theorem dX5_redo_10 : decode cX5_redo 10 = .ok (.iload_n 2, 1) := by decide +kernel
theorem dX5_redo_11 : decode cX5_redo 11 = .ok (.iconst 0, 1) := by decide +kernel
theorem dX5_redo_12 : decode cX5_redo 12 = .ok (.invokevirtual 120, 3) := by decide +kernel
theorem dX5_redo_15 : decode cX5_redo 15 = .ok (.ifCond .ne 5, 3) := by decide +kernel
theorem dX5_redo_18 : decode cX5_redo 18 = .ok (.iconst 0, 1) := by decide +kernel
theorem dX5_redo_19 : decode cX5_redo 19 = .ok (.ireturn, 1) := by decide +kernel
theorem dX5_redo_20 : decode cX5_redo 20 = .ok (.aload_n 0, 1) := by decide +kernel
theorem dX5_redo_21 : decode cX5_redo 21 = .ok (.getfield 8, 3) := by decide +kernel
theorem dX5_redo_24 : decode cX5_redo 24 = .ok (.aload_n 0, 1) := by decide +kernel
theorem dX5_redo_25 : decode cX5_redo 25 = .ok (.getfield 42, 3) := by decide +kernel
theorem dX5_redo_28 : decode cX5_redo 28 = .ok (.iload_n 1, 1) := by decide +kernel
theorem dX5_redo_29 : decode cX5_redo 29 = .ok (.imul, 1) := by decide +kernel
theorem dX5_redo_30 : decode cX5_redo 30 = .ok (.iconst 4, 1) := by decide +kernel
theorem dX5_redo_31 : decode cX5_redo 31 = .ok (.iadd, 1) := by decide +kernel
theorem dX5_redo_32 : decode cX5_redo 32 = .ok (.iaload, 1) := by decide +kernel
theorem dX5_redo_33 : decode cX5_redo 33 = .ok (.istore_n 3, 1) := by decide +kernel
theorem dX5_redo_34 : decode cX5_redo 34 = .ok (.aload_n 0, 1) := by decide +kernel
theorem dX5_redo_35 : decode cX5_redo 35 = .ok (.getfield 8, 3) := by decide +kernel
theorem dX5_redo_38 : decode cX5_redo 38 = .ok (.aload_n 0, 1) := by decide +kernel
theorem dX5_redo_39 : decode cX5_redo 39 = .ok (.getfield 42, 3) := by decide +kernel
theorem dX5_redo_42 : decode cX5_redo 42 = .ok (.iload_n 1, 1) := by decide +kernel
theorem dX5_redo_43 : decode cX5_redo 43 = .ok (.imul, 1) := by decide +kernel
theorem dX5_redo_44 : decode cX5_redo 44 = .ok (.iconst 3, 1) := by decide +kernel
theorem dX5_redo_45 : decode cX5_redo 45 = .ok (.iadd, 1) := by decide +kernel
theorem dX5_redo_46 : decode cX5_redo 46 = .ok (.iaload, 1) := by decide +kernel
theorem dX5_redo_47 : decode cX5_redo 47 = .ok (.istore 4, 2) := by decide +kernel
theorem dX5_redo_49 : decode cX5_redo 49 = .ok (.iload_n 3, 1) := by decide +kernel
theorem dX5_redo_50 : decode cX5_redo 50 = .ok (.iconst 1, 1) := by decide +kernel
theorem dX5_redo_51 : decode cX5_redo 51 = .ok (.if_icmp .ge 5, 3) := by decide +kernel
theorem dX5_redo_54 : decode cX5_redo 54 = .ok (.iconst 0, 1) := by decide +kernel
theorem dX5_redo_55 : decode cX5_redo 55 = .ok (.ireturn, 1) := by decide +kernel
theorem dX5_redo_56 : decode cX5_redo 56 = .ok (.aload_n 0, 1) := by decide +kernel
theorem dX5_redo_57 : decode cX5_redo 57 = .ok (.iload_n 3, 1) := by decide +kernel
theorem dX5_redo_58 : decode cX5_redo 58 = .ok (.i2l, 1) := by decide +kernel
theorem dX5_redo_59 : decode cX5_redo 59 = .ok (.invokevirtual 124, 3) := by decide +kernel
theorem dX5_redo_62 : decode cX5_redo 62 = .ok (.istore 5, 2) := by decide +kernel
theorem dX5_redo_64 : decode cX5_redo 64 = .ok (.iload_n 1, 1) := by decide +kernel
theorem dX5_redo_65 : decode cX5_redo 65 = .ok (.iload 5, 2) := by decide +kernel
theorem dX5_redo_67 : decode cX5_redo 67 = .ok (.iadd, 1) := by decide +kernel
theorem dX5_redo_68 : decode cX5_redo 68 = .ok (.iconst 1, 1) := by decide +kernel
theorem dX5_redo_69 : decode cX5_redo 69 = .ok (.isub, 1) := by decide +kernel
theorem dX5_redo_70 : decode cX5_redo 70 = .ok (.aload_n 0, 1) := by decide +kernel
theorem dX5_redo_71 : decode cX5_redo 71 = .ok (.getfield 74, 3) := by decide +kernel
theorem dX5_redo_74 : decode cX5_redo 74 = .ok (.if_icmp .le 5, 3) := by decide +kernel
theorem dX5_redo_77 : decode cX5_redo 77 = .ok (.iconst 0, 1) := by decide +kernel
theorem dX5_redo_78 : decode cX5_redo 78 = .ok (.ireturn, 1) := by decide +kernel
theorem dX5_redo_79 : decode cX5_redo 79 = .ok (.iconst 1, 1) := by decide +kernel
theorem dX5_redo_80 : decode cX5_redo 80 = .ok (.istore 6, 2) := by decide +kernel
theorem dX5_redo_82 : decode cX5_redo 82 = .ok (.iload 6, 2) := by decide +kernel
theorem dX5_redo_84 : decode cX5_redo 84 = .ok (.iload 5, 2) := by decide +kernel
theorem dX5_redo_86 : decode cX5_redo 86 = .ok (.if_icmp .ge 46, 3) := by decide +kernel
theorem dX5_redo_89 : decode cX5_redo 89 = .ok (.aload_n 0, 1) := by decide +kernel
theorem dX5_redo_90 : decode cX5_redo 90 = .ok (.iload_n 1, 1) := by decide +kernel
theorem dX5_redo_91 : decode cX5_redo 91 = .ok (.iload 6, 2) := by decide +kernel
theorem dX5_redo_93 : decode cX5_redo 93 = .ok (.iadd, 1) := by decide +kernel
theorem dX5_redo_94 : decode cX5_redo 94 = .ok (.iload_n 2, 1) := by decide +kernel
theorem dX5_redo_95 : decode cX5_redo 95 = .ok (.iload 6, 2) := by decide +kernel
theorem dX5_redo_97 : decode cX5_redo 97 = .ok (.invokevirtual 120, 3) := by decide +kernel
theorem dX5_redo_100 : decode cX5_redo 100 = .ok (.ifCond .eq 24, 3) := by decide +kernel
theorem dX5_redo_103 : decode cX5_redo 103 = .ok (.aload_n 0, 1) := by decide +kernel
theorem dX5_redo_104 : decode cX5_redo 104 = .ok (.getfield 8, 3) := by decide +kernel
theorem dX5_redo_107 : decode cX5_redo 107 = .ok (.aload_n 0, 1) := by decide +kernel
theorem dX5_redo_108 : decode cX5_redo 108 = .ok (.getfield 42, 3) := by decide +kernel
theorem dX5_redo_111 : decode cX5_redo 111 = .ok (.iload_n 1, 1) := by decide +kernel
theorem dX5_redo_112 : decode cX5_redo 112 = .ok (.iload 6, 2) := by decide +kernel
theorem dX5_redo_114 : decode cX5_redo 114 = .ok (.iadd, 1) := by decide +kernel
theorem dX5_redo_115 : decode cX5_redo 115 = .ok (.imul, 1) := by decide +kernel
theorem dX5_redo_116 : decode cX5_redo 116 = .ok (.iconst 3, 1) := by decide +kernel
theorem dX5_redo_117 : decode cX5_redo 117 = .ok (.iadd, 1) := by decide +kernel
theorem dX5_redo_118 : decode cX5_redo 118 = .ok (.iaload, 1) := by decide +kernel
theorem dX5_redo_119 : decode cX5_redo 119 = .ok (.iload 4, 2) := by decide +kernel
theorem dX5_redo_121 : decode cX5_redo 121 = .ok (.if_icmp .eq 5, 3) := by decide +kernel
theorem dX5_redo_124 : decode cX5_redo 124 = .ok (.iconst 0, 1) := by decide +kernel
theorem dX5_redo_125 : decode cX5_redo 125 = .ok (.ireturn, 1) := by decide +kernel
theorem dX5_redo_126 : decode cX5_redo 126 = .ok (.iinc 6 1, 3) := by decide +kernel
theorem dX5_redo_129 : decode cX5_redo 129 = .ok (.goto (-47), 3) := by decide +kernel
theorem dX5_redo_132 : decode cX5_redo 132 = .ok (.iconst 0, 1) := by decide +kernel
theorem dX5_redo_133 : decode cX5_redo 133 = .ok (.istore 6, 2) := by decide +kernel
theorem dX5_redo_135 : decode cX5_redo 135 = .ok (.iload 6, 2) := by decide +kernel
theorem dX5_redo_137 : decode cX5_redo 137 = .ok (.iload_n 3, 1) := by decide +kernel
theorem dX5_redo_138 : decode cX5_redo 138 = .ok (.if_icmp .ge 67, 3) := by decide +kernel
theorem dX5_redo_141 : decode cX5_redo 141 = .ok (.aload_n 0, 1) := by decide +kernel
theorem dX5_redo_142 : decode cX5_redo 142 = .ok (.iload_n 1, 1) := by decide +kernel
theorem dX5_redo_143 : decode cX5_redo 143 = .ok (.iconst 1, 1) := by decide +kernel
theorem dX5_redo_144 : decode cX5_redo 144 = .ok (.iconst 3, 1) := by decide +kernel
theorem dX5_redo_145 : decode cX5_redo 145 = .ok (.iload 6, 2) := by decide +kernel
theorem dX5_redo_147 : decode cX5_redo 147 = .ok (.imul, 1) := by decide +kernel
theorem dX5_redo_148 : decode cX5_redo 148 = .ok (.iadd, 1) := by decide +kernel
theorem dX5_redo_149 : decode cX5_redo 149 = .ok (.invokevirtual 128, 3) := by decide +kernel
theorem dX5_redo_152 : decode cX5_redo 152 = .ok (.istore 7, 2) := by decide +kernel
theorem dX5_redo_154 : decode cX5_redo 154 = .ok (.aload_n 0, 1) := by decide +kernel
theorem dX5_redo_155 : decode cX5_redo 155 = .ok (.iload_n 1, 1) := by decide +kernel
theorem dX5_redo_156 : decode cX5_redo 156 = .ok (.iconst 2, 1) := by decide +kernel
theorem dX5_redo_157 : decode cX5_redo 157 = .ok (.iconst 3, 1) := by decide +kernel
theorem dX5_redo_158 : decode cX5_redo 158 = .ok (.iload 6, 2) := by decide +kernel
theorem dX5_redo_160 : decode cX5_redo 160 = .ok (.imul, 1) := by decide +kernel
theorem dX5_redo_161 : decode cX5_redo 161 = .ok (.iadd, 1) := by decide +kernel
theorem dX5_redo_162 : decode cX5_redo 162 = .ok (.invokevirtual 128, 3) := by decide +kernel
theorem dX5_redo_165 : decode cX5_redo 165 = .ok (.istore 8, 2) := by decide +kernel
theorem dX5_redo_167 : decode cX5_redo 167 = .ok (.iload 7, 2) := by decide +kernel
theorem dX5_redo_169 : decode cX5_redo 169 = .ok (.iconst 1, 1) := by decide +kernel
theorem dX5_redo_170 : decode cX5_redo 170 = .ok (.if_icmp .ne 23, 3) := by decide +kernel
theorem dX5_redo_173 : decode cX5_redo 173 = .ok (.aload_n 0, 1) := by decide +kernel
theorem dX5_redo_174 : decode cX5_redo 174 = .ok (.iload 8, 2) := by decide +kernel
theorem dX5_redo_176 : decode cX5_redo 176 = .ok (.aload_n 0, 1) := by decide +kernel
theorem dX5_redo_177 : decode cX5_redo 177 = .ok (.iload_n 1, 1) := by decide +kernel
theorem dX5_redo_178 : decode cX5_redo 178 = .ok (.iconst 3, 1) := by decide +kernel
theorem dX5_redo_179 : decode cX5_redo 179 = .ok (.iconst 3, 1) := by decide +kernel
theorem dX5_redo_180 : decode cX5_redo 180 = .ok (.iload 6, 2) := by decide +kernel
theorem dX5_redo_182 : decode cX5_redo 182 = .ok (.imul, 1) := by decide +kernel
theorem dX5_redo_183 : decode cX5_redo 183 = .ok (.iadd, 1) := by decide +kernel
theorem dX5_redo_184 : decode cX5_redo 184 = .ok (.invokevirtual 128, 3) := by decide +kernel
theorem dX5_redo_187 : decode cX5_redo 187 = .ok (.invokevirtual 132, 3) := by decide +kernel
theorem dX5_redo_190 : decode cX5_redo 190 = .ok (.goto 9, 3) := by decide +kernel
theorem dX5_redo_193 : decode cX5_redo 193 = .ok (.aload_n 0, 1) := by decide +kernel
theorem dX5_redo_194 : decode cX5_redo 194 = .ok (.iload 8, 2) := by decide +kernel
theorem dX5_redo_196 : decode cX5_redo 196 = .ok (.invokevirtual 136, 3) := by decide +kernel
theorem dX5_redo_199 : decode cX5_redo 199 = .ok (.iinc 6 1, 3) := by decide +kernel
theorem dX5_redo_202 : decode cX5_redo 202 = .ok (.goto (-67), 3) := by decide +kernel
theorem dX5_redo_205 : decode cX5_redo 205 = .ok (.iload 5, 2) := by decide +kernel
theorem dX5_redo_207 : decode cX5_redo 207 = .ok (.ireturn, 1) := by decide +kernel
theorem dX5_intAt_0 : decode cX5_intAt 0 = .ok (.aload_n 0, 1) := by decide +kernel
theorem dX5_intAt_1 : decode cX5_intAt 1 = .ok (.getfield 8, 3) := by decide +kernel
theorem dX5_intAt_4 : decode cX5_intAt 4 = .ok (.aload_n 0, 1) := by decide +kernel
theorem dX5_intAt_5 : decode cX5_intAt 5 = .ok (.getfield 42, 3) := by decide +kernel
theorem dX5_intAt_8 : decode cX5_intAt 8 = .ok (.iload_n 1, 1) := by decide +kernel
theorem dX5_intAt_9 : decode cX5_intAt 9 = .ok (.iload_n 2, 1) := by decide +kernel
theorem dX5_intAt_10 : decode cX5_intAt 10 = .ok (.aload_n 0, 1) := by decide +kernel
theorem dX5_intAt_11 : decode cX5_intAt 11 = .ok (.invokevirtual 115, 3) := by decide +kernel
theorem dX5_intAt_14 : decode cX5_intAt 14 = .ok (.idiv, 1) := by decide +kernel
theorem dX5_intAt_15 : decode cX5_intAt 15 = .ok (.iadd, 1) := by decide +kernel
theorem dX5_intAt_16 : decode cX5_intAt 16 = .ok (.imul, 1) := by decide +kernel
theorem dX5_intAt_17 : decode cX5_intAt 17 = .ok (.iconst 4, 1) := by decide +kernel
theorem dX5_intAt_18 : decode cX5_intAt 18 = .ok (.iadd, 1) := by decide +kernel
theorem dX5_intAt_19 : decode cX5_intAt 19 = .ok (.iload_n 2, 1) := by decide +kernel
theorem dX5_intAt_20 : decode cX5_intAt 20 = .ok (.aload_n 0, 1) := by decide +kernel
theorem dX5_intAt_21 : decode cX5_intAt 21 = .ok (.invokevirtual 115, 3) := by decide +kernel
theorem dX5_intAt_24 : decode cX5_intAt 24 = .ok (.irem, 1) := by decide +kernel
theorem dX5_intAt_25 : decode cX5_intAt 25 = .ok (.iadd, 1) := by decide +kernel
theorem dX5_intAt_26 : decode cX5_intAt 26 = .ok (.iaload, 1) := by decide +kernel
theorem dX5_intAt_27 : decode cX5_intAt 27 = .ok (.ireturn, 1) := by decide +kernel
theorem dX5_load_0 : decode cX5_load 0 = .ok (.aload_n 0, 1) := by decide +kernel
theorem dX5_load_1 : decode cX5_load 1 = .ok (.iconst 0, 1) := by decide +kernel
theorem dX5_load_2 : decode cX5_load 2 = .ok (.putfield 97, 3) := by decide +kernel
theorem dX5_load_5 : decode cX5_load 5 = .ok (.iload_n 1, 1) := by decide +kernel
theorem dX5_load_6 : decode cX5_load 6 = .ok (.ifCond .ne 4, 3) := by decide +kernel
theorem dX5_load_9 : decode cX5_load 9 = .ok (.return_, 1) := by decide +kernel
theorem dX5_load_10 : decode cX5_load 10 = .ok (.iload_n 1, 1) := by decide +kernel
theorem dX5_load_11 : decode cX5_load 11 = .ok (.istore_n 3, 1) := by decide +kernel
theorem dX5_load_12 : decode cX5_load 12 = .ok (.aload_n 0, 1) := by decide +kernel
theorem dX5_load_13 : decode cX5_load 13 = .ok (.getfield 8, 3) := by decide +kernel
theorem dX5_load_16 : decode cX5_load 16 = .ok (.aload_n 0, 1) := by decide +kernel
theorem dX5_load_17 : decode cX5_load 17 = .ok (.getfield 42, 3) := by decide +kernel
theorem dX5_load_20 : decode cX5_load 20 = .ok (.iload_n 3, 1) := by decide +kernel
theorem dX5_load_21 : decode cX5_load 21 = .ok (.imul, 1) := by decide +kernel
theorem dX5_load_22 : decode cX5_load 22 = .ok (.iaload, 1) := by decide +kernel
theorem dX5_load_23 : decode cX5_load 23 = .ok (.iconst 2, 1) := by decide +kernel
theorem dX5_load_24 : decode cX5_load 24 = .ok (.if_icmp .ne 20, 3) := by decide +kernel
theorem dX5_load_27 : decode cX5_load 27 = .ok (.aload_n 0, 1) := by decide +kernel
theorem dX5_load_28 : decode cX5_load 28 = .ok (.getfield 8, 3) := by decide +kernel
theorem dX5_load_31 : decode cX5_load 31 = .ok (.aload_n 0, 1) := by decide +kernel
theorem dX5_load_32 : decode cX5_load 32 = .ok (.getfield 42, 3) := by decide +kernel
theorem dX5_load_35 : decode cX5_load 35 = .ok (.iload_n 3, 1) := by decide +kernel
theorem dX5_load_36 : decode cX5_load 36 = .ok (.imul, 1) := by decide +kernel
theorem dX5_load_37 : decode cX5_load 37 = .ok (.iconst 3, 1) := by decide +kernel
theorem dX5_load_38 : decode cX5_load 38 = .ok (.iadd, 1) := by decide +kernel
theorem dX5_load_39 : decode cX5_load 39 = .ok (.iaload, 1) := by decide +kernel
theorem dX5_load_40 : decode cX5_load 40 = .ok (.istore_n 3, 1) := by decide +kernel
theorem dX5_load_41 : decode cX5_load 41 = .ok (.goto (-29), 3) := by decide +kernel
theorem dX5_load_44 : decode cX5_load 44 = .ok (.aload_n 0, 1) := by decide +kernel
theorem dX5_load_45 : decode cX5_load 45 = .ok (.getfield 97, 3) := by decide +kernel
theorem dX5_load_48 : decode cX5_load 48 = .ok (.iload_n 2, 1) := by decide +kernel
theorem dX5_load_49 : decode cX5_load 49 = .ok (.if_icmp .ge 96, 3) := by decide +kernel
theorem dX5_load_52 : decode cX5_load 52 = .ok (.aload_n 0, 1) := by decide +kernel
theorem dX5_load_53 : decode cX5_load 53 = .ok (.getfield 42, 3) := by decide +kernel
theorem dX5_load_56 : decode cX5_load 56 = .ok (.iload_n 3, 1) := by decide +kernel
theorem dX5_load_57 : decode cX5_load 57 = .ok (.imul, 1) := by decide +kernel
theorem dX5_load_58 : decode cX5_load 58 = .ok (.istore 4, 2) := by decide +kernel
theorem dX5_load_60 : decode cX5_load 60 = .ok (.iconst 0, 1) := by decide +kernel
theorem dX5_load_61 : decode cX5_load 61 = .ok (.istore 5, 2) := by decide +kernel
theorem dX5_load_63 : decode cX5_load 63 = .ok (.iload 5, 2) := by decide +kernel
theorem dX5_load_65 : decode cX5_load 65 = .ok (.aload_n 0, 1) := by decide +kernel
theorem dX5_load_66 : decode cX5_load 66 = .ok (.getfield 8, 3) := by decide +kernel
theorem dX5_load_69 : decode cX5_load 69 = .ok (.iload 4, 2) := by decide +kernel
theorem dX5_load_71 : decode cX5_load 71 = .ok (.iconst 1, 1) := by decide +kernel
theorem dX5_load_72 : decode cX5_load 72 = .ok (.iadd, 1) := by decide +kernel
theorem dX5_load_73 : decode cX5_load 73 = .ok (.iaload, 1) := by decide +kernel
theorem dX5_load_74 : decode cX5_load 74 = .ok (.if_icmp .ge 65, 3) := by decide +kernel
theorem dX5_load_77 : decode cX5_load 77 = .ok (.aload_n 0, 1) := by decide +kernel
theorem dX5_load_78 : decode cX5_load 78 = .ok (.getfield 14, 3) := by decide +kernel
theorem dX5_load_81 : decode cX5_load 81 = .ok (.aload_n 0, 1) := by decide +kernel
theorem dX5_load_82 : decode cX5_load 82 = .ok (.getfield 97, 3) := by decide +kernel
theorem dX5_load_85 : decode cX5_load 85 = .ok (.aload_n 0, 1) := by decide +kernel
theorem dX5_load_86 : decode cX5_load 86 = .ok (.getfield 8, 3) := by decide +kernel
theorem dX5_load_89 : decode cX5_load 89 = .ok (.iload 4, 2) := by decide +kernel
theorem dX5_load_91 : decode cX5_load 91 = .ok (.iconst 2, 1) := by decide +kernel
theorem dX5_load_92 : decode cX5_load 92 = .ok (.iadd, 1) := by decide +kernel
theorem dX5_load_93 : decode cX5_load 93 = .ok (.iconst 2, 1) := by decide +kernel
theorem dX5_load_94 : decode cX5_load 94 = .ok (.iload 5, 2) := by decide +kernel
theorem dX5_load_96 : decode cX5_load 96 = .ok (.imul, 1) := by decide +kernel
theorem dX5_load_97 : decode cX5_load 97 = .ok (.iadd, 1) := by decide +kernel
theorem dX5_load_98 : decode cX5_load 98 = .ok (.iaload, 1) := by decide +kernel
theorem dX5_load_99 : decode cX5_load 99 = .ok (.iastore, 1) := by decide +kernel
theorem dX5_load_100 : decode cX5_load 100 = .ok (.aload_n 0, 1) := by decide +kernel
theorem dX5_load_101 : decode cX5_load 101 = .ok (.getfield 17, 3) := by decide +kernel
theorem dX5_load_104 : decode cX5_load 104 = .ok (.aload_n 0, 1) := by decide +kernel
theorem dX5_load_105 : decode cX5_load 105 = .ok (.getfield 97, 3) := by decide +kernel
theorem dX5_load_108 : decode cX5_load 108 = .ok (.aload_n 0, 1) := by decide +kernel
theorem dX5_load_109 : decode cX5_load 109 = .ok (.getfield 8, 3) := by decide +kernel
theorem dX5_load_112 : decode cX5_load 112 = .ok (.iload 4, 2) := by decide +kernel
theorem dX5_load_114 : decode cX5_load 114 = .ok (.iconst 3, 1) := by decide +kernel
theorem dX5_load_115 : decode cX5_load 115 = .ok (.iadd, 1) := by decide +kernel
theorem dX5_load_116 : decode cX5_load 116 = .ok (.iconst 2, 1) := by decide +kernel
theorem dX5_load_117 : decode cX5_load 117 = .ok (.iload 5, 2) := by decide +kernel
theorem dX5_load_119 : decode cX5_load 119 = .ok (.imul, 1) := by decide +kernel
theorem dX5_load_120 : decode cX5_load 120 = .ok (.iadd, 1) := by decide +kernel
theorem dX5_load_121 : decode cX5_load 121 = .ok (.iaload, 1) := by decide +kernel
theorem dX5_load_122 : decode cX5_load 122 = .ok (.iastore, 1) := by decide +kernel
theorem dX5_load_123 : decode cX5_load 123 = .ok (.aload_n 0, 1) := by decide +kernel
theorem dX5_load_124 : decode cX5_load 124 = .ok (.dup, 1) := by decide +kernel
theorem dX5_load_125 : decode cX5_load 125 = .ok (.getfield 97, 3) := by decide +kernel
theorem dX5_load_128 : decode cX5_load 128 = .ok (.iconst 1, 1) := by decide +kernel
theorem dX5_load_129 : decode cX5_load 129 = .ok (.iadd, 1) := by decide +kernel
theorem dX5_load_130 : decode cX5_load 130 = .ok (.putfield 97, 3) := by decide +kernel
theorem dX5_load_133 : decode cX5_load 133 = .ok (.iinc 5 1, 3) := by decide +kernel
theorem dX5_load_136 : decode cX5_load 136 = .ok (.goto (-73), 3) := by decide +kernel
theorem dX5_load_139 : decode cX5_load 139 = .ok (.iinc 3 1, 3) := by decide +kernel
theorem dX5_load_142 : decode cX5_load 142 = .ok (.goto (-98), 3) := by decide +kernel
theorem dX5_load_145 : decode cX5_load 145 = .ok (.return_, 1) := by decide +kernel
theorem dX5_recover_0 : decode cX5_recover 0 = .ok (.aload_n 0, 1) := by decide +kernel
theorem dX5_recover_1 : decode cX5_recover 1 = .ok (.getfield 53, 3) := by decide +kernel
theorem dX5_recover_4 : decode cX5_recover 4 = .ok (.ifCond .ne 6, 3) := by decide +kernel
theorem dX5_recover_7 : decode cX5_recover 7 = .ok (.bipush (-7), 2) := by decide +kernel
theorem dX5_recover_9 : decode cX5_recover 9 = .ok (.ireturn, 1) := by decide +kernel
theorem dX5_recover_10 : decode cX5_recover 10 = .ok (.aload_n 0, 1) := by decide +kernel
theorem dX5_recover_11 : decode cX5_recover 11 = .ok (.iconst 0, 1) := by decide +kernel
theorem dX5_recover_12 : decode cX5_recover 12 = .ok (.putfield 56, 3) := by decide +kernel
theorem dX5_recover_15 : decode cX5_recover 15 = .ok (.aload_n 0, 1) := by decide +kernel
theorem dX5_recover_16 : decode cX5_recover 16 = .ok (.iconst 0, 1) := by decide +kernel
theorem dX5_recover_17 : decode cX5_recover 17 = .ok (.invokevirtual 110, 3) := by decide +kernel
theorem dX5_recover_20 : decode cX5_recover 20 = .ok (.ifCond .eq 14, 3) := by decide +kernel
theorem dX5_recover_23 : decode cX5_recover 23 = .ok (.aload_n 0, 1) := by decide +kernel
theorem dX5_recover_24 : decode cX5_recover 24 = .ok (.getfield 8, 3) := by decide +kernel
theorem dX5_recover_27 : decode cX5_recover 27 = .ok (.iconst 0, 1) := by decide +kernel
theorem dX5_recover_28 : decode cX5_recover 28 = .ok (.iaload, 1) := by decide +kernel
theorem dX5_recover_29 : decode cX5_recover 29 = .ok (.ldc 66, 2) := by decide +kernel
theorem dX5_recover_31 : decode cX5_recover 31 = .ok (.if_icmp .eq 11, 3) := by decide +kernel
theorem dX5_recover_34 : decode cX5_recover 34 = .ok (.aload_n 0, 1) := by decide +kernel
theorem dX5_recover_35 : decode cX5_recover 35 = .ok (.iconst 1, 1) := by decide +kernel
theorem dX5_recover_36 : decode cX5_recover 36 = .ok (.putfield 53, 3) := by decide +kernel
theorem dX5_recover_39 : decode cX5_recover 39 = .ok (.bipush (-2), 2) := by decide +kernel
theorem dX5_recover_41 : decode cX5_recover 41 = .ok (.ireturn, 1) := by decide +kernel
theorem dX5_recover_42 : decode cX5_recover 42 = .ok (.aload_n 0, 1) := by decide +kernel
theorem dX5_recover_43 : decode cX5_recover 43 = .ok (.aload_n 0, 1) := by decide +kernel
theorem dX5_recover_44 : decode cX5_recover 44 = .ok (.getfield 8, 3) := by decide +kernel
theorem dX5_recover_47 : decode cX5_recover 47 = .ok (.iconst 1, 1) := by decide +kernel
theorem dX5_recover_48 : decode cX5_recover 48 = .ok (.iaload, 1) := by decide +kernel
theorem dX5_recover_49 : decode cX5_recover 49 = .ok (.putfield 85, 3) := by decide +kernel
theorem dX5_recover_52 : decode cX5_recover 52 = .ok (.aload_n 0, 1) := by decide +kernel
theorem dX5_recover_53 : decode cX5_recover 53 = .ok (.aload_n 0, 1) := by decide +kernel
theorem dX5_recover_54 : decode cX5_recover 54 = .ok (.getfield 8, 3) := by decide +kernel
theorem dX5_recover_57 : decode cX5_recover 57 = .ok (.iconst 2, 1) := by decide +kernel
theorem dX5_recover_58 : decode cX5_recover 58 = .ok (.iaload, 1) := by decide +kernel
theorem dX5_recover_59 : decode cX5_recover 59 = .ok (.iconst 1, 1) := by decide +kernel
theorem dX5_recover_60 : decode cX5_recover 60 = .ok (.iadd, 1) := by decide +kernel
theorem dX5_recover_61 : decode cX5_recover 61 = .ok (.putfield 88, 3) := by decide +kernel
theorem dX5_recover_64 : decode cX5_recover 64 = .ok (.aload_n 0, 1) := by decide +kernel
theorem dX5_recover_65 : decode cX5_recover 65 = .ok (.aload_n 0, 1) := by decide +kernel
theorem dX5_recover_66 : decode cX5_recover 66 = .ok (.getfield 8, 3) := by decide +kernel
theorem dX5_recover_69 : decode cX5_recover 69 = .ok (.iconst 4, 1) := by decide +kernel
theorem dX5_recover_70 : decode cX5_recover 70 = .ok (.iaload, 1) := by decide +kernel
theorem dX5_recover_71 : decode cX5_recover 71 = .ok (.aload_n 0, 1) := by decide +kernel
theorem dX5_recover_72 : decode cX5_recover 72 = .ok (.getfield 8, 3) := by decide +kernel
theorem dX5_recover_75 : decode cX5_recover 75 = .ok (.iconst 5, 1) := by decide +kernel
theorem dX5_recover_76 : decode cX5_recover 76 = .ok (.iaload, 1) := by decide +kernel
theorem dX5_recover_77 : decode cX5_recover 77 = .ok (.invokevirtual 140, 3) := by decide +kernel
theorem dX5_recover_80 : decode cX5_recover 80 = .ok (.aload_n 0, 1) := by decide +kernel
theorem dX5_recover_81 : decode cX5_recover 81 = .ok (.iconst 0, 1) := by decide +kernel
theorem dX5_recover_82 : decode cX5_recover 82 = .ok (.putfield 91, 3) := by decide +kernel
theorem dX5_recover_85 : decode cX5_recover 85 = .ok (.aload_n 0, 1) := by decide +kernel
theorem dX5_recover_86 : decode cX5_recover 86 = .ok (.iconst 0, 1) := by decide +kernel
theorem dX5_recover_87 : decode cX5_recover 87 = .ok (.putfield 94, 3) := by decide +kernel
theorem dX5_recover_90 : decode cX5_recover 90 = .ok (.aload_n 0, 1) := by decide +kernel
theorem dX5_recover_91 : decode cX5_recover 91 = .ok (.iconst 1, 1) := by decide +kernel
theorem dX5_recover_92 : decode cX5_recover 92 = .ok (.iconst 1, 1) := by decide +kernel
theorem dX5_recover_93 : decode cX5_recover 93 = .ok (.invokevirtual 143, 3) := by decide +kernel
theorem dX5_recover_96 : decode cX5_recover 96 = .ok (.istore_n 1, 1) := by decide +kernel
theorem dX5_recover_97 : decode cX5_recover 97 = .ok (.iload_n 1, 1) := by decide +kernel
theorem dX5_recover_98 : decode cX5_recover 98 = .ok (.ifCond .le 43, 3) := by decide +kernel
theorem dX5_recover_101 : decode cX5_recover 101 = .ok (.aload_n 0, 1) := by decide +kernel
theorem dX5_recover_102 : decode cX5_recover 102 = .ok (.dup, 1) := by decide +kernel
theorem dX5_recover_103 : decode cX5_recover 103 = .ok (.getfield 91, 3) := by decide +kernel
theorem dX5_recover_106 : decode cX5_recover 106 = .ok (.iload_n 1, 1) := by decide +kernel
theorem dX5_recover_107 : decode cX5_recover 107 = .ok (.iadd, 1) := by decide +kernel
theorem dX5_recover_108 : decode cX5_recover 108 = .ok (.putfield 91, 3) := by decide +kernel
theorem dX5_recover_111 : decode cX5_recover 111 = .ok (.aload_n 0, 1) := by decide +kernel
theorem dX5_recover_112 : decode cX5_recover 112 = .ok (.dup, 1) := by decide +kernel
theorem dX5_recover_113 : decode cX5_recover 113 = .ok (.getfield 94, 3) := by decide +kernel
theorem dX5_recover_116 : decode cX5_recover 116 = .ok (.iconst 1, 1) := by decide +kernel
theorem dX5_recover_117 : decode cX5_recover 117 = .ok (.iadd, 1) := by decide +kernel
theorem dX5_recover_118 : decode cX5_recover 118 = .ok (.putfield 94, 3) := by decide +kernel
theorem dX5_recover_121 : decode cX5_recover 121 = .ok (.aload_n 0, 1) := by decide +kernel
theorem dX5_recover_122 : decode cX5_recover 122 = .ok (.iconst 1, 1) := by decide +kernel
theorem dX5_recover_123 : decode cX5_recover 123 = .ok (.aload_n 0, 1) := by decide +kernel
theorem dX5_recover_124 : decode cX5_recover 124 = .ok (.getfield 91, 3) := by decide +kernel
theorem dX5_recover_127 : decode cX5_recover 127 = .ok (.iadd, 1) := by decide +kernel
theorem dX5_recover_128 : decode cX5_recover 128 = .ok (.aload_n 0, 1) := by decide +kernel
theorem dX5_recover_129 : decode cX5_recover 129 = .ok (.getfield 94, 3) := by decide +kernel
theorem dX5_recover_132 : decode cX5_recover 132 = .ok (.iconst 1, 1) := by decide +kernel
theorem dX5_recover_133 : decode cX5_recover 133 = .ok (.iadd, 1) := by decide +kernel
theorem dX5_recover_134 : decode cX5_recover 134 = .ok (.invokevirtual 143, 3) := by decide +kernel
theorem dX5_recover_137 : decode cX5_recover 137 = .ok (.istore_n 1, 1) := by decide +kernel
theorem dX5_recover_138 : decode cX5_recover 138 = .ok (.goto (-41), 3) := by decide +kernel
theorem dX5_recover_141 : decode cX5_recover 141 = .ok (.aload_n 0, 1) := by decide +kernel
theorem dX5_recover_142 : decode cX5_recover 142 = .ok (.aload_n 0, 1) := by decide +kernel
theorem dX5_recover_143 : decode cX5_recover 143 = .ok (.getfield 85, 3) := by decide +kernel
theorem dX5_recover_146 : decode cX5_recover 146 = .ok (.aload_n 0, 1) := by decide +kernel
theorem dX5_recover_147 : decode cX5_recover 147 = .ok (.getfield 88, 3) := by decide +kernel
theorem dX5_recover_150 : decode cX5_recover 150 = .ok (.aload_n 0, 1) := by decide +kernel
theorem dX5_recover_151 : decode cX5_recover 151 = .ok (.getfield 8, 3) := by decide +kernel
theorem dX5_recover_154 : decode cX5_recover 154 = .ok (.iconst 3, 1) := by decide +kernel
theorem dX5_recover_155 : decode cX5_recover 155 = .ok (.iaload, 1) := by decide +kernel
theorem dX5_recover_156 : decode cX5_recover 156 = .ok (.aload_n 0, 1) := by decide +kernel
theorem dX5_recover_157 : decode cX5_recover 157 = .ok (.getfield 8, 3) := by decide +kernel
theorem dX5_recover_160 : decode cX5_recover 160 = .ok (.iconst 4, 1) := by decide +kernel
theorem dX5_recover_161 : decode cX5_recover 161 = .ok (.iaload, 1) := by decide +kernel
theorem dX5_recover_162 : decode cX5_recover 162 = .ok (.aload_n 0, 1) := by decide +kernel
theorem dX5_recover_163 : decode cX5_recover 163 = .ok (.getfield 8, 3) := by decide +kernel
theorem dX5_recover_166 : decode cX5_recover 166 = .ok (.iconst 5, 1) := by decide +kernel
theorem dX5_recover_167 : decode cX5_recover 167 = .ok (.iaload, 1) := by decide +kernel
theorem dX5_recover_168 : decode cX5_recover 168 = .ok (.invokevirtual 81, 3) := by decide +kernel
theorem dX5_recover_171 : decode cX5_recover 171 = .ok (.ifCond .ne 5, 3) := by decide +kernel
theorem dX5_recover_174 : decode cX5_recover 174 = .ok (.iconst (-1), 1) := by decide +kernel
theorem dX5_recover_175 : decode cX5_recover 175 = .ok (.ireturn, 1) := by decide +kernel
theorem dX5_recover_176 : decode cX5_recover 176 = .ok (.aload_n 0, 1) := by decide +kernel
theorem dX5_recover_177 : decode cX5_recover 177 = .ok (.iconst 2, 1) := by decide +kernel
theorem dX5_recover_178 : decode cX5_recover 178 = .ok (.putfield 53, 3) := by decide +kernel
theorem dX5_recover_181 : decode cX5_recover 181 = .ok (.iconst 0, 1) := by decide +kernel
theorem dX5_recover_182 : decode cX5_recover 182 = .ok (.ireturn, 1) := by decide +kernel
theorem dX5_begin_0 : decode cX5_begin 0 = .ok (.aload_n 0, 1) := by decide +kernel
theorem dX5_begin_1 : decode cX5_begin 1 = .ok (.getfield 53, 3) := by decide +kernel
theorem dX5_begin_4 : decode cX5_begin 4 = .ok (.iconst 2, 1) := by decide +kernel
theorem dX5_begin_5 : decode cX5_begin 5 = .ok (.if_icmp .eq 8, 3) := by decide +kernel
theorem dX5_begin_8 : decode cX5_begin 8 = .ok (.aload_n 0, 1) := by decide +kernel
theorem dX5_begin_9 : decode cX5_begin 9 = .ok (.invokevirtual 77, 3) := by decide +kernel
theorem dX5_begin_12 : decode cX5_begin 12 = .ok (.ireturn, 1) := by decide +kernel
theorem dX5_begin_13 : decode cX5_begin 13 = .ok (.aload_n 0, 1) := by decide +kernel
theorem dX5_begin_14 : decode cX5_begin 14 = .ok (.getfield 56, 3) := by decide +kernel
theorem dX5_begin_17 : decode cX5_begin 17 = .ok (.ifCond .eq 6, 3) := by decide +kernel
theorem dX5_begin_20 : decode cX5_begin 20 = .ok (.bipush (-4), 2) := by decide +kernel
theorem dX5_begin_22 : decode cX5_begin 22 = .ok (.ireturn, 1) := by decide +kernel
theorem dX5_begin_23 : decode cX5_begin 23 = .ok (.aload_n 0, 1) := by decide +kernel
theorem dX5_begin_24 : decode cX5_begin 24 = .ok (.iconst 1, 1) := by decide +kernel
theorem dX5_begin_25 : decode cX5_begin 25 = .ok (.putfield 56, 3) := by decide +kernel
theorem dX5_begin_28 : decode cX5_begin 28 = .ok (.aload_n 0, 1) := by decide +kernel
theorem dX5_begin_29 : decode cX5_begin 29 = .ok (.iconst 0, 1) := by decide +kernel
theorem dX5_begin_30 : decode cX5_begin 30 = .ok (.putfield 104, 3) := by decide +kernel
theorem dX5_begin_33 : decode cX5_begin 33 = .ok (.iconst 0, 1) := by decide +kernel
theorem dX5_begin_34 : decode cX5_begin 34 = .ok (.ireturn, 1) := by decide +kernel
theorem dX5_change_0 : decode cX5_change 0 = .ok (.aload_n 0, 1) := by decide +kernel
theorem dX5_change_1 : decode cX5_change 1 = .ok (.iload_n 1, 1) := by decide +kernel
theorem dX5_change_2 : decode cX5_change 2 = .ok (.invokevirtual 107, 3) := by decide +kernel
theorem dX5_change_5 : decode cX5_change 5 = .ok (.istore 4, 2) := by decide +kernel
theorem dX5_change_7 : decode cX5_change 7 = .ok (.iload 4, 2) := by decide +kernel
theorem dX5_change_9 : decode cX5_change 9 = .ok (.aload_n 0, 1) := by decide +kernel
theorem dX5_change_10 : decode cX5_change 10 = .ok (.getfield 104, 3) := by decide +kernel
theorem dX5_change_13 : decode cX5_change 13 = .ok (.if_icmp .eq 14, 3) := by decide +kernel
theorem dX5_change_16 : decode cX5_change 16 = .ok (.aload_n 0, 1) := by decide +kernel
theorem dX5_change_17 : decode cX5_change 17 = .ok (.getfield 20, 3) := by decide +kernel
theorem dX5_change_20 : decode cX5_change 20 = .ok (.iload 4, 2) := by decide +kernel
theorem dX5_change_22 : decode cX5_change 22 = .ok (.iaload, 1) := by decide +kernel
theorem dX5_change_23 : decode cX5_change 23 = .ok (.iload_n 1, 1) := by decide +kernel
theorem dX5_change_24 : decode cX5_change 24 = .ok (.if_icmp .eq 101, 3) := by decide +kernel
theorem dX5_change_27 : decode cX5_change 27 = .ok (.aload_n 0, 1) := by decide +kernel
theorem dX5_change_28 : decode cX5_change 28 = .ok (.getfield 104, 3) := by decide +kernel
theorem dX5_change_31 : decode cX5_change 31 = .ok (.sipush 600, 3) := by decide +kernel
theorem dX5_change_34 : decode cX5_change 34 = .ok (.if_icmp .ne 6, 3) := by decide +kernel
theorem dX5_change_37 : decode cX5_change 37 = .ok (.bipush (-6), 2) := by decide +kernel
theorem dX5_change_39 : decode cX5_change 39 = .ok (.ireturn, 1) := by decide +kernel
theorem dX5_change_40 : decode cX5_change 40 = .ok (.aload_n 0, 1) := by decide +kernel
theorem dX5_change_41 : decode cX5_change 41 = .ok (.getfield 104, 3) := by decide +kernel
theorem dX5_change_44 : decode cX5_change 44 = .ok (.istore 5, 2) := by decide +kernel
theorem dX5_change_46 : decode cX5_change 46 = .ok (.iload 5, 2) := by decide +kernel
theorem dX5_change_48 : decode cX5_change 48 = .ok (.iload 4, 2) := by decide +kernel
theorem dX5_change_50 : decode cX5_change 50 = .ok (.if_icmp .le 57, 3) := by decide +kernel
theorem dX5_change_53 : decode cX5_change 53 = .ok (.aload_n 0, 1) := by decide +kernel
theorem dX5_change_54 : decode cX5_change 54 = .ok (.getfield 20, 3) := by decide +kernel
theorem dX5_change_57 : decode cX5_change 57 = .ok (.iload 5, 2) := by decide +kernel
theorem dX5_change_59 : decode cX5_change 59 = .ok (.aload_n 0, 1) := by decide +kernel
theorem dX5_change_60 : decode cX5_change 60 = .ok (.getfield 20, 3) := by decide +kernel
theorem dX5_change_63 : decode cX5_change 63 = .ok (.iload 5, 2) := by decide +kernel
theorem dX5_change_65 : decode cX5_change 65 = .ok (.iconst 1, 1) := by decide +kernel
theorem dX5_change_66 : decode cX5_change 66 = .ok (.isub, 1) := by decide +kernel
theorem dX5_change_67 : decode cX5_change 67 = .ok (.iaload, 1) := by decide +kernel
theorem dX5_change_68 : decode cX5_change 68 = .ok (.iastore, 1) := by decide +kernel
theorem dX5_change_69 : decode cX5_change 69 = .ok (.aload_n 0, 1) := by decide +kernel
theorem dX5_change_70 : decode cX5_change 70 = .ok (.getfield 23, 3) := by decide +kernel
theorem dX5_change_73 : decode cX5_change 73 = .ok (.iload 5, 2) := by decide +kernel
theorem dX5_change_75 : decode cX5_change 75 = .ok (.aload_n 0, 1) := by decide +kernel
theorem dX5_change_76 : decode cX5_change 76 = .ok (.getfield 23, 3) := by decide +kernel
