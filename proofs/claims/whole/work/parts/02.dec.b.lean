theorem dX4_init_0 : decode cX4_init 0 = .ok (.aload_n 0, 1) := by decide +kernel
theorem dX4_init_1 : decode cX4_init 1 = .ok (.invokespecial 1, 3) := by decide +kernel
theorem dX4_init_4 : decode cX4_init 4 = .ok (.aload_n 0, 1) := by decide +kernel
theorem dX4_init_5 : decode cX4_init 5 = .ok (.new 7, 3) := by decide +kernel
theorem dX4_init_8 : decode cX4_init 8 = .ok (.dup, 1) := by decide +kernel
theorem dX4_init_9 : decode cX4_init 9 = .ok (.invokespecial 9, 3) := by decide +kernel
theorem dX4_init_12 : decode cX4_init 12 = .ok (.putfield 10, 3) := by decide +kernel
theorem dX4_init_15 : decode cX4_init 15 = .ok (.aload_n 0, 1) := by decide +kernel
theorem dX4_init_16 : decode cX4_init 16 = .ok (.new 16, 3) := by decide +kernel
theorem dX4_init_19 : decode cX4_init 19 = .ok (.dup, 1) := by decide +kernel
theorem dX4_init_20 : decode cX4_init 20 = .ok (.aload_n 0, 1) := by decide +kernel
theorem dX4_init_21 : decode cX4_init 21 = .ok (.getfield 10, 3) := by decide +kernel
theorem dX4_init_24 : decode cX4_init 24 = .ok (.invokespecial 18, 3) := by decide +kernel
theorem dX4_init_27 : decode cX4_init 27 = .ok (.putfield 21, 3) := by decide +kernel
theorem dX4_init_30 : decode cX4_init 30 = .ok (.aload_n 0, 1) := by decide +kernel
theorem dX4_init_31 : decode cX4_init 31 = .ok (.new 25, 3) := by decide +kernel
theorem dX4_init_34 : decode cX4_init 34 = .ok (.dup, 1) := by decide +kernel
theorem dX4_init_35 : decode cX4_init 35 = .ok (.aload_n 0, 1) := by decide +kernel
theorem dX4_init_36 : decode cX4_init 36 = .ok (.getfield 10, 3) := by decide +kernel
theorem dX4_init_39 : decode cX4_init 39 = .ok (.invokespecial 27, 3) := by decide +kernel
theorem dX4_init_42 : decode cX4_init 42 = .ok (.putfield 28, 3) := by decide +kernel
theorem dX4_init_45 : decode cX4_init 45 = .ok (.aload_n 0, 1) := by decide +kernel
theorem dX4_init_46 : decode cX4_init 46 = .ok (.new 32, 3) := by decide +kernel
theorem dX4_init_49 : decode cX4_init 49 = .ok (.dup, 1) := by decide +kernel
theorem dX4_init_50 : decode cX4_init 50 = .ok (.sipush 8700, 3) := by decide +kernel
theorem dX4_init_53 : decode cX4_init 53 = .ok (.invokespecial 34, 3) := by decide +kernel
theorem dX4_init_56 : decode cX4_init 56 = .ok (.putfield 37, 3) := by decide +kernel
theorem dX4_init_59 : decode cX4_init 59 = .ok (.aload_n 0, 1) := by decide +kernel
theorem dX4_init_60 : decode cX4_init 60 = .ok (.new 32, 3) := by decide +kernel
theorem dX4_init_63 : decode cX4_init 63 = .ok (.dup, 1) := by decide +kernel
theorem dX4_init_64 : decode cX4_init 64 = .ok (.sipush 8700, 3) := by decide +kernel
theorem dX4_init_67 : decode cX4_init 67 = .ok (.invokespecial 34, 3) := by decide +kernel
theorem dX4_init_70 : decode cX4_init 70 = .ok (.putfield 41, 3) := by decide +kernel
theorem dX4_init_73 : decode cX4_init 73 = .ok (.aload_n 0, 1) := by decide +kernel
theorem dX4_init_74 : decode cX4_init 74 = .ok (.new 32, 3) := by decide +kernel
theorem dX4_init_77 : decode cX4_init 77 = .ok (.dup, 1) := by decide +kernel
theorem dX4_init_78 : decode cX4_init 78 = .ok (.sipush 600, 3) := by decide +kernel
theorem dX4_init_81 : decode cX4_init 81 = .ok (.invokespecial 34, 3) := by decide +kernel
theorem dX4_init_84 : decode cX4_init 84 = .ok (.putfield 44, 3) := by decide +kernel
theorem dX4_init_87 : decode cX4_init 87 = .ok (.aload_n 0, 1) := by decide +kernel
theorem dX4_init_88 : decode cX4_init 88 = .ok (.iconst 0, 1) := by decide +kernel
theorem dX4_init_89 : decode cX4_init 89 = .ok (.putfield 47, 3) := by decide +kernel
theorem dX4_init_92 : decode cX4_init 92 = .ok (.aload_n 0, 1) := by decide +kernel
theorem dX4_init_93 : decode cX4_init 93 = .ok (.iconst 0, 1) := by decide +kernel
theorem dX4_init_94 : decode cX4_init 94 = .ok (.putfield 51, 3) := by decide +kernel
theorem dX4_init_97 : decode cX4_init 97 = .ok (.return_, 1) := by decide +kernel
theorem dX4_disk_0 : decode cX4_disk 0 = .ok (.iload_n 1, 1) := by decide +kernel
theorem dX4_disk_1 : decode cX4_disk 1 = .ok (.bipush 16, 2) := by decide +kernel
theorem dX4_disk_3 : decode cX4_disk 3 = .ok (.if_icmp .lt 10, 3) := by decide +kernel
theorem dX4_disk_6 : decode cX4_disk 6 = .ok (.iload_n 1, 1) := by decide +kernel
theorem dX4_disk_7 : decode cX4_disk 7 = .ok (.sipush 512, 3) := by decide +kernel
theorem dX4_disk_10 : decode cX4_disk 10 = .ok (.if_icmp .le 5, 3) := by decide +kernel
theorem dX4_disk_13 : decode cX4_disk 13 = .ok (.iconst 0, 1) := by decide +kernel
theorem dX4_disk_14 : decode cX4_disk 14 = .ok (.ireturn, 1) := by decide +kernel
theorem dX4_disk_15 : decode cX4_disk 15 = .ok (.iload_n 2, 1) := by decide +kernel
theorem dX4_disk_16 : decode cX4_disk 16 = .ok (.bipush 16, 2) := by decide +kernel
theorem dX4_disk_18 : decode cX4_disk 18 = .ok (.if_icmp .lt 9, 3) := by decide +kernel
theorem dX4_disk_21 : decode cX4_disk 21 = .ok (.iload_n 2, 1) := by decide +kernel
theorem dX4_disk_22 : decode cX4_disk 22 = .ok (.bipush 64, 2) := by decide +kernel
theorem dX4_disk_24 : decode cX4_disk 24 = .ok (.if_icmp .le 5, 3) := by decide +kernel
theorem dX4_disk_27 : decode cX4_disk 27 = .ok (.iconst 0, 1) := by decide +kernel
theorem dX4_disk_28 : decode cX4_disk 28 = .ok (.ireturn, 1) := by decide +kernel
theorem dX4_disk_29 : decode cX4_disk 29 = .ok (.iload_n 3, 1) := by decide +kernel
theorem dX4_disk_30 : decode cX4_disk 30 = .ok (.iconst 4, 1) := by decide +kernel
theorem dX4_disk_31 : decode cX4_disk 31 = .ok (.if_icmp .lt 19, 3) := by decide +kernel
theorem dX4_disk_34 : decode cX4_disk 34 = .ok (.iload_n 3, 1) := by decide +kernel
theorem dX4_disk_35 : decode cX4_disk 35 = .ok (.sipush 128, 3) := by decide +kernel
theorem dX4_disk_38 : decode cX4_disk 38 = .ok (.if_icmp .gt 12, 3) := by decide +kernel
theorem dX4_disk_41 : decode cX4_disk 41 = .ok (.iload_n 1, 1) := by decide +kernel
theorem dX4_disk_42 : decode cX4_disk 42 = .ok (.iconst 1, 1) := by decide +kernel
theorem dX4_disk_43 : decode cX4_disk 43 = .ok (.isub, 1) := by decide +kernel
theorem dX4_disk_44 : decode cX4_disk 44 = .ok (.iload_n 3, 1) := by decide +kernel
theorem dX4_disk_45 : decode cX4_disk 45 = .ok (.isub, 1) := by decide +kernel
theorem dX4_disk_46 : decode cX4_disk 46 = .ok (.iconst 4, 1) := by decide +kernel
theorem dX4_disk_47 : decode cX4_disk 47 = .ok (.if_icmp .ge 5, 3) := by decide +kernel
theorem dX4_disk_50 : decode cX4_disk 50 = .ok (.iconst 0, 1) := by decide +kernel
theorem dX4_disk_51 : decode cX4_disk 51 = .ok (.ireturn, 1) := by decide +kernel
theorem dX4_disk_52 : decode cX4_disk 52 = .ok (.aload_n 0, 1) := by decide +kernel
theorem dX4_disk_53 : decode cX4_disk 53 = .ok (.getfield 10, 3) := by decide +kernel
theorem dX4_disk_56 : decode cX4_disk 56 = .ok (.iload_n 1, 1) := by decide +kernel
theorem dX4_disk_57 : decode cX4_disk 57 = .ok (.iload_n 2, 1) := by decide +kernel
theorem dX4_disk_58 : decode cX4_disk 58 = .ok (.invokevirtual 55, 3) := by decide +kernel
theorem dX4_disk_61 : decode cX4_disk 61 = .ok (.aload_n 0, 1) := by decide +kernel
theorem dX4_disk_62 : decode cX4_disk 62 = .ok (.getfield 21, 3) := by decide +kernel
theorem dX4_disk_65 : decode cX4_disk 65 = .ok (.iload_n 3, 1) := by decide +kernel
theorem dX4_disk_66 : decode cX4_disk 66 = .ok (.invokevirtual 59, 3) := by decide +kernel
theorem dX4_disk_69 : decode cX4_disk 69 = .ok (.aload_n 0, 1) := by decide +kernel
theorem dX4_disk_70 : decode cX4_disk 70 = .ok (.getfield 28, 3) := by decide +kernel
theorem dX4_disk_73 : decode cX4_disk 73 = .ok (.iload_n 3, 1) := by decide +kernel
theorem dX4_disk_74 : decode cX4_disk 74 = .ok (.iconst 1, 1) := by decide +kernel
theorem dX4_disk_75 : decode cX4_disk 75 = .ok (.iadd, 1) := by decide +kernel
theorem dX4_disk_76 : decode cX4_disk 76 = .ok (.iload_n 1, 1) := by decide +kernel
theorem dX4_disk_77 : decode cX4_disk 77 = .ok (.iconst 1, 1) := by decide +kernel
theorem dX4_disk_78 : decode cX4_disk 78 = .ok (.isub, 1) := by decide +kernel
theorem dX4_disk_79 : decode cX4_disk 79 = .ok (.iload_n 3, 1) := by decide +kernel
theorem dX4_disk_80 : decode cX4_disk 80 = .ok (.isub, 1) := by decide +kernel
theorem dX4_disk_81 : decode cX4_disk 81 = .ok (.iconst 2, 1) := by decide +kernel
theorem dX4_disk_82 : decode cX4_disk 82 = .ok (.idiv, 1) := by decide +kernel
theorem dX4_disk_83 : decode cX4_disk 83 = .ok (.invokevirtual 62, 3) := by decide +kernel
theorem dX4_disk_86 : decode cX4_disk 86 = .ok (.aload_n 0, 1) := by decide +kernel
theorem dX4_disk_87 : decode cX4_disk 87 = .ok (.iconst 1, 1) := by decide +kernel
theorem dX4_disk_88 : decode cX4_disk 88 = .ok (.putfield 47, 3) := by decide +kernel
theorem dX4_disk_91 : decode cX4_disk 91 = .ok (.iconst 1, 1) := by decide +kernel
theorem dX4_disk_92 : decode cX4_disk 92 = .ok (.ireturn, 1) := by decide +kernel
theorem dX4_format_0 : decode cX4_format 0 = .ok (.aload_n 0, 1) := by decide +kernel
theorem dX4_format_1 : decode cX4_format 1 = .ok (.getfield 47, 3) := by decide +kernel
theorem dX4_format_4 : decode cX4_format 4 = .ok (.iconst 1, 1) := by decide +kernel
theorem dX4_format_5 : decode cX4_format 5 = .ok (.if_icmp .eq 16, 3) := by decide +kernel
theorem dX4_format_8 : decode cX4_format 8 = .ok (.aload_n 0, 1) := by decide +kernel
theorem dX4_format_9 : decode cX4_format 9 = .ok (.getfield 47, 3) := by decide +kernel
theorem dX4_format_12 : decode cX4_format 12 = .ok (.iconst 2, 1) := by decide +kernel
theorem dX4_format_13 : decode cX4_format 13 = .ok (.if_icmp .eq 8, 3) := by decide +kernel
theorem dX4_format_16 : decode cX4_format 16 = .ok (.aload_n 0, 1) := by decide +kernel
theorem dX4_format_17 : decode cX4_format 17 = .ok (.invokevirtual 64, 3) := by decide +kernel
theorem dX4_format_20 : decode cX4_format 20 = .ok (.ireturn, 1) := by decide +kernel
theorem dX4_format_21 : decode cX4_format 21 = .ok (.aload_n 0, 1) := by decide +kernel
theorem dX4_format_22 : decode cX4_format 22 = .ok (.getfield 10, 3) := by decide +kernel
theorem dX4_format_25 : decode cX4_format 25 = .ok (.iconst 0, 1) := by decide +kernel
theorem dX4_format_26 : decode cX4_format 26 = .ok (.iconst 1, 1) := by decide +kernel
theorem dX4_format_27 : decode cX4_format 27 = .ok (.invokevirtual 68, 3) := by decide +kernel
theorem dX4_format_30 : decode cX4_format 30 = .ok (.iconst 1, 1) := by decide +kernel
theorem dX4_format_31 : decode cX4_format 31 = .ok (.iadd, 1) := by decide +kernel
theorem dX4_format_32 : decode cX4_format 32 = .ok (.istore_n 1, 1) := by decide +kernel
theorem dX4_format_33 : decode cX4_format 33 = .ok (.aload_n 0, 1) := by decide +kernel
theorem dX4_format_34 : decode cX4_format 34 = .ok (.getfield 10, 3) := by decide +kernel
theorem dX4_format_37 : decode cX4_format 37 = .ok (.invokevirtual 72, 3) := by decide +kernel
theorem dX4_format_40 : decode cX4_format 40 = .ok (.aload_n 0, 1) := by decide +kernel
theorem dX4_format_41 : decode cX4_format 41 = .ok (.getfield 10, 3) := by decide +kernel
theorem dX4_format_44 : decode cX4_format 44 = .ok (.iconst 1, 1) := by decide +kernel
theorem dX4_format_45 : decode cX4_format 45 = .ok (.iload_n 1, 1) := by decide +kernel
theorem dX4_format_46 : decode cX4_format 46 = .ok (.invokevirtual 75, 3) := by decide +kernel
theorem dX4_format_49 : decode cX4_format 49 = .ok (.aload_n 0, 1) := by decide +kernel
theorem dX4_format_50 : decode cX4_format 50 = .ok (.getfield 10, 3) := by decide +kernel
theorem dX4_format_53 : decode cX4_format 53 = .ok (.iconst 0, 1) := by decide +kernel
theorem dX4_format_54 : decode cX4_format 54 = .ok (.invokevirtual 78, 3) := by decide +kernel
theorem dX4_format_57 : decode cX4_format 57 = .ok (.ifCond .ne 8, 3) := by decide +kernel
theorem dX4_format_60 : decode cX4_format 60 = .ok (.aload_n 0, 1) := by decide +kernel
theorem dX4_format_61 : decode cX4_format 61 = .ok (.invokevirtual 82, 3) := by decide +kernel
theorem dX4_format_64 : decode cX4_format 64 = .ok (.ireturn, 1) := by decide +kernel
theorem dX4_format_65 : decode cX4_format 65 = .ok (.aload_n 0, 1) := by decide +kernel
theorem dX4_format_66 : decode cX4_format 66 = .ok (.iload_n 1, 1) := by decide +kernel
theorem dX4_format_67 : decode cX4_format 67 = .ok (.iconst 1, 1) := by decide +kernel
theorem dX4_format_68 : decode cX4_format 68 = .ok (.iconst 0, 1) := by decide +kernel
theorem dX4_format_69 : decode cX4_format 69 = .ok (.iconst 0, 1) := by decide +kernel
theorem dX4_format_70 : decode cX4_format 70 = .ok (.iconst 0, 1) := by decide +kernel
theorem dX4_format_71 : decode cX4_format 71 = .ok (.invokevirtual 85, 3) := by decide +kernel
theorem dX4_format_74 : decode cX4_format 74 = .ok (.ifCond .ne 8, 3) := by decide +kernel
theorem dX4_format_77 : decode cX4_format 77 = .ok (.aload_n 0, 1) := by decide +kernel
theorem dX4_format_78 : decode cX4_format 78 = .ok (.invokevirtual 82, 3) := by decide +kernel
theorem dX4_format_81 : decode cX4_format 81 = .ok (.ireturn, 1) := by decide +kernel
theorem dX4_format_82 : decode cX4_format 82 = .ok (.aload_n 0, 1) := by decide +kernel
theorem dX4_format_83 : decode cX4_format 83 = .ok (.getfield 37, 3) := by decide +kernel
theorem dX4_format_86 : decode cX4_format 86 = .ok (.invokevirtual 89, 3) := by decide +kernel
theorem dX4_format_89 : decode cX4_format 89 = .ok (.aload_n 0, 1) := by decide +kernel
theorem dX4_format_90 : decode cX4_format 90 = .ok (.getfield 21, 3) := by decide +kernel
theorem dX4_format_93 : decode cX4_format 93 = .ok (.invokevirtual 92, 3) := by decide +kernel
theorem dX4_format_96 : decode cX4_format 96 = .ok (.aload_n 0, 1) := by decide +kernel
theorem dX4_format_97 : decode cX4_format 97 = .ok (.invokevirtual 95, 3) := by decide +kernel
theorem dX4_format_100 : decode cX4_format 100 = .ok (.iconst 0, 1) := by decide +kernel
theorem dX4_format_101 : decode cX4_format 101 = .ok (.ireturn, 1) := by decide +kernel
theorem dX4_power_0 : decode cX4_power 0 = .ok (.aload_n 0, 1) := by decide +kernel
theorem dX4_power_1 : decode cX4_power 1 = .ok (.getfield 47, 3) := by decide +kernel
theorem dX4_power_4 : decode cX4_power 4 = .ok (.ifCond .ne 6, 3) := by decide +kernel
theorem dX4_power_7 : decode cX4_power 7 = .ok (.bipush (-7), 2) := by decide +kernel
theorem dX4_power_9 : decode cX4_power 9 = .ok (.ireturn, 1) := by decide +kernel
theorem dX4_power_10 : decode cX4_power 10 = .ok (.aload_n 0, 1) := by decide +kernel
theorem dX4_power_11 : decode cX4_power 11 = .ok (.getfield 10, 3) := by decide +kernel
theorem dX4_power_14 : decode cX4_power 14 = .ok (.iload_n 1, 1) := by decide +kernel
theorem dX4_power_15 : decode cX4_power 15 = .ok (.invokevirtual 98, 3) := by decide +kernel
theorem dX4_power_18 : decode cX4_power 18 = .ok (.iconst 0, 1) := by decide +kernel
theorem dX4_power_19 : decode cX4_power 19 = .ok (.ireturn, 1) := by decide +kernel
theorem dX4_recover_0 : decode cX4_recover 0 = .ok (.aload_n 0, 1) := by decide +kernel
theorem dX4_recover_1 : decode cX4_recover 1 = .ok (.getfield 47, 3) := by decide +kernel
theorem dX4_recover_4 : decode cX4_recover 4 = .ok (.ifCond .ne 6, 3) := by decide +kernel
theorem dX4_recover_7 : decode cX4_recover 7 = .ok (.bipush (-7), 2) := by decide +kernel
theorem dX4_recover_9 : decode cX4_recover 9 = .ok (.ireturn, 1) := by decide +kernel
theorem dX4_recover_10 : decode cX4_recover 10 = .ok (.aload_n 0, 1) := by decide +kernel
theorem dX4_recover_11 : decode cX4_recover 11 = .ok (.getfield 10, 3) := by decide +kernel
theorem dX4_recover_14 : decode cX4_recover 14 = .ok (.iconst 0, 1) := by decide +kernel
theorem dX4_recover_15 : decode cX4_recover 15 = .ok (.invokevirtual 101, 3) := by decide +kernel
theorem dX4_recover_18 : decode cX4_recover 18 = .ok (.ifCond .eq 17, 3) := by decide +kernel
theorem dX4_recover_21 : decode cX4_recover 21 = .ok (.aload_n 0, 1) := by decide +kernel
theorem dX4_recover_22 : decode cX4_recover 22 = .ok (.getfield 10, 3) := by decide +kernel
theorem dX4_recover_25 : decode cX4_recover 25 = .ok (.iconst 0, 1) := by decide +kernel
theorem dX4_recover_26 : decode cX4_recover 26 = .ok (.iconst 0, 1) := by decide +kernel
theorem dX4_recover_27 : decode cX4_recover 27 = .ok (.invokevirtual 68, 3) := by decide +kernel
theorem dX4_recover_30 : decode cX4_recover 30 = .ok (.ldc 104, 2) := by decide +kernel
theorem dX4_recover_32 : decode cX4_recover 32 = .ok (.if_icmp .eq 11, 3) := by decide +kernel
theorem dX4_recover_35 : decode cX4_recover 35 = .ok (.aload_n 0, 1) := by decide +kernel
theorem dX4_recover_36 : decode cX4_recover 36 = .ok (.iconst 1, 1) := by decide +kernel
theorem dX4_recover_37 : decode cX4_recover 37 = .ok (.putfield 47, 3) := by decide +kernel
theorem dX4_recover_40 : decode cX4_recover 40 = .ok (.bipush (-2), 2) := by decide +kernel
theorem dX4_recover_42 : decode cX4_recover 42 = .ok (.ireturn, 1) := by decide +kernel
theorem dX4_recover_43 : decode cX4_recover 43 = .ok (.aload_n 0, 1) := by decide +kernel
theorem dX4_recover_44 : decode cX4_recover 44 = .ok (.getfield 10, 3) := by decide +kernel
theorem dX4_recover_47 : decode cX4_recover 47 = .ok (.iconst 0, 1) := by decide +kernel
theorem dX4_recover_48 : decode cX4_recover 48 = .ok (.iconst 1, 1) := by decide +kernel
theorem dX4_recover_49 : decode cX4_recover 49 = .ok (.invokevirtual 68, 3) := by decide +kernel
theorem dX4_recover_52 : decode cX4_recover 52 = .ok (.istore_n 1, 1) := by decide +kernel
theorem dX4_recover_53 : decode cX4_recover 53 = .ok (.aload_n 0, 1) := by decide +kernel
theorem dX4_recover_54 : decode cX4_recover 54 = .ok (.getfield 10, 3) := by decide +kernel
theorem dX4_recover_57 : decode cX4_recover 57 = .ok (.iconst 0, 1) := by decide +kernel
theorem dX4_recover_58 : decode cX4_recover 58 = .ok (.iconst 3, 1) := by decide +kernel
theorem dX4_recover_59 : decode cX4_recover 59 = .ok (.invokevirtual 68, 3) := by decide +kernel
theorem dX4_recover_62 : decode cX4_recover 62 = .ok (.istore_n 2, 1) := by decide +kernel
theorem dX4_recover_63 : decode cX4_recover 63 = .ok (.aload_n 0, 1) := by decide +kernel
theorem dX4_recover_64 : decode cX4_recover 64 = .ok (.getfield 10, 3) := by decide +kernel
theorem dX4_recover_67 : decode cX4_recover 67 = .ok (.iconst 0, 1) := by decide +kernel
theorem dX4_recover_68 : decode cX4_recover 68 = .ok (.iconst 4, 1) := by decide +kernel
theorem dX4_recover_69 : decode cX4_recover 69 = .ok (.invokevirtual 68, 3) := by decide +kernel
theorem dX4_recover_72 : decode cX4_recover 72 = .ok (.istore_n 3, 1) := by decide +kernel
theorem dX4_recover_73 : decode cX4_recover 73 = .ok (.aload_n 0, 1) := by decide +kernel
theorem dX4_recover_74 : decode cX4_recover 74 = .ok (.getfield 10, 3) := by decide +kernel
theorem dX4_recover_77 : decode cX4_recover 77 = .ok (.iconst 0, 1) := by decide +kernel
theorem dX4_recover_78 : decode cX4_recover 78 = .ok (.iconst 5, 1) := by decide +kernel
theorem dX4_recover_79 : decode cX4_recover 79 = .ok (.invokevirtual 68, 3) := by decide +kernel
theorem dX4_recover_82 : decode cX4_recover 82 = .ok (.istore 4, 2) := by decide +kernel
theorem dX4_recover_84 : decode cX4_recover 84 = .ok (.aload_n 0, 1) := by decide +kernel
theorem dX4_recover_85 : decode cX4_recover 85 = .ok (.getfield 28, 3) := by decide +kernel
theorem dX4_recover_88 : decode cX4_recover 88 = .ok (.aload_n 0, 1) := by decide +kernel
theorem dX4_recover_89 : decode cX4_recover 89 = .ok (.getfield 37, 3) := by decide +kernel
theorem dX4_recover_92 : decode cX4_recover 92 = .ok (.iload_n 2, 1) := by decide +kernel
theorem dX4_recover_93 : decode cX4_recover 93 = .ok (.iload 4, 2) := by decide +kernel
theorem dX4_recover_95 : decode cX4_recover 95 = .ok (.invokevirtual 105, 3) := by decide +kernel
theorem dX4_recover_98 : decode cX4_recover 98 = .ok (.aload_n 0, 1) := by decide +kernel
theorem dX4_recover_99 : decode cX4_recover 99 = .ok (.getfield 21, 3) := by decide +kernel
theorem dX4_recover_102 : decode cX4_recover 102 = .ok (.aload_n 0, 1) := by decide +kernel
theorem dX4_recover_103 : decode cX4_recover 103 = .ok (.getfield 37, 3) := by decide +kernel
theorem dX4_recover_106 : decode cX4_recover 106 = .ok (.iload_n 1, 1) := by decide +kernel
theorem dX4_recover_107 : decode cX4_recover 107 = .ok (.invokevirtual 109, 3) := by decide +kernel
theorem dX4_recover_110 : decode cX4_recover 110 = .ok (.aload_n 0, 1) := by decide +kernel
theorem dX4_recover_111 : decode cX4_recover 111 = .ok (.iload_n 1, 1) := by decide +kernel
theorem dX4_recover_112 : decode cX4_recover 112 = .ok (.aload_n 0, 1) := by decide +kernel
theorem dX4_recover_113 : decode cX4_recover 113 = .ok (.getfield 10, 3) := by decide +kernel
theorem dX4_recover_116 : decode cX4_recover 116 = .ok (.iconst 0, 1) := by decide +kernel
theorem dX4_recover_117 : decode cX4_recover 117 = .ok (.iconst 2, 1) := by decide +kernel
theorem dX4_recover_118 : decode cX4_recover 118 = .ok (.invokevirtual 68, 3) := by decide +kernel
theorem dX4_recover_121 : decode cX4_recover 121 = .ok (.iconst 1, 1) := by decide +kernel
theorem dX4_recover_122 : decode cX4_recover 122 = .ok (.iadd, 1) := by decide +kernel
theorem dX4_recover_123 : decode cX4_recover 123 = .ok (.iload_n 2, 1) := by decide +kernel
theorem dX4_recover_124 : decode cX4_recover 124 = .ok (.iload_n 3, 1) := by decide +kernel
theorem dX4_recover_125 : decode cX4_recover 125 = .ok (.iload 4, 2) := by decide +kernel
theorem dX4_recover_127 : decode cX4_recover 127 = .ok (.invokevirtual 85, 3) := by decide +kernel
theorem dX4_recover_130 : decode cX4_recover 130 = .ok (.ifCond .ne 8, 3) := by decide +kernel
theorem dX4_recover_133 : decode cX4_recover 133 = .ok (.aload_n 0, 1) := by decide +kernel
theorem dX4_recover_134 : decode cX4_recover 134 = .ok (.invokevirtual 82, 3) := by decide +kernel
theorem dX4_recover_137 : decode cX4_recover 137 = .ok (.ireturn, 1) := by decide +kernel
theorem dX4_recover_138 : decode cX4_recover 138 = .ok (.aload_n 0, 1) := by decide +kernel
theorem dX4_recover_139 : decode cX4_recover 139 = .ok (.invokevirtual 95, 3) := by decide +kernel
theorem dX4_recover_142 : decode cX4_recover 142 = .ok (.iconst 0, 1) := by decide +kernel
theorem dX4_recover_143 : decode cX4_recover 143 = .ok (.ireturn, 1) := by decide +kernel
theorem dX4_begin_0 : decode cX4_begin 0 = .ok (.aload_n 0, 1) := by decide +kernel
theorem dX4_begin_1 : decode cX4_begin 1 = .ok (.getfield 47, 3) := by decide +kernel
theorem dX4_begin_4 : decode cX4_begin 4 = .ok (.iconst 2, 1) := by decide +kernel
theorem dX4_begin_5 : decode cX4_begin 5 = .ok (.if_icmp .eq 8, 3) := by decide +kernel
theorem dX4_begin_8 : decode cX4_begin 8 = .ok (.aload_n 0, 1) := by decide +kernel
theorem dX4_begin_9 : decode cX4_begin 9 = .ok (.invokevirtual 64, 3) := by decide +kernel
theorem dX4_begin_12 : decode cX4_begin 12 = .ok (.ireturn, 1) := by decide +kernel
theorem dX4_begin_13 : decode cX4_begin 13 = .ok (.aload_n 0, 1) := by decide +kernel
theorem dX4_begin_14 : decode cX4_begin 14 = .ok (.getfield 51, 3) := by decide +kernel
theorem dX4_begin_17 : decode cX4_begin 17 = .ok (.ifCond .eq 6, 3) := by decide +kernel
theorem dX4_begin_20 : decode cX4_begin 20 = .ok (.bipush (-4), 2) := by decide +kernel
theorem dX4_begin_22 : decode cX4_begin 22 = .ok (.ireturn, 1) := by decide +kernel
theorem dX4_begin_23 : decode cX4_begin 23 = .ok (.aload_n 0, 1) := by decide +kernel
theorem dX4_begin_24 : decode cX4_begin 24 = .ok (.iconst 1, 1) := by decide +kernel
theorem dX4_begin_25 : decode cX4_begin 25 = .ok (.putfield 51, 3) := by decide +kernel
theorem dX4_begin_28 : decode cX4_begin 28 = .ok (.iconst 0, 1) := by decide +kernel
theorem dX4_begin_29 : decode cX4_begin 29 = .ok (.ireturn, 1) := by decide +kernel
theorem dX4_put_0 : decode cX4_put 0 = .ok (.aload_n 0, 1) := by decide +kernel
theorem dX4_put_1 : decode cX4_put 1 = .ok (.getfield 47, 3) := by decide +kernel
theorem dX4_put_4 : decode cX4_put 4 = .ok (.iconst 2, 1) := by decide +kernel
theorem dX4_put_5 : decode cX4_put 5 = .ok (.if_icmp .eq 8, 3) := by decide +kernel
theorem dX4_put_8 : decode cX4_put 8 = .ok (.aload_n 0, 1) := by decide +kernel
theorem dX4_put_9 : decode cX4_put 9 = .ok (.invokevirtual 64, 3) := by decide +kernel
theorem dX4_put_12 : decode cX4_put 12 = .ok (.ireturn, 1) := by decide +kernel
theorem dX4_put_13 : decode cX4_put 13 = .ok (.aload_n 0, 1) := by decide +kernel
theorem dX4_put_14 : decode cX4_put 14 = .ok (.getfield 51, 3) := by decide +kernel
theorem dX4_put_17 : decode cX4_put 17 = .ok (.ifCond .ne 6, 3) := by decide +kernel
theorem dX4_put_20 : decode cX4_put 20 = .ok (.bipush (-3), 2) := by decide +kernel
theorem dX4_put_22 : decode cX4_put 22 = .ok (.ireturn, 1) := by decide +kernel
theorem dX4_put_23 : decode cX4_put 23 = .ok (.aload_n 0, 1) := by decide +kernel
theorem dX4_put_24 : decode cX4_put 24 = .ok (.iload_n 1, 1) := by decide +kernel
theorem dX4_put_25 : decode cX4_put 25 = .ok (.invokevirtual 113, 3) := by decide +kernel
theorem dX4_put_28 : decode cX4_put 28 = .ok (.ifCond .ne 6, 3) := by decide +kernel
theorem dX4_put_31 : decode cX4_put 31 = .ok (.bipush (-6), 2) := by decide +kernel
theorem dX4_put_33 : decode cX4_put 33 = .ok (.ireturn, 1) := by decide +kernel
theorem dX4_put_34 : decode cX4_put 34 = .ok (.aload_n 0, 1) := by decide +kernel
theorem dX4_put_35 : decode cX4_put 35 = .ok (.getfield 44, 3) := by decide +kernel
theorem dX4_put_38 : decode cX4_put 38 = .ok (.iload_n 1, 1) := by decide +kernel
theorem dX4_put_39 : decode cX4_put 39 = .ok (.iload_n 2, 1) := by decide +kernel
theorem dX4_put_40 : decode cX4_put 40 = .ok (.invokevirtual 116, 3) := by decide +kernel
theorem dX4_put_43 : decode cX4_put 43 = .ok (.aload_n 0, 1) := by decide +kernel
theorem dX4_put_44 : decode cX4_put 44 = .ok (.getfield 41, 3) := by decide +kernel
theorem dX4_put_47 : decode cX4_put 47 = .ok (.iload_n 1, 1) := by decide +kernel
theorem dX4_put_48 : decode cX4_put 48 = .ok (.iload_n 2, 1) := by decide +kernel
theorem dX4_put_49 : decode cX4_put 49 = .ok (.invokevirtual 116, 3) := by decide +kernel
theorem dX4_put_52 : decode cX4_put 52 = .ok (.iconst 0, 1) := by decide +kernel
theorem dX4_put_53 : decode cX4_put 53 = .ok (.ireturn, 1) := by decide +kernel
theorem dX4_remove_0 : decode cX4_remove 0 = .ok (.aload_n 0, 1) := by decide +kernel
theorem dX4_remove_1 : decode cX4_remove 1 = .ok (.getfield 47, 3) := by decide +kernel
theorem dX4_remove_4 : decode cX4_remove 4 = .ok (.iconst 2, 1) := by decide +kernel
theorem dX4_remove_5 : decode cX4_remove 5 = .ok (.if_icmp .eq 8, 3) := by decide +kernel
theorem dX4_remove_8 : decode cX4_remove 8 = .ok (.aload_n 0, 1) := by decide +kernel
theorem dX4_remove_9 : decode cX4_remove 9 = .ok (.invokevirtual 64, 3) := by decide +kernel
theorem dX4_remove_12 : decode cX4_remove 12 = .ok (.ireturn, 1) := by decide +kernel
theorem dX4_remove_13 : decode cX4_remove 13 = .ok (.aload_n 0, 1) := by decide +kernel
theorem dX4_remove_14 : decode cX4_remove 14 = .ok (.getfield 51, 3) := by decide +kernel
theorem dX4_remove_17 : decode cX4_remove 17 = .ok (.ifCond .ne 6, 3) := by decide +kernel
theorem dX4_remove_20 : decode cX4_remove 20 = .ok (.bipush (-3), 2) := by decide +kernel
theorem dX4_remove_22 : decode cX4_remove 22 = .ok (.ireturn, 1) := by decide +kernel
theorem dX4_remove_23 : decode cX4_remove 23 = .ok (.aload_n 0, 1) := by decide +kernel
theorem dX4_remove_24 : decode cX4_remove 24 = .ok (.getfield 41, 3) := by decide +kernel
theorem dX4_remove_27 : decode cX4_remove 27 = .ok (.iload_n 1, 1) := by decide +kernel
theorem dX4_remove_28 : decode cX4_remove 28 = .ok (.invokevirtual 119, 3) := by decide +kernel
theorem dX4_remove_31 : decode cX4_remove 31 = .ok (.ifCond .ne 6, 3) := by decide +kernel
theorem dX4_remove_34 : decode cX4_remove 34 = .ok (.bipush (-5), 2) := by decide +kernel
theorem dX4_remove_36 : decode cX4_remove 36 = .ok (.ireturn, 1) := by decide +kernel
theorem dX4_remove_37 : decode cX4_remove 37 = .ok (.aload_n 0, 1) := by decide +kernel
theorem dX4_remove_38 : decode cX4_remove 38 = .ok (.iload_n 1, 1) := by decide +kernel
theorem dX4_remove_39 : decode cX4_remove 39 = .ok (.invokevirtual 113, 3) := by decide +kernel
theorem dX4_remove_42 : decode cX4_remove 42 = .ok (.ifCond .ne 6, 3) := by decide +kernel
theorem dX4_remove_45 : decode cX4_remove 45 = .ok (.bipush (-6), 2) := by decide +kernel
theorem dX4_remove_47 : decode cX4_remove 47 = .ok (.ireturn, 1) := by decide +kernel
theorem dX4_remove_48 : decode cX4_remove 48 = .ok (.aload_n 0, 1) := by decide +kernel
theorem dX4_remove_49 : decode cX4_remove 49 = .ok (.getfield 44, 3) := by decide +kernel
theorem dX4_remove_52 : decode cX4_remove 52 = .ok (.iload_n 1, 1) := by decide +kernel
theorem dX4_remove_53 : decode cX4_remove 53 = .ok (.iconst 0, 1) := by decide +kernel
theorem dX4_remove_54 : decode cX4_remove 54 = .ok (.invokevirtual 116, 3) := by decide +kernel
theorem dX4_remove_57 : decode cX4_remove 57 = .ok (.aload_n 0, 1) := by decide +kernel
theorem dX4_remove_58 : decode cX4_remove 58 = .ok (.getfield 41, 3) := by decide +kernel
theorem dX4_remove_61 : decode cX4_remove 61 = .ok (.iload_n 1, 1) := by decide +kernel
theorem dX4_remove_62 : decode cX4_remove 62 = .ok (.invokevirtual 122, 3) := by decide +kernel
theorem dX4_remove_65 : decode cX4_remove 65 = .ok (.iconst 0, 1) := by decide +kernel
theorem dX4_remove_66 : decode cX4_remove 66 = .ok (.ireturn, 1) := by decide +kernel
theorem dX4_commit_0 : decode cX4_commit 0 = .ok (.aload_n 0, 1) := by decide +kernel
theorem dX4_commit_1 : decode cX4_commit 1 = .ok (.getfield 47, 3) := by decide +kernel
theorem dX4_commit_4 : decode cX4_commit 4 = .ok (.iconst 2, 1) := by decide +kernel
theorem dX4_commit_5 : decode cX4_commit 5 = .ok (.if_icmp .eq 8, 3) := by decide +kernel
theorem dX4_commit_8 : decode cX4_commit 8 = .ok (.aload_n 0, 1) := by decide +kernel
theorem dX4_commit_9 : decode cX4_commit 9 = .ok (.invokevirtual 64, 3) := by decide +kernel
theorem dX4_commit_12 : decode cX4_commit 12 = .ok (.ireturn, 1) := by decide +kernel
theorem dX4_commit_13 : decode cX4_commit 13 = .ok (.aload_n 0, 1) := by decide +kernel
theorem dX4_commit_14 : decode cX4_commit 14 = .ok (.getfield 51, 3) := by decide +kernel
theorem dX4_commit_17 : decode cX4_commit 17 = .ok (.ifCond .ne 6, 3) := by decide +kernel
theorem dX4_commit_20 : decode cX4_commit 20 = .ok (.bipush (-3), 2) := by decide +kernel
theorem dX4_commit_22 : decode cX4_commit 22 = .ok (.ireturn, 1) := by decide +kernel
theorem dX4_commit_23 : decode cX4_commit 23 = .ok (.aload_n 0, 1) := by decide +kernel
theorem dX4_commit_24 : decode cX4_commit 24 = .ok (.getfield 21, 3) := by decide +kernel
theorem dX4_commit_27 : decode cX4_commit 27 = .ok (.aload_n 0, 1) := by decide +kernel
theorem dX4_commit_28 : decode cX4_commit 28 = .ok (.getfield 44, 3) := by decide +kernel
theorem dX4_commit_31 : decode cX4_commit 31 = .ok (.invokevirtual 125, 3) := by decide +kernel
theorem dX4_commit_34 : decode cX4_commit 34 = .ok (.invokevirtual 128, 3) := by decide +kernel
theorem dX4_commit_37 : decode cX4_commit 37 = .ok (.ifCond .ne 6, 3) := by decide +kernel
theorem dX4_commit_40 : decode cX4_commit 40 = .ok (.bipush (-6), 2) := by decide +kernel
theorem dX4_commit_42 : decode cX4_commit 42 = .ok (.ireturn, 1) := by decide +kernel
theorem dX4_commit_43 : decode cX4_commit 43 = .ok (.aload_n 0, 1) := by decide +kernel
theorem dX4_commit_44 : decode cX4_commit 44 = .ok (.getfield 10, 3) := by decide +kernel
theorem dX4_commit_47 : decode cX4_commit 47 = .ok (.iconst 0, 1) := by decide +kernel
theorem dX4_commit_48 : decode cX4_commit 48 = .ok (.iconst 1, 1) := by decide +kernel
theorem dX4_commit_49 : decode cX4_commit 49 = .ok (.invokevirtual 68, 3) := by decide +kernel
theorem dX4_commit_52 : decode cX4_commit 52 = .ok (.istore_n 1, 1) := by decide +kernel
theorem dX4_commit_53 : decode cX4_commit 53 = .ok (.aload_n 0, 1) := by decide +kernel
theorem dX4_commit_54 : decode cX4_commit 54 = .ok (.getfield 10, 3) := by decide +kernel
theorem dX4_commit_57 : decode cX4_commit 57 = .ok (.iconst 0, 1) := by decide +kernel
theorem dX4_commit_58 : decode cX4_commit 58 = .ok (.iconst 2, 1) := by decide +kernel
theorem dX4_commit_59 : decode cX4_commit 59 = .ok (.invokevirtual 68, 3) := by decide +kernel
theorem dX4_commit_62 : decode cX4_commit 62 = .ok (.istore_n 2, 1) := by decide +kernel
theorem dX4_commit_63 : decode cX4_commit 63 = .ok (.aload_n 0, 1) := by decide +kernel
theorem dX4_commit_64 : decode cX4_commit 64 = .ok (.getfield 21, 3) := by decide +kernel
theorem dX4_commit_67 : decode cX4_commit 67 = .ok (.aload_n 0, 1) := by decide +kernel
theorem dX4_commit_68 : decode cX4_commit 68 = .ok (.getfield 44, 3) := by decide +kernel
theorem dX4_commit_71 : decode cX4_commit 71 = .ok (.aload_n 0, 1) := by decide +kernel
theorem dX4_commit_72 : decode cX4_commit 72 = .ok (.getfield 41, 3) := by decide +kernel
theorem dX4_commit_75 : decode cX4_commit 75 = .ok (.iload_n 1, 1) := by decide +kernel
theorem dX4_commit_76 : decode cX4_commit 76 = .ok (.iload_n 2, 1) := by decide +kernel
theorem dX4_commit_77 : decode cX4_commit 77 = .ok (.invokevirtual 131, 3) := by decide +kernel
theorem dX4_commit_80 : decode cX4_commit 80 = .ok (.ifCond .ne 8, 3) := by decide +kernel
theorem dX4_commit_83 : decode cX4_commit 83 = .ok (.aload_n 0, 1) := by decide +kernel
theorem dX4_commit_84 : decode cX4_commit 84 = .ok (.invokevirtual 82, 3) := by decide +kernel
theorem dX4_commit_87 : decode cX4_commit 87 = .ok (.ireturn, 1) := by decide +kernel
theorem dX4_commit_88 : decode cX4_commit 88 = .ok (.aload_n 0, 1) := by decide +kernel
theorem dX4_commit_89 : decode cX4_commit 89 = .ok (.getfield 37, 3) := by decide +kernel
theorem dX4_commit_92 : decode cX4_commit 92 = .ok (.aload_n 0, 1) := by decide +kernel
theorem dX4_commit_93 : decode cX4_commit 93 = .ok (.getfield 41, 3) := by decide +kernel
theorem dX4_commit_96 : decode cX4_commit 96 = .ok (.invokevirtual 135, 3) := by decide +kernel
theorem dX4_commit_99 : decode cX4_commit 99 = .ok (.aload_n 0, 1) := by decide +kernel
theorem dX4_commit_100 : decode cX4_commit 100 = .ok (.invokevirtual 139, 3) := by decide +kernel
theorem dX4_commit_103 : decode cX4_commit 103 = .ok (.iconst 0, 1) := by decide +kernel
theorem dX4_commit_104 : decode cX4_commit 104 = .ok (.ireturn, 1) := by decide +kernel
theorem dX4_abort_0 : decode cX4_abort 0 = .ok (.aload_n 0, 1) := by decide +kernel
theorem dX4_abort_1 : decode cX4_abort 1 = .ok (.getfield 47, 3) := by decide +kernel
theorem dX4_abort_4 : decode cX4_abort 4 = .ok (.iconst 2, 1) := by decide +kernel
theorem dX4_abort_5 : decode cX4_abort 5 = .ok (.if_icmp .eq 8, 3) := by decide +kernel
theorem dX4_abort_8 : decode cX4_abort 8 = .ok (.aload_n 0, 1) := by decide +kernel
theorem dX4_abort_9 : decode cX4_abort 9 = .ok (.invokevirtual 64, 3) := by decide +kernel
theorem dX4_abort_12 : decode cX4_abort 12 = .ok (.ireturn, 1) := by decide +kernel
theorem dX4_abort_13 : decode cX4_abort 13 = .ok (.aload_n 0, 1) := by decide +kernel
theorem dX4_abort_14 : decode cX4_abort 14 = .ok (.getfield 51, 3) := by decide +kernel
theorem dX4_abort_17 : decode cX4_abort 17 = .ok (.ifCond .ne 6, 3) := by decide +kernel
theorem dX4_abort_20 : decode cX4_abort 20 = .ok (.bipush (-3), 2) := by decide +kernel
theorem dX4_abort_22 : decode cX4_abort 22 = .ok (.ireturn, 1) := by decide +kernel
theorem dX4_abort_23 : decode cX4_abort 23 = .ok (.aload_n 0, 1) := by decide +kernel
theorem dX4_abort_24 : decode cX4_abort 24 = .ok (.invokevirtual 139, 3) := by decide +kernel
theorem dX4_abort_27 : decode cX4_abort 27 = .ok (.iconst 0, 1) := by decide +kernel
theorem dX4_abort_28 : decode cX4_abort 28 = .ok (.ireturn, 1) := by decide +kernel
theorem dX4_checkpoint_0 : decode cX4_checkpoint 0 = .ok (.aload_n 0, 1) := by decide +kernel
theorem dX4_checkpoint_1 : decode cX4_checkpoint 1 = .ok (.getfield 47, 3) := by decide +kernel
theorem dX4_checkpoint_4 : decode cX4_checkpoint 4 = .ok (.iconst 2, 1) := by decide +kernel
theorem dX4_checkpoint_5 : decode cX4_checkpoint 5 = .ok (.if_icmp .eq 8, 3) := by decide +kernel
theorem dX4_checkpoint_8 : decode cX4_checkpoint 8 = .ok (.aload_n 0, 1) := by decide +kernel
theorem dX4_checkpoint_9 : decode cX4_checkpoint 9 = .ok (.invokevirtual 64, 3) := by decide +kernel
theorem dX4_checkpoint_12 : decode cX4_checkpoint 12 = .ok (.ireturn, 1) := by decide +kernel
theorem dX4_checkpoint_13 : decode cX4_checkpoint 13 = .ok (.aload_n 0, 1) := by decide +kernel
theorem dX4_checkpoint_14 : decode cX4_checkpoint 14 = .ok (.getfield 51, 3) := by decide +kernel
theorem dX4_checkpoint_17 : decode cX4_checkpoint 17 = .ok (.ifCond .eq 6, 3) := by decide +kernel
theorem dX4_checkpoint_20 : decode cX4_checkpoint 20 = .ok (.bipush (-4), 2) := by decide +kernel
theorem dX4_checkpoint_22 : decode cX4_checkpoint 22 = .ok (.ireturn, 1) := by decide +kernel
theorem dX4_checkpoint_23 : decode cX4_checkpoint 23 = .ok (.aload_n 0, 1) := by decide +kernel
theorem dX4_checkpoint_24 : decode cX4_checkpoint 24 = .ok (.getfield 37, 3) := by decide +kernel
theorem dX4_checkpoint_27 : decode cX4_checkpoint 27 = .ok (.invokevirtual 125, 3) := by decide +kernel
theorem dX4_checkpoint_30 : decode cX4_checkpoint 30 = .ok (.istore_n 1, 1) := by decide +kernel
theorem dX4_checkpoint_31 : decode cX4_checkpoint 31 = .ok (.aload_n 0, 1) := by decide +kernel
theorem dX4_checkpoint_32 : decode cX4_checkpoint 32 = .ok (.getfield 28, 3) := by decide +kernel
theorem dX4_checkpoint_35 : decode cX4_checkpoint 35 = .ok (.iload_n 1, 1) := by decide +kernel
theorem dX4_checkpoint_36 : decode cX4_checkpoint 36 = .ok (.invokevirtual 142, 3) := by decide +kernel
theorem dX4_checkpoint_39 : decode cX4_checkpoint 39 = .ok (.aload_n 0, 1) := by decide +kernel
theorem dX4_checkpoint_40 : decode cX4_checkpoint 40 = .ok (.getfield 28, 3) := by decide +kernel
theorem dX4_checkpoint_43 : decode cX4_checkpoint 43 = .ok (.invokevirtual 146, 3) := by decide +kernel
theorem dX4_checkpoint_46 : decode cX4_checkpoint 46 = .ok (.if_icmp .le 6, 3) := by decide +kernel
theorem dX4_checkpoint_49 : decode cX4_checkpoint 49 = .ok (.bipush (-6), 2) := by decide +kernel
theorem dX4_checkpoint_51 : decode cX4_checkpoint 51 = .ok (.ireturn, 1) := by decide +kernel
theorem dX4_checkpoint_52 : decode cX4_checkpoint 52 = .ok (.aload_n 0, 1) := by decide +kernel
theorem dX4_checkpoint_53 : decode cX4_checkpoint 53 = .ok (.getfield 10, 3) := by decide +kernel
theorem dX4_checkpoint_56 : decode cX4_checkpoint 56 = .ok (.iconst 0, 1) := by decide +kernel
theorem dX4_checkpoint_57 : decode cX4_checkpoint 57 = .ok (.iconst 3, 1) := by decide +kernel
theorem dX4_checkpoint_58 : decode cX4_checkpoint 58 = .ok (.invokevirtual 68, 3) := by decide +kernel
theorem dX4_checkpoint_61 : decode cX4_checkpoint 61 = .ok (.ifCond .ne 7, 3) := by decide +kernel
theorem dX4_checkpoint_64 : decode cX4_checkpoint 64 = .ok (.iconst 1, 1) := by decide +kernel
theorem dX4_checkpoint_65 : decode cX4_checkpoint 65 = .ok (.goto 4, 3) := by decide +kernel
theorem dX4_checkpoint_68 : decode cX4_checkpoint 68 = .ok (.iconst 0, 1) := by decide +kernel
theorem dX4_checkpoint_69 : decode cX4_checkpoint 69 = .ok (.istore_n 2, 1) := by decide +kernel
theorem dX4_checkpoint_70 : decode cX4_checkpoint 70 = .ok (.aload_n 0, 1) := by decide +kernel
theorem dX4_checkpoint_71 : decode cX4_checkpoint 71 = .ok (.getfield 28, 3) := by decide +kernel
theorem dX4_checkpoint_74 : decode cX4_checkpoint 74 = .ok (.aload_n 0, 1) := by decide +kernel
theorem dX4_checkpoint_75 : decode cX4_checkpoint 75 = .ok (.getfield 37, 3) := by decide +kernel
theorem dX4_checkpoint_78 : decode cX4_checkpoint 78 = .ok (.iload_n 2, 1) := by decide +kernel
theorem dX4_checkpoint_79 : decode cX4_checkpoint 79 = .ok (.invokevirtual 149, 3) := by decide +kernel
theorem dX4_checkpoint_82 : decode cX4_checkpoint 82 = .ok (.ifCond .ne 8, 3) := by decide +kernel
theorem dX4_checkpoint_85 : decode cX4_checkpoint 85 = .ok (.aload_n 0, 1) := by decide +kernel
theorem dX4_checkpoint_86 : decode cX4_checkpoint 86 = .ok (.invokevirtual 82, 3) := by decide +kernel
theorem dX4_checkpoint_89 : decode cX4_checkpoint 89 = .ok (.ireturn, 1) := by decide +kernel
theorem dX4_checkpoint_90 : decode cX4_checkpoint 90 = .ok (.aload_n 0, 1) := by decide +kernel
theorem dX4_checkpoint_91 : decode cX4_checkpoint 91 = .ok (.getfield 10, 3) := by decide +kernel
theorem dX4_checkpoint_94 : decode cX4_checkpoint 94 = .ok (.iconst 0, 1) := by decide +kernel
theorem dX4_checkpoint_95 : decode cX4_checkpoint 95 = .ok (.iconst 1, 1) := by decide +kernel
theorem dX4_checkpoint_96 : decode cX4_checkpoint 96 = .ok (.invokevirtual 68, 3) := by decide +kernel
theorem dX4_checkpoint_99 : decode cX4_checkpoint 99 = .ok (.iconst 1, 1) := by decide +kernel
theorem dX4_checkpoint_100 : decode cX4_checkpoint 100 = .ok (.iadd, 1) := by decide +kernel
theorem dX4_checkpoint_101 : decode cX4_checkpoint 101 = .ok (.istore_n 3, 1) := by decide +kernel
theorem dX4_checkpoint_102 : decode cX4_checkpoint 102 = .ok (.aload_n 0, 1) := by decide +kernel
theorem dX4_checkpoint_103 : decode cX4_checkpoint 103 = .ok (.getfield 10, 3) := by decide +kernel
theorem dX4_checkpoint_106 : decode cX4_checkpoint 106 = .ok (.iconst 0, 1) := by decide +kernel
theorem dX4_checkpoint_107 : decode cX4_checkpoint 107 = .ok (.iconst 2, 1) := by decide +kernel
theorem dX4_checkpoint_108 : decode cX4_checkpoint 108 = .ok (.invokevirtual 68, 3) := by decide +kernel
theorem dX4_checkpoint_111 : decode cX4_checkpoint 111 = .ok (.istore 4, 2) := by decide +kernel
theorem dX4_checkpoint_113 : decode cX4_checkpoint 113 = .ok (.aload_n 0, 1) := by decide +kernel
theorem dX4_checkpoint_114 : decode cX4_checkpoint 114 = .ok (.iload_n 3, 1) := by decide +kernel
theorem dX4_checkpoint_115 : decode cX4_checkpoint 115 = .ok (.iload 4, 2) := by decide +kernel
theorem dX4_checkpoint_117 : decode cX4_checkpoint 117 = .ok (.iload_n 2, 1) := by decide +kernel
theorem dX4_checkpoint_118 : decode cX4_checkpoint 118 = .ok (.aload_n 0, 1) := by decide +kernel
theorem dX4_checkpoint_119 : decode cX4_checkpoint 119 = .ok (.getfield 28, 3) := by decide +kernel
theorem dX4_checkpoint_122 : decode cX4_checkpoint 122 = .ok (.iload_n 2, 1) := by decide +kernel
theorem dX4_checkpoint_123 : decode cX4_checkpoint 123 = .ok (.iload_n 1, 1) := by decide +kernel
theorem dX4_checkpoint_124 : decode cX4_checkpoint 124 = .ok (.invokevirtual 153, 3) := by decide +kernel
theorem dX4_checkpoint_127 : decode cX4_checkpoint 127 = .ok (.iload_n 1, 1) := by decide +kernel
theorem dX4_checkpoint_128 : decode cX4_checkpoint 128 = .ok (.invokevirtual 85, 3) := by decide +kernel
theorem dX4_checkpoint_131 : decode cX4_checkpoint 131 = .ok (.ifCond .ne 8, 3) := by decide +kernel
theorem dX4_checkpoint_134 : decode cX4_checkpoint 134 = .ok (.aload_n 0, 1) := by decide +kernel
theorem dX4_checkpoint_135 : decode cX4_checkpoint 135 = .ok (.invokevirtual 82, 3) := by decide +kernel
theorem dX4_checkpoint_138 : decode cX4_checkpoint 138 = .ok (.ireturn, 1) := by decide +kernel
theorem dX4_checkpoint_139 : decode cX4_checkpoint 139 = .ok (.aload_n 0, 1) := by decide +kernel
theorem dX4_checkpoint_140 : decode cX4_checkpoint 140 = .ok (.getfield 21, 3) := by decide +kernel
theorem dX4_checkpoint_143 : decode cX4_checkpoint 143 = .ok (.invokevirtual 92, 3) := by decide +kernel
theorem dX4_checkpoint_146 : decode cX4_checkpoint 146 = .ok (.iconst 0, 1) := by decide +kernel
theorem dX4_checkpoint_147 : decode cX4_checkpoint 147 = .ok (.ireturn, 1) := by decide +kernel
theorem dX4_get_0 : decode cX4_get 0 = .ok (.aload_n 0, 1) := by decide +kernel
theorem dX4_get_1 : decode cX4_get 1 = .ok (.getfield 47, 3) := by decide +kernel
theorem dX4_get_4 : decode cX4_get 4 = .ok (.iconst 2, 1) := by decide +kernel
theorem dX4_get_5 : decode cX4_get 5 = .ok (.if_icmp .ne 14, 3) := by decide +kernel
theorem dX4_get_8 : decode cX4_get 8 = .ok (.aload_n 0, 1) := by decide +kernel
theorem dX4_get_9 : decode cX4_get 9 = .ok (.getfield 41, 3) := by decide +kernel
theorem dX4_get_12 : decode cX4_get 12 = .ok (.iload_n 1, 1) := by decide +kernel
theorem dX4_get_13 : decode cX4_get 13 = .ok (.invokevirtual 156, 3) := by decide +kernel
theorem dX4_get_16 : decode cX4_get 16 = .ok (.goto 4, 3) := by decide +kernel
theorem dX4_get_19 : decode cX4_get 19 = .ok (.iconst 0, 1) := by decide +kernel
theorem dX4_get_20 : decode cX4_get 20 = .ok (.ireturn, 1) := by decide +kernel
theorem dX4_has_0 : decode cX4_has 0 = .ok (.aload_n 0, 1) := by decide +kernel
theorem dX4_has_1 : decode cX4_has 1 = .ok (.getfield 47, 3) := by decide +kernel
theorem dX4_has_4 : decode cX4_has 4 = .ok (.iconst 2, 1) := by decide +kernel
theorem dX4_has_5 : decode cX4_has 5 = .ok (.if_icmp .ne 18, 3) := by decide +kernel
theorem dX4_has_8 : decode cX4_has 8 = .ok (.aload_n 0, 1) := by decide +kernel
theorem dX4_has_9 : decode cX4_has 9 = .ok (.getfield 41, 3) := by decide +kernel
theorem dX4_has_12 : decode cX4_has 12 = .ok (.iload_n 1, 1) := by decide +kernel
theorem dX4_has_13 : decode cX4_has 13 = .ok (.invokevirtual 119, 3) := by decide +kernel
theorem dX4_has_16 : decode cX4_has 16 = .ok (.ifCond .eq 7, 3) := by decide +kernel
theorem dX4_has_19 : decode cX4_has 19 = .ok (.iconst 1, 1) := by decide +kernel
theorem dX4_has_20 : decode cX4_has 20 = .ok (.goto 4, 3) := by decide +kernel
theorem dX4_has_23 : decode cX4_has 23 = .ok (.iconst 0, 1) := by decide +kernel
theorem dX4_has_24 : decode cX4_has 24 = .ok (.ireturn, 1) := by decide +kernel
theorem dX4_size_0 : decode cX4_size 0 = .ok (.aload_n 0, 1) := by decide +kernel
theorem dX4_size_1 : decode cX4_size 1 = .ok (.getfield 47, 3) := by decide +kernel
theorem dX4_size_4 : decode cX4_size 4 = .ok (.iconst 2, 1) := by decide +kernel
theorem dX4_size_5 : decode cX4_size 5 = .ok (.if_icmp .ne 13, 3) := by decide +kernel
theorem dX4_size_8 : decode cX4_size 8 = .ok (.aload_n 0, 1) := by decide +kernel
theorem dX4_size_9 : decode cX4_size 9 = .ok (.getfield 41, 3) := by decide +kernel
theorem dX4_size_12 : decode cX4_size 12 = .ok (.invokevirtual 125, 3) := by decide +kernel
theorem dX4_size_15 : decode cX4_size 15 = .ok (.goto 4, 3) := by decide +kernel
theorem dX4_size_18 : decode cX4_size 18 = .ok (.iconst 0, 1) := by decide +kernel
theorem dX4_size_19 : decode cX4_size 19 = .ok (.ireturn, 1) := by decide +kernel
theorem dX4_key_0 : decode cX4_key 0 = .ok (.aload_n 0, 1) := by decide +kernel
theorem dX4_key_1 : decode cX4_key 1 = .ok (.getfield 47, 3) := by decide +kernel
theorem dX4_key_4 : decode cX4_key 4 = .ok (.iconst 2, 1) := by decide +kernel
theorem dX4_key_5 : decode cX4_key 5 = .ok (.if_icmp .ne 14, 3) := by decide +kernel
theorem dX4_key_8 : decode cX4_key 8 = .ok (.aload_n 0, 1) := by decide +kernel
theorem dX4_key_9 : decode cX4_key 9 = .ok (.getfield 41, 3) := by decide +kernel
theorem dX4_key_12 : decode cX4_key 12 = .ok (.iload_n 1, 1) := by decide +kernel
theorem dX4_key_13 : decode cX4_key 13 = .ok (.invokevirtual 159, 3) := by decide +kernel
theorem dX4_key_16 : decode cX4_key 16 = .ok (.goto 4, 3) := by decide +kernel
theorem dX4_key_19 : decode cX4_key 19 = .ok (.iconst 0, 1) := by decide +kernel
theorem dX4_key_20 : decode cX4_key 20 = .ok (.ireturn, 1) := by decide +kernel
theorem dX4_sum_0 : decode cX4_sum 0 = .ok (.aload_n 0, 1) := by decide +kernel
theorem dX4_sum_1 : decode cX4_sum 1 = .ok (.getfield 47, 3) := by decide +kernel
theorem dX4_sum_4 : decode cX4_sum 4 = .ok (.iconst 2, 1) := by decide +kernel
theorem dX4_sum_5 : decode cX4_sum 5 = .ok (.if_icmp .eq 5, 3) := by decide +kernel
theorem dX4_sum_8 : decode cX4_sum 8 = .ok (.lconst 0, 1) := by decide +kernel
theorem dX4_sum_9 : decode cX4_sum 9 = .ok (.lreturn, 1) := by decide +kernel
theorem dX4_sum_10 : decode cX4_sum 10 = .ok (.aload_n 0, 1) := by decide +kernel
theorem dX4_sum_11 : decode cX4_sum 11 = .ok (.getfield 41, 3) := by decide +kernel
theorem dX4_sum_14 : decode cX4_sum 14 = .ok (.iload_n 1, 1) := by decide +kernel
theorem dX4_sum_15 : decode cX4_sum 15 = .ok (.invokevirtual 162, 3) := by decide +kernel
theorem dX4_sum_18 : decode cX4_sum 18 = .ok (.istore 4, 2) := by decide +kernel
theorem dX4_sum_20 : decode cX4_sum 20 = .ok (.aload_n 0, 1) := by decide +kernel
theorem dX4_sum_21 : decode cX4_sum 21 = .ok (.getfield 41, 3) := by decide +kernel
theorem dX4_sum_24 : decode cX4_sum 24 = .ok (.iload_n 2, 1) := by decide +kernel
theorem dX4_sum_25 : decode cX4_sum 25 = .ok (.invokevirtual 165, 3) := by decide +kernel
theorem dX4_sum_28 : decode cX4_sum 28 = .ok (.istore 5, 2) := by decide +kernel
theorem dX4_sum_30 : decode cX4_sum 30 = .ok (.iload 4, 2) := by decide +kernel
theorem dX4_sum_32 : decode cX4_sum 32 = .ok (.iload 5, 2) := by decide +kernel
theorem dX4_sum_34 : decode cX4_sum 34 = .ok (.if_icmp .lt 5, 3) := by decide +kernel
theorem dX4_sum_37 : decode cX4_sum 37 = .ok (.lconst 0, 1) := by decide +kernel
theorem dX4_sum_38 : decode cX4_sum 38 = .ok (.lreturn, 1) := by decide +kernel
theorem dX4_sum_39 : decode cX4_sum 39 = .ok (.iload_n 3, 1) := by decide +kernel
theorem dX4_sum_40 : decode cX4_sum 40 = .ok (.tableswitch 75 0 3 #[32, 39, 51, 62], 32) := by decide +kernel
theorem dX4_sum_72 : decode cX4_sum 72 = .ok (.iload 5, 2) := by decide +kernel
theorem dX4_sum_74 : decode cX4_sum 74 = .ok (.iload 4, 2) := by decide +kernel
theorem dX4_sum_76 : decode cX4_sum 76 = .ok (.isub, 1) := by decide +kernel
theorem dX4_sum_77 : decode cX4_sum 77 = .ok (.i2l, 1) := by decide +kernel
theorem dX4_sum_78 : decode cX4_sum 78 = .ok (.lreturn, 1) := by decide +kernel
theorem dX4_sum_79 : decode cX4_sum 79 = .ok (.aload_n 0, 1) := by decide +kernel
theorem dX4_sum_80 : decode cX4_sum 80 = .ok (.getfield 41, 3) := by decide +kernel
theorem dX4_sum_83 : decode cX4_sum 83 = .ok (.iload 4, 2) := by decide +kernel
theorem dX4_sum_85 : decode cX4_sum 85 = .ok (.iload 5, 2) := by decide +kernel
theorem dX4_sum_87 : decode cX4_sum 87 = .ok (.invokevirtual 168, 3) := by decide +kernel
theorem dX4_sum_90 : decode cX4_sum 90 = .ok (.lreturn, 1) := by decide +kernel
theorem dX4_sum_91 : decode cX4_sum 91 = .ok (.aload_n 0, 1) := by decide +kernel
theorem dX4_sum_92 : decode cX4_sum 92 = .ok (.getfield 41, 3) := by decide +kernel
theorem dX4_sum_95 : decode cX4_sum 95 = .ok (.iload 4, 2) := by decide +kernel
theorem dX4_sum_97 : decode cX4_sum 97 = .ok (.invokevirtual 159, 3) := by decide +kernel
theorem dX4_sum_100 : decode cX4_sum 100 = .ok (.i2l, 1) := by decide +kernel
theorem dX4_sum_101 : decode cX4_sum 101 = .ok (.lreturn, 1) := by decide +kernel
theorem dX4_sum_102 : decode cX4_sum 102 = .ok (.aload_n 0, 1) := by decide +kernel
theorem dX4_sum_103 : decode cX4_sum 103 = .ok (.getfield 41, 3) := by decide +kernel
theorem dX4_sum_106 : decode cX4_sum 106 = .ok (.iload 5, 2) := by decide +kernel
theorem dX4_sum_108 : decode cX4_sum 108 = .ok (.iconst 1, 1) := by decide +kernel
theorem dX4_sum_109 : decode cX4_sum 109 = .ok (.isub, 1) := by decide +kernel
theorem dX4_sum_110 : decode cX4_sum 110 = .ok (.invokevirtual 159, 3) := by decide +kernel
theorem dX4_sum_113 : decode cX4_sum 113 = .ok (.i2l, 1) := by decide +kernel
theorem dX4_sum_114 : decode cX4_sum 114 = .ok (.lreturn, 1) := by decide +kernel
theorem dX4_sum_115 : decode cX4_sum 115 = .ok (.lconst 0, 1) := by decide +kernel
theorem dX4_sum_116 : decode cX4_sum 116 = .ok (.lreturn, 1) := by decide +kernel
theorem dX4_word_0 : decode cX4_word 0 = .ok (.aload_n 0, 1) := by decide +kernel
theorem dX4_word_1 : decode cX4_word 1 = .ok (.getfield 10, 3) := by decide +kernel
theorem dX4_word_4 : decode cX4_word 4 = .ok (.iload_n 1, 1) := by decide +kernel
theorem dX4_word_5 : decode cX4_word 5 = .ok (.iload_n 2, 1) := by decide +kernel
theorem dX4_word_6 : decode cX4_word 6 = .ok (.invokevirtual 68, 3) := by decide +kernel
theorem dX4_word_9 : decode cX4_word 9 = .ok (.ireturn, 1) := by decide +kernel
theorem dX4_state_0 : decode cX4_state 0 = .ok (.aload_n 0, 1) := by decide +kernel
theorem dX4_state_1 : decode cX4_state 1 = .ok (.getfield 47, 3) := by decide +kernel
theorem dX4_state_4 : decode cX4_state 4 = .ok (.ireturn, 1) := by decide +kernel
theorem dX4_count_0 : decode cX4_count 0 = .ok (.iload_n 1, 1) := by decide +kernel
theorem dX4_count_1 : decode cX4_count 1 = .ok (.lookupswitch 59 #[(0, 35), (1, 43), (8, 51)], 35) := by decide +kernel
theorem dX4_count_36 : decode cX4_count 36 = .ok (.aload_n 0, 1) := by decide +kernel
theorem dX4_count_37 : decode cX4_count 37 = .ok (.getfield 10, 3) := by decide +kernel
theorem dX4_count_40 : decode cX4_count 40 = .ok (.invokevirtual 172, 3) := by decide +kernel
theorem dX4_count_43 : decode cX4_count 43 = .ok (.ireturn, 1) := by decide +kernel
theorem dX4_count_44 : decode cX4_count 44 = .ok (.aload_n 0, 1) := by decide +kernel
theorem dX4_count_45 : decode cX4_count 45 = .ok (.getfield 10, 3) := by decide +kernel
theorem dX4_count_48 : decode cX4_count 48 = .ok (.invokevirtual 175, 3) := by decide +kernel
theorem dX4_count_51 : decode cX4_count 51 = .ok (.ireturn, 1) := by decide +kernel
theorem dX4_count_52 : decode cX4_count 52 = .ok (.aload_n 0, 1) := by decide +kernel
theorem dX4_count_53 : decode cX4_count 53 = .ok (.getfield 28, 3) := by decide +kernel
theorem dX4_count_56 : decode cX4_count 56 = .ok (.invokevirtual 146, 3) := by decide +kernel
theorem dX4_count_59 : decode cX4_count 59 = .ok (.ireturn, 1) := by decide +kernel
theorem dX4_count_60 : decode cX4_count 60 = .ok (.aload_n 0, 1) := by decide +kernel
theorem dX4_count_61 : decode cX4_count 61 = .ok (.getfield 47, 3) := by decide +kernel
theorem dX4_count_64 : decode cX4_count 64 = .ok (.iconst 2, 1) := by decide +kernel
theorem dX4_count_65 : decode cX4_count 65 = .ok (.if_icmp .ne 11, 3) := by decide +kernel
theorem dX4_count_68 : decode cX4_count 68 = .ok (.aload_n 0, 1) := by decide +kernel
theorem dX4_count_69 : decode cX4_count 69 = .ok (.iload_n 1, 1) := by decide +kernel
theorem dX4_count_70 : decode cX4_count 70 = .ok (.invokevirtual 178, 3) := by decide +kernel
theorem dX4_count_73 : decode cX4_count 73 = .ok (.goto 4, 3) := by decide +kernel
theorem dX4_count_76 : decode cX4_count 76 = .ok (.iconst 0, 1) := by decide +kernel
theorem dX4_count_77 : decode cX4_count 77 = .ok (.ireturn, 1) := by decide +kernel
theorem dX4_countWhileUp_0 : decode cX4_countWhileUp 0 = .ok (.iload_n 1, 1) := by decide +kernel
theorem dX4_countWhileUp_1 : decode cX4_countWhileUp 1 = .ok (.tableswitch 110 2 7 #[39, 47, 57, 67, 75, 95], 39) := by decide +kernel
theorem dX4_countWhileUp_40 : decode cX4_countWhileUp 40 = .ok (.aload_n 0, 1) := by decide +kernel
theorem dX4_countWhileUp_41 : decode cX4_countWhileUp 41 = .ok (.getfield 21, 3) := by decide +kernel
theorem dX4_countWhileUp_44 : decode cX4_countWhileUp 44 = .ok (.invokevirtual 181, 3) := by decide +kernel
theorem dX4_countWhileUp_47 : decode cX4_countWhileUp 47 = .ok (.ireturn, 1) := by decide +kernel
theorem dX4_countWhileUp_48 : decode cX4_countWhileUp 48 = .ok (.aload_n 0, 1) := by decide +kernel
theorem dX4_countWhileUp_49 : decode cX4_countWhileUp 49 = .ok (.getfield 10, 3) := by decide +kernel
theorem dX4_countWhileUp_52 : decode cX4_countWhileUp 52 = .ok (.iconst 0, 1) := by decide +kernel
theorem dX4_countWhileUp_53 : decode cX4_countWhileUp 53 = .ok (.iconst 1, 1) := by decide +kernel
theorem dX4_countWhileUp_54 : decode cX4_countWhileUp 54 = .ok (.invokevirtual 68, 3) := by decide +kernel
theorem dX4_countWhileUp_57 : decode cX4_countWhileUp 57 = .ok (.ireturn, 1) := by decide +kernel
theorem dX4_countWhileUp_58 : decode cX4_countWhileUp 58 = .ok (.aload_n 0, 1) := by decide +kernel
theorem dX4_countWhileUp_59 : decode cX4_countWhileUp 59 = .ok (.getfield 10, 3) := by decide +kernel
theorem dX4_countWhileUp_62 : decode cX4_countWhileUp 62 = .ok (.iconst 0, 1) := by decide +kernel
theorem dX4_countWhileUp_63 : decode cX4_countWhileUp 63 = .ok (.iconst 2, 1) := by decide +kernel
theorem dX4_countWhileUp_64 : decode cX4_countWhileUp 64 = .ok (.invokevirtual 68, 3) := by decide +kernel
theorem dX4_countWhileUp_67 : decode cX4_countWhileUp 67 = .ok (.ireturn, 1) := by decide +kernel
theorem dX4_countWhileUp_68 : decode cX4_countWhileUp 68 = .ok (.aload_n 0, 1) := by decide +kernel
theorem dX4_countWhileUp_69 : decode cX4_countWhileUp 69 = .ok (.getfield 21, 3) := by decide +kernel
theorem dX4_countWhileUp_72 : decode cX4_countWhileUp 72 = .ok (.invokevirtual 184, 3) := by decide +kernel
theorem dX4_countWhileUp_75 : decode cX4_countWhileUp 75 = .ok (.ireturn, 1) := by decide +kernel
theorem dX4_countWhileUp_76 : decode cX4_countWhileUp 76 = .ok (.aload_n 0, 1) := by decide +kernel
theorem dX4_countWhileUp_77 : decode cX4_countWhileUp 77 = .ok (.getfield 51, 3) := by decide +kernel
theorem dX4_countWhileUp_80 : decode cX4_countWhileUp 80 = .ok (.ifCond .eq 13, 3) := by decide +kernel
theorem dX4_countWhileUp_83 : decode cX4_countWhileUp 83 = .ok (.aload_n 0, 1) := by decide +kernel
theorem dX4_countWhileUp_84 : decode cX4_countWhileUp 84 = .ok (.getfield 44, 3) := by decide +kernel
theorem dX4_countWhileUp_87 : decode cX4_countWhileUp 87 = .ok (.invokevirtual 125, 3) := by decide +kernel
theorem dX4_countWhileUp_90 : decode cX4_countWhileUp 90 = .ok (.goto 5, 3) := by decide +kernel
theorem dX4_countWhileUp_93 : decode cX4_countWhileUp 93 = .ok (.bipush (-3), 2) := by decide +kernel
theorem dX4_countWhileUp_95 : decode cX4_countWhileUp 95 = .ok (.ireturn, 1) := by decide +kernel
theorem dX4_countWhileUp_96 : decode cX4_countWhileUp 96 = .ok (.aload_n 0, 1) := by decide +kernel
theorem dX4_countWhileUp_97 : decode cX4_countWhileUp 97 = .ok (.getfield 28, 3) := by decide +kernel
theorem dX4_countWhileUp_100 : decode cX4_countWhileUp 100 = .ok (.aload_n 0, 1) := by decide +kernel
theorem dX4_countWhileUp_101 : decode cX4_countWhileUp 101 = .ok (.getfield 37, 3) := by decide +kernel
theorem dX4_countWhileUp_104 : decode cX4_countWhileUp 104 = .ok (.invokevirtual 125, 3) := by decide +kernel
theorem dX4_countWhileUp_107 : decode cX4_countWhileUp 107 = .ok (.invokevirtual 142, 3) := by decide +kernel
theorem dX4_countWhileUp_110 : decode cX4_countWhileUp 110 = .ok (.ireturn, 1) := by decide +kernel
theorem dX4_countWhileUp_111 : decode cX4_countWhileUp 111 = .ok (.iconst 0, 1) := by decide +kernel
theorem dX4_countWhileUp_112 : decode cX4_countWhileUp 112 = .ok (.ireturn, 1) := by decide +kernel
theorem dX4_refusal_0 : decode cX4_refusal 0 = .ok (.aload_n 0, 1) := by decide +kernel
theorem dX4_refusal_1 : decode cX4_refusal 1 = .ok (.getfield 47, 3) := by decide +kernel
theorem dX4_refusal_4 : decode cX4_refusal 4 = .ok (.lookupswitch 34 #[(0, 28), (1, 31)], 28) := by decide +kernel
theorem dX4_refusal_32 : decode cX4_refusal 32 = .ok (.bipush (-7), 2) := by decide +kernel
theorem dX4_refusal_34 : decode cX4_refusal 34 = .ok (.ireturn, 1) := by decide +kernel
theorem dX4_refusal_35 : decode cX4_refusal 35 = .ok (.bipush (-2), 2) := by decide +kernel
theorem dX4_refusal_37 : decode cX4_refusal 37 = .ok (.ireturn, 1) := by decide +kernel
theorem dX4_refusal_38 : decode cX4_refusal 38 = .ok (.iconst (-1), 1) := by decide +kernel
theorem dX4_refusal_39 : decode cX4_refusal 39 = .ok (.ireturn, 1) := by decide +kernel
theorem dX4_fail_0 : decode cX4_fail 0 = .ok (.aload_n 0, 1) := by decide +kernel
theorem dX4_fail_1 : decode cX4_fail 1 = .ok (.iconst 3, 1) := by decide +kernel
theorem dX4_fail_2 : decode cX4_fail 2 = .ok (.putfield 47, 3) := by decide +kernel
theorem dX4_fail_5 : decode cX4_fail 5 = .ok (.iconst (-1), 1) := by decide +kernel
theorem dX4_fail_6 : decode cX4_fail 6 = .ok (.ireturn, 1) := by decide +kernel
theorem dX4_comeUp_0 : decode cX4_comeUp 0 = .ok (.aload_n 0, 1) := by decide +kernel
theorem dX4_comeUp_1 : decode cX4_comeUp 1 = .ok (.invokevirtual 139, 3) := by decide +kernel
theorem dX4_comeUp_4 : decode cX4_comeUp 4 = .ok (.aload_n 0, 1) := by decide +kernel
theorem dX4_comeUp_5 : decode cX4_comeUp 5 = .ok (.iconst 2, 1) := by decide +kernel
theorem dX4_comeUp_6 : decode cX4_comeUp 6 = .ok (.putfield 47, 3) := by decide +kernel
theorem dX4_comeUp_9 : decode cX4_comeUp 9 = .ok (.return_, 1) := by decide +kernel
theorem dX4_endTransaction_0 : decode cX4_endTransaction 0 = .ok (.aload_n 0, 1) := by decide +kernel
theorem dX4_endTransaction_1 : decode cX4_endTransaction 1 = .ok (.getfield 41, 3) := by decide +kernel
theorem dX4_endTransaction_4 : decode cX4_endTransaction 4 = .ok (.aload_n 0, 1) := by decide +kernel
theorem dX4_endTransaction_5 : decode cX4_endTransaction 5 = .ok (.getfield 37, 3) := by decide +kernel
theorem dX4_endTransaction_8 : decode cX4_endTransaction 8 = .ok (.invokevirtual 135, 3) := by decide +kernel
theorem dX4_endTransaction_11 : decode cX4_endTransaction 11 = .ok (.aload_n 0, 1) := by decide +kernel
theorem dX4_endTransaction_12 : decode cX4_endTransaction 12 = .ok (.getfield 44, 3) := by decide +kernel
theorem dX4_endTransaction_15 : decode cX4_endTransaction 15 = .ok (.invokevirtual 89, 3) := by decide +kernel
theorem dX4_endTransaction_18 : decode cX4_endTransaction 18 = .ok (.aload_n 0, 1) := by decide +kernel
theorem dX4_endTransaction_19 : decode cX4_endTransaction 19 = .ok (.iconst 0, 1) := by decide +kernel
theorem dX4_endTransaction_20 : decode cX4_endTransaction 20 = .ok (.putfield 51, 3) := by decide +kernel
theorem dX4_endTransaction_23 : decode cX4_endTransaction 23 = .ok (.return_, 1) := by decide +kernel
theorem dX4_hasRoomForChange_0 : decode cX4_hasRoomForChange 0 = .ok (.aload_n 0, 1) := by decide +kernel
theorem dX4_hasRoomForChange_1 : decode cX4_hasRoomForChange 1 = .ok (.getfield 44, 3) := by decide +kernel
theorem dX4_hasRoomForChange_4 : decode cX4_hasRoomForChange 4 = .ok (.invokevirtual 125, 3) := by decide +kernel
theorem dX4_hasRoomForChange_7 : decode cX4_hasRoomForChange 7 = .ok (.sipush 600, 3) := by decide +kernel
theorem dX4_hasRoomForChange_10 : decode cX4_hasRoomForChange 10 = .ok (.if_icmp .lt 14, 3) := by decide +kernel
theorem dX4_hasRoomForChange_13 : decode cX4_hasRoomForChange 13 = .ok (.aload_n 0, 1) := by decide +kernel
theorem dX4_hasRoomForChange_14 : decode cX4_hasRoomForChange 14 = .ok (.getfield 44, 3) := by decide +kernel
theorem dX4_hasRoomForChange_17 : decode cX4_hasRoomForChange 17 = .ok (.iload_n 1, 1) := by decide +kernel
theorem dX4_hasRoomForChange_18 : decode cX4_hasRoomForChange 18 = .ok (.invokevirtual 119, 3) := by decide +kernel
theorem dX4_hasRoomForChange_21 : decode cX4_hasRoomForChange 21 = .ok (.ifCond .eq 7, 3) := by decide +kernel
theorem dX4_hasRoomForChange_24 : decode cX4_hasRoomForChange 24 = .ok (.iconst 1, 1) := by decide +kernel
theorem dX4_hasRoomForChange_25 : decode cX4_hasRoomForChange 25 = .ok (.goto 4, 3) := by decide +kernel
theorem dX4_hasRoomForChange_28 : decode cX4_hasRoomForChange 28 = .ok (.iconst 0, 1) := by decide +kernel
theorem dX4_hasRoomForChange_29 : decode cX4_hasRoomForChange 29 = .ok (.ireturn, 1) := by decide +kernel
theorem dX4_writeHead_0 : decode cX4_writeHead 0 = .ok (.aload_n 0, 1) := by decide +kernel
theorem dX4_writeHead_1 : decode cX4_writeHead 1 = .ok (.getfield 10, 3) := by decide +kernel
theorem dX4_writeHead_4 : decode cX4_writeHead 4 = .ok (.invokevirtual 72, 3) := by decide +kernel
theorem dX4_writeHead_7 : decode cX4_writeHead 7 = .ok (.aload_n 0, 1) := by decide +kernel
theorem dX4_writeHead_8 : decode cX4_writeHead 8 = .ok (.getfield 10, 3) := by decide +kernel
theorem dX4_writeHead_11 : decode cX4_writeHead 11 = .ok (.iconst 0, 1) := by decide +kernel
theorem dX4_writeHead_12 : decode cX4_writeHead 12 = .ok (.ldc 104, 2) := by decide +kernel
theorem dX4_writeHead_14 : decode cX4_writeHead 14 = .ok (.invokevirtual 75, 3) := by decide +kernel
theorem dX4_writeHead_17 : decode cX4_writeHead 17 = .ok (.aload_n 0, 1) := by decide +kernel
theorem dX4_writeHead_18 : decode cX4_writeHead 18 = .ok (.getfield 10, 3) := by decide +kernel
theorem dX4_writeHead_21 : decode cX4_writeHead 21 = .ok (.iconst 1, 1) := by decide +kernel
theorem dX4_writeHead_22 : decode cX4_writeHead 22 = .ok (.iload_n 1, 1) := by decide +kernel
theorem dX4_writeHead_23 : decode cX4_writeHead 23 = .ok (.invokevirtual 75, 3) := by decide +kernel
theorem dX4_writeHead_26 : decode cX4_writeHead 26 = .ok (.aload_n 0, 1) := by decide +kernel
theorem dX4_writeHead_27 : decode cX4_writeHead 27 = .ok (.getfield 10, 3) := by decide +kernel
theorem dX4_writeHead_30 : decode cX4_writeHead 30 = .ok (.iconst 2, 1) := by decide +kernel
theorem dX4_writeHead_31 : decode cX4_writeHead 31 = .ok (.iload_n 2, 1) := by decide +kernel
theorem dX4_writeHead_32 : decode cX4_writeHead 32 = .ok (.invokevirtual 75, 3) := by decide +kernel
theorem dX4_writeHead_35 : decode cX4_writeHead 35 = .ok (.aload_n 0, 1) := by decide +kernel
theorem dX4_writeHead_36 : decode cX4_writeHead 36 = .ok (.getfield 10, 3) := by decide +kernel
theorem dX4_writeHead_39 : decode cX4_writeHead 39 = .ok (.iconst 3, 1) := by decide +kernel
theorem dX4_writeHead_40 : decode cX4_writeHead 40 = .ok (.iload_n 3, 1) := by decide +kernel
theorem dX4_writeHead_41 : decode cX4_writeHead 41 = .ok (.invokevirtual 75, 3) := by decide +kernel
theorem dX4_writeHead_44 : decode cX4_writeHead 44 = .ok (.aload_n 0, 1) := by decide +kernel
theorem dX4_writeHead_45 : decode cX4_writeHead 45 = .ok (.getfield 10, 3) := by decide +kernel
theorem dX4_writeHead_48 : decode cX4_writeHead 48 = .ok (.iconst 4, 1) := by decide +kernel
theorem dX4_writeHead_49 : decode cX4_writeHead 49 = .ok (.iload 4, 2) := by decide +kernel
theorem dX4_writeHead_51 : decode cX4_writeHead 51 = .ok (.invokevirtual 75, 3) := by decide +kernel
theorem dX4_writeHead_54 : decode cX4_writeHead 54 = .ok (.aload_n 0, 1) := by decide +kernel
theorem dX4_writeHead_55 : decode cX4_writeHead 55 = .ok (.getfield 10, 3) := by decide +kernel
theorem dX4_writeHead_58 : decode cX4_writeHead 58 = .ok (.iconst 5, 1) := by decide +kernel
theorem dX4_writeHead_59 : decode cX4_writeHead 59 = .ok (.iload 5, 2) := by decide +kernel
theorem dX4_writeHead_61 : decode cX4_writeHead 61 = .ok (.invokevirtual 75, 3) := by decide +kernel
theorem dX4_writeHead_64 : decode cX4_writeHead 64 = .ok (.aload_n 0, 1) := by decide +kernel
theorem dX4_writeHead_65 : decode cX4_writeHead 65 = .ok (.getfield 10, 3) := by decide +kernel
theorem dX4_writeHead_68 : decode cX4_writeHead 68 = .ok (.iconst 0, 1) := by decide +kernel
theorem dX4_writeHead_69 : decode cX4_writeHead 69 = .ok (.invokevirtual 78, 3) := by decide +kernel
theorem dX4_writeHead_72 : decode cX4_writeHead 72 = .ok (.ireturn, 1) := by decide +kernel
theorem dX4_blocksOf_0 : decode cX4_blocksOf 0 = .ok (.iload_n 0, 1) := by decide +kernel
theorem dX4_blocksOf_1 : decode cX4_blocksOf 1 = .ok (.iconst 1, 1) := by decide +kernel
theorem dX4_blocksOf_2 : decode cX4_blocksOf 2 = .ok (.if_icmp .lt 8, 3) := by decide +kernel
theorem dX4_blocksOf_5 : decode cX4_blocksOf 5 = .ok (.iload_n 1, 1) := by decide +kernel
theorem dX4_blocksOf_6 : decode cX4_blocksOf 6 = .ok (.iconst 1, 1) := by decide +kernel
theorem dX4_blocksOf_7 : decode cX4_blocksOf 7 = .ok (.if_icmp .ge 5, 3) := by decide +kernel
theorem dX4_blocksOf_10 : decode cX4_blocksOf 10 = .ok (.iconst 0, 1) := by decide +kernel
theorem dX4_blocksOf_11 : decode cX4_blocksOf 11 = .ok (.ireturn, 1) := by decide +kernel
theorem dX4_blocksOf_12 : decode cX4_blocksOf 12 = .ok (.iload_n 0, 1) := by decide +kernel
theorem dX4_blocksOf_13 : decode cX4_blocksOf 13 = .ok (.iconst 1, 1) := by decide +kernel
theorem dX4_blocksOf_14 : decode cX4_blocksOf 14 = .ok (.isub, 1) := by decide +kernel
theorem dX4_blocksOf_15 : decode cX4_blocksOf 15 = .ok (.iload_n 1, 1) := by decide +kernel
theorem dX4_blocksOf_16 : decode cX4_blocksOf 16 = .ok (.idiv, 1) := by decide +kernel
theorem dX4_blocksOf_17 : decode cX4_blocksOf 17 = .ok (.iconst 1, 1) := by decide +kernel
theorem dX4_blocksOf_18 : decode cX4_blocksOf 18 = .ok (.iadd, 1) := by decide +kernel
theorem dX4_blocksOf_19 : decode cX4_blocksOf 19 = .ok (.ireturn, 1) := by decide +kernel
theorem dL_law_0 : decode cL_law 0 = .ok (.new 7, 3) := by decide +kernel
theorem dL_law_3 : decode cL_law 3 = .ok (.dup, 1) := by decide +kernel
theorem dL_law_4 : decode cL_law 4 = .ok (.invokespecial 9, 3) := by decide +kernel
theorem dL_law_7 : decode cL_law 7 = .ok (.astore_n 1, 1) := by decide +kernel
theorem dL_law_8 : decode cL_law 8 = .ok (.new 10, 3) := by decide +kernel
theorem dL_law_11 : decode cL_law 11 = .ok (.dup, 1) := by decide +kernel
theorem dL_law_12 : decode cL_law 12 = .ok (.invokespecial 12, 3) := by decide +kernel
theorem dL_law_15 : decode cL_law 15 = .ok (.astore_n 2, 1) := by decide +kernel
theorem dL_law_16 : decode cL_law 16 = .ok (.iconst 0, 1) := by decide +kernel
theorem dL_law_17 : decode cL_law 17 = .ok (.istore_n 3, 1) := by decide +kernel
theorem dL_law_18 : decode cL_law 18 = .ok (.iload_n 3, 1) := by decide +kernel
theorem dL_law_19 : decode cL_law 19 = .ok (.aload_n 0, 1) := by decide +kernel
theorem dL_law_20 : decode cL_law 20 = .ok (.arraylength, 1) := by decide +kernel
theorem dL_law_21 : decode cL_law 21 = .ok (.iconst 4, 1) := by decide +kernel
theorem dL_law_22 : decode cL_law 22 = .ok (.isub, 1) := by decide +kernel
theorem dL_law_23 : decode cL_law 23 = .ok (.if_icmp .gt 498, 3) := by decide +kernel
theorem dL_law_26 : decode cL_law 26 = .ok (.aload_n 0, 1) := by decide +kernel
theorem dL_law_27 : decode cL_law 27 = .ok (.iload_n 3, 1) := by decide +kernel
theorem dL_law_28 : decode cL_law 28 = .ok (.iaload, 1) := by decide +kernel
theorem dL_law_29 : decode cL_law 29 = .ok (.bipush 31, 2) := by decide +kernel
theorem dL_law_31 : decode cL_law 31 = .ok (.iand, 1) := by decide +kernel
theorem dL_law_32 : decode cL_law 32 = .ok (.tableswitch 483 0 17 #[88, 131, 144, 167, 180, 193, 226, 249, 262, 275, 288, 311, 334, 347, 370, 414, 447, 460], 88) := by decide +kernel
theorem dL_law_120 : decode cL_law 120 = .ok (.aload_n 1, 1) := by decide +kernel
theorem dL_law_121 : decode cL_law 121 = .ok (.aload_n 0, 1) := by decide +kernel
theorem dL_law_122 : decode cL_law 122 = .ok (.iload_n 3, 1) := by decide +kernel
theorem dL_law_123 : decode cL_law 123 = .ok (.iconst 1, 1) := by decide +kernel
theorem dL_law_124 : decode cL_law 124 = .ok (.iadd, 1) := by decide +kernel
theorem dL_law_125 : decode cL_law 125 = .ok (.iaload, 1) := by decide +kernel
theorem dL_law_126 : decode cL_law 126 = .ok (.aload_n 0, 1) := by decide +kernel
theorem dL_law_127 : decode cL_law 127 = .ok (.iload_n 3, 1) := by decide +kernel
theorem dL_law_128 : decode cL_law 128 = .ok (.iconst 2, 1) := by decide +kernel
theorem dL_law_129 : decode cL_law 129 = .ok (.iadd, 1) := by decide +kernel
theorem dL_law_130 : decode cL_law 130 = .ok (.iaload, 1) := by decide +kernel
theorem dL_law_131 : decode cL_law 131 = .ok (.aload_n 0, 1) := by decide +kernel
theorem dL_law_132 : decode cL_law 132 = .ok (.iload_n 3, 1) := by decide +kernel
theorem dL_law_133 : decode cL_law 133 = .ok (.iconst 3, 1) := by decide +kernel
theorem dL_law_134 : decode cL_law 134 = .ok (.iadd, 1) := by decide +kernel
theorem dL_law_135 : decode cL_law 135 = .ok (.iaload, 1) := by decide +kernel
theorem dL_law_136 : decode cL_law 136 = .ok (.invokevirtual 13, 3) := by decide +kernel
theorem dL_law_139 : decode cL_law 139 = .ok (.aload_n 2, 1) := by decide +kernel
theorem dL_law_140 : decode cL_law 140 = .ok (.aload_n 0, 1) := by decide +kernel
theorem dL_law_141 : decode cL_law 141 = .ok (.iload_n 3, 1) := by decide +kernel
theorem dL_law_142 : decode cL_law 142 = .ok (.iconst 1, 1) := by decide +kernel
theorem dL_law_143 : decode cL_law 143 = .ok (.iadd, 1) := by decide +kernel
theorem dL_law_144 : decode cL_law 144 = .ok (.iaload, 1) := by decide +kernel
theorem dL_law_145 : decode cL_law 145 = .ok (.aload_n 0, 1) := by decide +kernel
theorem dL_law_146 : decode cL_law 146 = .ok (.iload_n 3, 1) := by decide +kernel
theorem dL_law_147 : decode cL_law 147 = .ok (.iconst 2, 1) := by decide +kernel
theorem dL_law_148 : decode cL_law 148 = .ok (.iadd, 1) := by decide +kernel
theorem dL_law_149 : decode cL_law 149 = .ok (.iaload, 1) := by decide +kernel
theorem dL_law_150 : decode cL_law 150 = .ok (.aload_n 0, 1) := by decide +kernel
theorem dL_law_151 : decode cL_law 151 = .ok (.iload_n 3, 1) := by decide +kernel
theorem dL_law_152 : decode cL_law 152 = .ok (.iconst 3, 1) := by decide +kernel
theorem dL_law_153 : decode cL_law 153 = .ok (.iadd, 1) := by decide +kernel
theorem dL_law_154 : decode cL_law 154 = .ok (.iaload, 1) := by decide +kernel
theorem dL_law_155 : decode cL_law 155 = .ok (.invokevirtual 17, 3) := by decide +kernel
theorem dL_law_158 : decode cL_law 158 = .ok (.if_icmp .eq 357, 3) := by decide +kernel
theorem dL_law_161 : decode cL_law 161 = .ok (.iconst 0, 1) := by decide +kernel
theorem dL_law_162 : decode cL_law 162 = .ok (.ireturn, 1) := by decide +kernel
theorem dL_law_163 : decode cL_law 163 = .ok (.aload_n 1, 1) := by decide +kernel
theorem dL_law_164 : decode cL_law 164 = .ok (.invokevirtual 18, 3) := by decide +kernel
theorem dL_law_167 : decode cL_law 167 = .ok (.aload_n 2, 1) := by decide +kernel
theorem dL_law_168 : decode cL_law 168 = .ok (.invokevirtual 22, 3) := by decide +kernel
theorem dL_law_171 : decode cL_law 171 = .ok (.if_icmp .eq 344, 3) := by decide +kernel
theorem dL_law_174 : decode cL_law 174 = .ok (.iconst 0, 1) := by decide +kernel
theorem dL_law_175 : decode cL_law 175 = .ok (.ireturn, 1) := by decide +kernel
theorem dL_law_176 : decode cL_law 176 = .ok (.aload_n 1, 1) := by decide +kernel
theorem dL_law_177 : decode cL_law 177 = .ok (.aload_n 0, 1) := by decide +kernel
theorem dL_law_178 : decode cL_law 178 = .ok (.iload_n 3, 1) := by decide +kernel
theorem dL_law_179 : decode cL_law 179 = .ok (.iconst 1, 1) := by decide +kernel
theorem dL_law_180 : decode cL_law 180 = .ok (.iadd, 1) := by decide +kernel
theorem dL_law_181 : decode cL_law 181 = .ok (.iaload, 1) := by decide +kernel
theorem dL_law_182 : decode cL_law 182 = .ok (.invokevirtual 23, 3) := by decide +kernel
theorem dL_law_185 : decode cL_law 185 = .ok (.aload_n 2, 1) := by decide +kernel
theorem dL_law_186 : decode cL_law 186 = .ok (.aload_n 0, 1) := by decide +kernel
theorem dL_law_187 : decode cL_law 187 = .ok (.iload_n 3, 1) := by decide +kernel
theorem dL_law_188 : decode cL_law 188 = .ok (.iconst 1, 1) := by decide +kernel
theorem dL_law_189 : decode cL_law 189 = .ok (.iadd, 1) := by decide +kernel
theorem dL_law_190 : decode cL_law 190 = .ok (.iaload, 1) := by decide +kernel
theorem dL_law_191 : decode cL_law 191 = .ok (.invokevirtual 27, 3) := by decide +kernel
theorem dL_law_194 : decode cL_law 194 = .ok (.if_icmp .eq 321, 3) := by decide +kernel
theorem dL_law_197 : decode cL_law 197 = .ok (.iconst 0, 1) := by decide +kernel
theorem dL_law_198 : decode cL_law 198 = .ok (.ireturn, 1) := by decide +kernel
theorem dL_law_199 : decode cL_law 199 = .ok (.aload_n 1, 1) := by decide +kernel
theorem dL_law_200 : decode cL_law 200 = .ok (.invokevirtual 28, 3) := by decide +kernel
theorem dL_law_203 : decode cL_law 203 = .ok (.aload_n 2, 1) := by decide +kernel
theorem dL_law_204 : decode cL_law 204 = .ok (.invokevirtual 31, 3) := by decide +kernel
theorem dL_law_207 : decode cL_law 207 = .ok (.if_icmp .eq 308, 3) := by decide +kernel
theorem dL_law_210 : decode cL_law 210 = .ok (.iconst 0, 1) := by decide +kernel
theorem dL_law_211 : decode cL_law 211 = .ok (.ireturn, 1) := by decide +kernel
theorem dL_law_212 : decode cL_law 212 = .ok (.aload_n 1, 1) := by decide +kernel
theorem dL_law_213 : decode cL_law 213 = .ok (.invokevirtual 32, 3) := by decide +kernel
theorem dL_law_216 : decode cL_law 216 = .ok (.aload_n 2, 1) := by decide +kernel
theorem dL_law_217 : decode cL_law 217 = .ok (.invokevirtual 35, 3) := by decide +kernel
theorem dL_law_220 : decode cL_law 220 = .ok (.if_icmp .eq 295, 3) := by decide +kernel
theorem dL_law_223 : decode cL_law 223 = .ok (.iconst 0, 1) := by decide +kernel
theorem dL_law_224 : decode cL_law 224 = .ok (.ireturn, 1) := by decide +kernel
theorem dL_law_225 : decode cL_law 225 = .ok (.aload_n 1, 1) := by decide +kernel
theorem dL_law_226 : decode cL_law 226 = .ok (.aload_n 0, 1) := by decide +kernel
theorem dL_law_227 : decode cL_law 227 = .ok (.iload_n 3, 1) := by decide +kernel
theorem dL_law_228 : decode cL_law 228 = .ok (.iconst 1, 1) := by decide +kernel
theorem dL_law_229 : decode cL_law 229 = .ok (.iadd, 1) := by decide +kernel
theorem dL_law_230 : decode cL_law 230 = .ok (.iaload, 1) := by decide +kernel
theorem dL_law_231 : decode cL_law 231 = .ok (.aload_n 0, 1) := by decide +kernel
theorem dL_law_232 : decode cL_law 232 = .ok (.iload_n 3, 1) := by decide +kernel
theorem dL_law_233 : decode cL_law 233 = .ok (.iconst 2, 1) := by decide +kernel
theorem dL_law_234 : decode cL_law 234 = .ok (.iadd, 1) := by decide +kernel
theorem dL_law_235 : decode cL_law 235 = .ok (.iaload, 1) := by decide +kernel
theorem dL_law_236 : decode cL_law 236 = .ok (.invokevirtual 36, 3) := by decide +kernel
theorem dL_law_239 : decode cL_law 239 = .ok (.aload_n 2, 1) := by decide +kernel
theorem dL_law_240 : decode cL_law 240 = .ok (.aload_n 0, 1) := by decide +kernel
theorem dL_law_241 : decode cL_law 241 = .ok (.iload_n 3, 1) := by decide +kernel
theorem dL_law_242 : decode cL_law 242 = .ok (.iconst 1, 1) := by decide +kernel
theorem dL_law_243 : decode cL_law 243 = .ok (.iadd, 1) := by decide +kernel
theorem dL_law_244 : decode cL_law 244 = .ok (.iaload, 1) := by decide +kernel
theorem dL_law_245 : decode cL_law 245 = .ok (.aload_n 0, 1) := by decide +kernel
theorem dL_law_246 : decode cL_law 246 = .ok (.iload_n 3, 1) := by decide +kernel
theorem dL_law_247 : decode cL_law 247 = .ok (.iconst 2, 1) := by decide +kernel
theorem dL_law_248 : decode cL_law 248 = .ok (.iadd, 1) := by decide +kernel
theorem dL_law_249 : decode cL_law 249 = .ok (.iaload, 1) := by decide +kernel
theorem dL_law_250 : decode cL_law 250 = .ok (.invokevirtual 40, 3) := by decide +kernel
theorem dL_law_253 : decode cL_law 253 = .ok (.if_icmp .eq 262, 3) := by decide +kernel
theorem dL_law_256 : decode cL_law 256 = .ok (.iconst 0, 1) := by decide +kernel
theorem dL_law_257 : decode cL_law 257 = .ok (.ireturn, 1) := by decide +kernel
theorem dL_law_258 : decode cL_law 258 = .ok (.aload_n 1, 1) := by decide +kernel
theorem dL_law_259 : decode cL_law 259 = .ok (.aload_n 0, 1) := by decide +kernel
theorem dL_law_260 : decode cL_law 260 = .ok (.iload_n 3, 1) := by decide +kernel
theorem dL_law_261 : decode cL_law 261 = .ok (.iconst 1, 1) := by decide +kernel
theorem dL_law_262 : decode cL_law 262 = .ok (.iadd, 1) := by decide +kernel
theorem dL_law_263 : decode cL_law 263 = .ok (.iaload, 1) := by decide +kernel
theorem dL_law_264 : decode cL_law 264 = .ok (.invokevirtual 41, 3) := by decide +kernel
theorem dL_law_267 : decode cL_law 267 = .ok (.aload_n 2, 1) := by decide +kernel
theorem dL_law_268 : decode cL_law 268 = .ok (.aload_n 0, 1) := by decide +kernel
theorem dL_law_269 : decode cL_law 269 = .ok (.iload_n 3, 1) := by decide +kernel
theorem dL_law_270 : decode cL_law 270 = .ok (.iconst 1, 1) := by decide +kernel
theorem dL_law_271 : decode cL_law 271 = .ok (.iadd, 1) := by decide +kernel
theorem dL_law_272 : decode cL_law 272 = .ok (.iaload, 1) := by decide +kernel
theorem dL_law_273 : decode cL_law 273 = .ok (.invokevirtual 44, 3) := by decide +kernel
theorem dL_law_276 : decode cL_law 276 = .ok (.if_icmp .eq 239, 3) := by decide +kernel
theorem dL_law_279 : decode cL_law 279 = .ok (.iconst 0, 1) := by decide +kernel
theorem dL_law_280 : decode cL_law 280 = .ok (.ireturn, 1) := by decide +kernel
theorem dL_law_281 : decode cL_law 281 = .ok (.aload_n 1, 1) := by decide +kernel
theorem dL_law_282 : decode cL_law 282 = .ok (.invokevirtual 45, 3) := by decide +kernel
theorem dL_law_285 : decode cL_law 285 = .ok (.aload_n 2, 1) := by decide +kernel
theorem dL_law_286 : decode cL_law 286 = .ok (.invokevirtual 48, 3) := by decide +kernel
theorem dL_law_289 : decode cL_law 289 = .ok (.if_icmp .eq 226, 3) := by decide +kernel
theorem dL_law_292 : decode cL_law 292 = .ok (.iconst 0, 1) := by decide +kernel
theorem dL_law_293 : decode cL_law 293 = .ok (.ireturn, 1) := by decide +kernel
theorem dL_law_294 : decode cL_law 294 = .ok (.aload_n 1, 1) := by decide +kernel
theorem dL_law_295 : decode cL_law 295 = .ok (.invokevirtual 49, 3) := by decide +kernel
theorem dL_law_298 : decode cL_law 298 = .ok (.aload_n 2, 1) := by decide +kernel
theorem dL_law_299 : decode cL_law 299 = .ok (.invokevirtual 52, 3) := by decide +kernel
theorem dL_law_302 : decode cL_law 302 = .ok (.if_icmp .eq 213, 3) := by decide +kernel
theorem dL_law_305 : decode cL_law 305 = .ok (.iconst 0, 1) := by decide +kernel
theorem dL_law_306 : decode cL_law 306 = .ok (.ireturn, 1) := by decide +kernel
theorem dL_law_307 : decode cL_law 307 = .ok (.aload_n 1, 1) := by decide +kernel
theorem dL_law_308 : decode cL_law 308 = .ok (.invokevirtual 53, 3) := by decide +kernel
theorem dL_law_311 : decode cL_law 311 = .ok (.aload_n 2, 1) := by decide +kernel
theorem dL_law_312 : decode cL_law 312 = .ok (.invokevirtual 56, 3) := by decide +kernel
theorem dL_law_315 : decode cL_law 315 = .ok (.if_icmp .eq 200, 3) := by decide +kernel
theorem dL_law_318 : decode cL_law 318 = .ok (.iconst 0, 1) := by decide +kernel
theorem dL_law_319 : decode cL_law 319 = .ok (.ireturn, 1) := by decide +kernel
theorem dL_law_320 : decode cL_law 320 = .ok (.aload_n 1, 1) := by decide +kernel
theorem dL_law_321 : decode cL_law 321 = .ok (.aload_n 0, 1) := by decide +kernel
theorem dL_law_322 : decode cL_law 322 = .ok (.iload_n 3, 1) := by decide +kernel
theorem dL_law_323 : decode cL_law 323 = .ok (.iconst 1, 1) := by decide +kernel
theorem dL_law_324 : decode cL_law 324 = .ok (.iadd, 1) := by decide +kernel
theorem dL_law_325 : decode cL_law 325 = .ok (.iaload, 1) := by decide +kernel
theorem dL_law_326 : decode cL_law 326 = .ok (.invokevirtual 57, 3) := by decide +kernel
theorem dL_law_329 : decode cL_law 329 = .ok (.aload_n 2, 1) := by decide +kernel
theorem dL_law_330 : decode cL_law 330 = .ok (.aload_n 0, 1) := by decide +kernel
theorem dL_law_331 : decode cL_law 331 = .ok (.iload_n 3, 1) := by decide +kernel
theorem dL_law_332 : decode cL_law 332 = .ok (.iconst 1, 1) := by decide +kernel
theorem dL_law_333 : decode cL_law 333 = .ok (.iadd, 1) := by decide +kernel
theorem dL_law_334 : decode cL_law 334 = .ok (.iaload, 1) := by decide +kernel
theorem dL_law_335 : decode cL_law 335 = .ok (.invokevirtual 60, 3) := by decide +kernel
theorem dL_law_338 : decode cL_law 338 = .ok (.if_icmp .eq 177, 3) := by decide +kernel
theorem dL_law_341 : decode cL_law 341 = .ok (.iconst 0, 1) := by decide +kernel
theorem dL_law_342 : decode cL_law 342 = .ok (.ireturn, 1) := by decide +kernel
theorem dL_law_343 : decode cL_law 343 = .ok (.aload_n 1, 1) := by decide +kernel
theorem dL_law_344 : decode cL_law 344 = .ok (.aload_n 0, 1) := by decide +kernel
theorem dL_law_345 : decode cL_law 345 = .ok (.iload_n 3, 1) := by decide +kernel
theorem dL_law_346 : decode cL_law 346 = .ok (.iconst 1, 1) := by decide +kernel
theorem dL_law_347 : decode cL_law 347 = .ok (.iadd, 1) := by decide +kernel
theorem dL_law_348 : decode cL_law 348 = .ok (.iaload, 1) := by decide +kernel
theorem dL_law_349 : decode cL_law 349 = .ok (.invokevirtual 61, 3) := by decide +kernel
theorem dL_law_352 : decode cL_law 352 = .ok (.aload_n 2, 1) := by decide +kernel
theorem dL_law_353 : decode cL_law 353 = .ok (.aload_n 0, 1) := by decide +kernel
theorem dL_law_354 : decode cL_law 354 = .ok (.iload_n 3, 1) := by decide +kernel
theorem dL_law_355 : decode cL_law 355 = .ok (.iconst 1, 1) := by decide +kernel
theorem dL_law_356 : decode cL_law 356 = .ok (.iadd, 1) := by decide +kernel
theorem dL_law_357 : decode cL_law 357 = .ok (.iaload, 1) := by decide +kernel
theorem dL_law_358 : decode cL_law 358 = .ok (.invokevirtual 65, 3) := by decide +kernel
theorem dL_law_361 : decode cL_law 361 = .ok (.if_icmp .eq 154, 3) := by decide +kernel
theorem dL_law_364 : decode cL_law 364 = .ok (.iconst 0, 1) := by decide +kernel
theorem dL_law_365 : decode cL_law 365 = .ok (.ireturn, 1) := by decide +kernel
theorem dL_law_366 : decode cL_law 366 = .ok (.aload_n 1, 1) := by decide +kernel
theorem dL_law_367 : decode cL_law 367 = .ok (.invokevirtual 66, 3) := by decide +kernel
theorem dL_law_370 : decode cL_law 370 = .ok (.aload_n 2, 1) := by decide +kernel
theorem dL_law_371 : decode cL_law 371 = .ok (.invokevirtual 69, 3) := by decide +kernel
theorem dL_law_374 : decode cL_law 374 = .ok (.if_icmp .eq 141, 3) := by decide +kernel
theorem dL_law_377 : decode cL_law 377 = .ok (.iconst 0, 1) := by decide +kernel
theorem dL_law_378 : decode cL_law 378 = .ok (.ireturn, 1) := by decide +kernel
theorem dL_law_379 : decode cL_law 379 = .ok (.aload_n 1, 1) := by decide +kernel
theorem dL_law_380 : decode cL_law 380 = .ok (.aload_n 0, 1) := by decide +kernel
theorem dL_law_381 : decode cL_law 381 = .ok (.iload_n 3, 1) := by decide +kernel
theorem dL_law_382 : decode cL_law 382 = .ok (.iconst 1, 1) := by decide +kernel
theorem dL_law_383 : decode cL_law 383 = .ok (.iadd, 1) := by decide +kernel
theorem dL_law_384 : decode cL_law 384 = .ok (.iaload, 1) := by decide +kernel
theorem dL_law_385 : decode cL_law 385 = .ok (.invokevirtual 70, 3) := by decide +kernel
theorem dL_law_388 : decode cL_law 388 = .ok (.aload_n 2, 1) := by decide +kernel
theorem dL_law_389 : decode cL_law 389 = .ok (.aload_n 0, 1) := by decide +kernel
theorem dL_law_390 : decode cL_law 390 = .ok (.iload_n 3, 1) := by decide +kernel
theorem dL_law_391 : decode cL_law 391 = .ok (.iconst 1, 1) := by decide +kernel
theorem dL_law_392 : decode cL_law 392 = .ok (.iadd, 1) := by decide +kernel
theorem dL_law_393 : decode cL_law 393 = .ok (.iaload, 1) := by decide +kernel
theorem dL_law_394 : decode cL_law 394 = .ok (.invokevirtual 73, 3) := by decide +kernel
theorem dL_law_397 : decode cL_law 397 = .ok (.if_icmp .eq 118, 3) := by decide +kernel
theorem dL_law_400 : decode cL_law 400 = .ok (.iconst 0, 1) := by decide +kernel
theorem dL_law_401 : decode cL_law 401 = .ok (.ireturn, 1) := by decide +kernel
theorem dL_law_402 : decode cL_law 402 = .ok (.aload_n 1, 1) := by decide +kernel
theorem dL_law_403 : decode cL_law 403 = .ok (.aload_n 0, 1) := by decide +kernel
theorem dL_law_404 : decode cL_law 404 = .ok (.iload_n 3, 1) := by decide +kernel
theorem dL_law_405 : decode cL_law 405 = .ok (.iconst 1, 1) := by decide +kernel
theorem dL_law_406 : decode cL_law 406 = .ok (.iadd, 1) := by decide +kernel
theorem dL_law_407 : decode cL_law 407 = .ok (.iaload, 1) := by decide +kernel
theorem dL_law_408 : decode cL_law 408 = .ok (.aload_n 0, 1) := by decide +kernel
theorem dL_law_409 : decode cL_law 409 = .ok (.iload_n 3, 1) := by decide +kernel
theorem dL_law_410 : decode cL_law 410 = .ok (.iconst 2, 1) := by decide +kernel
theorem dL_law_411 : decode cL_law 411 = .ok (.iadd, 1) := by decide +kernel
theorem dL_law_412 : decode cL_law 412 = .ok (.iaload, 1) := by decide +kernel
theorem dL_law_413 : decode cL_law 413 = .ok (.aload_n 0, 1) := by decide +kernel
theorem dL_law_414 : decode cL_law 414 = .ok (.iload_n 3, 1) := by decide +kernel
theorem dL_law_415 : decode cL_law 415 = .ok (.iconst 3, 1) := by decide +kernel
theorem dL_law_416 : decode cL_law 416 = .ok (.iadd, 1) := by decide +kernel
theorem dL_law_417 : decode cL_law 417 = .ok (.iaload, 1) := by decide +kernel
theorem dL_law_418 : decode cL_law 418 = .ok (.invokevirtual 74, 3) := by decide +kernel
theorem dL_law_421 : decode cL_law 421 = .ok (.aload_n 2, 1) := by decide +kernel
theorem dL_law_422 : decode cL_law 422 = .ok (.aload_n 0, 1) := by decide +kernel
theorem dL_law_423 : decode cL_law 423 = .ok (.iload_n 3, 1) := by decide +kernel
theorem dL_law_424 : decode cL_law 424 = .ok (.iconst 1, 1) := by decide +kernel
theorem dL_law_425 : decode cL_law 425 = .ok (.iadd, 1) := by decide +kernel
theorem dL_law_426 : decode cL_law 426 = .ok (.iaload, 1) := by decide +kernel
theorem dL_law_427 : decode cL_law 427 = .ok (.aload_n 0, 1) := by decide +kernel
theorem dL_law_428 : decode cL_law 428 = .ok (.iload_n 3, 1) := by decide +kernel
theorem dL_law_429 : decode cL_law 429 = .ok (.iconst 2, 1) := by decide +kernel
theorem dL_law_430 : decode cL_law 430 = .ok (.iadd, 1) := by decide +kernel
theorem dL_law_431 : decode cL_law 431 = .ok (.iaload, 1) := by decide +kernel
theorem dL_law_432 : decode cL_law 432 = .ok (.aload_n 0, 1) := by decide +kernel
theorem dL_law_433 : decode cL_law 433 = .ok (.iload_n 3, 1) := by decide +kernel
theorem dL_law_434 : decode cL_law 434 = .ok (.iconst 3, 1) := by decide +kernel
theorem dL_law_435 : decode cL_law 435 = .ok (.iadd, 1) := by decide +kernel
theorem dL_law_436 : decode cL_law 436 = .ok (.iaload, 1) := by decide +kernel
theorem dL_law_437 : decode cL_law 437 = .ok (.invokevirtual 78, 3) := by decide +kernel
theorem dL_law_440 : decode cL_law 440 = .ok (.lcmp, 1) := by decide +kernel
theorem dL_law_441 : decode cL_law 441 = .ok (.ifCond .eq 74, 3) := by decide +kernel
theorem dL_law_444 : decode cL_law 444 = .ok (.iconst 0, 1) := by decide +kernel
theorem dL_law_445 : decode cL_law 445 = .ok (.ireturn, 1) := by decide +kernel
theorem dL_law_446 : decode cL_law 446 = .ok (.aload_n 1, 1) := by decide +kernel
theorem dL_law_447 : decode cL_law 447 = .ok (.aload_n 0, 1) := by decide +kernel
theorem dL_law_448 : decode cL_law 448 = .ok (.iload_n 3, 1) := by decide +kernel
theorem dL_law_449 : decode cL_law 449 = .ok (.iconst 1, 1) := by decide +kernel
theorem dL_law_450 : decode cL_law 450 = .ok (.iadd, 1) := by decide +kernel
theorem dL_law_451 : decode cL_law 451 = .ok (.iaload, 1) := by decide +kernel
theorem dL_law_452 : decode cL_law 452 = .ok (.aload_n 0, 1) := by decide +kernel
theorem dL_law_453 : decode cL_law 453 = .ok (.iload_n 3, 1) := by decide +kernel
theorem dL_law_454 : decode cL_law 454 = .ok (.iconst 2, 1) := by decide +kernel
theorem dL_law_455 : decode cL_law 455 = .ok (.iadd, 1) := by decide +kernel
theorem dL_law_456 : decode cL_law 456 = .ok (.iaload, 1) := by decide +kernel
theorem dL_law_457 : decode cL_law 457 = .ok (.invokevirtual 79, 3) := by decide +kernel
theorem dL_law_460 : decode cL_law 460 = .ok (.aload_n 2, 1) := by decide +kernel
theorem dL_law_461 : decode cL_law 461 = .ok (.aload_n 0, 1) := by decide +kernel
theorem dL_law_462 : decode cL_law 462 = .ok (.iload_n 3, 1) := by decide +kernel
theorem dL_law_463 : decode cL_law 463 = .ok (.iconst 1, 1) := by decide +kernel
theorem dL_law_464 : decode cL_law 464 = .ok (.iadd, 1) := by decide +kernel
theorem dL_law_465 : decode cL_law 465 = .ok (.iaload, 1) := by decide +kernel
theorem dL_law_466 : decode cL_law 466 = .ok (.aload_n 0, 1) := by decide +kernel
theorem dL_law_467 : decode cL_law 467 = .ok (.iload_n 3, 1) := by decide +kernel
theorem dL_law_468 : decode cL_law 468 = .ok (.iconst 2, 1) := by decide +kernel
theorem dL_law_469 : decode cL_law 469 = .ok (.iadd, 1) := by decide +kernel
theorem dL_law_470 : decode cL_law 470 = .ok (.iaload, 1) := by decide +kernel
theorem dL_law_471 : decode cL_law 471 = .ok (.invokevirtual 82, 3) := by decide +kernel
theorem dL_law_474 : decode cL_law 474 = .ok (.if_icmp .eq 41, 3) := by decide +kernel
theorem dL_law_477 : decode cL_law 477 = .ok (.iconst 0, 1) := by decide +kernel
theorem dL_law_478 : decode cL_law 478 = .ok (.ireturn, 1) := by decide +kernel
theorem dL_law_479 : decode cL_law 479 = .ok (.aload_n 1, 1) := by decide +kernel
theorem dL_law_480 : decode cL_law 480 = .ok (.invokevirtual 83, 3) := by decide +kernel
theorem dL_law_483 : decode cL_law 483 = .ok (.aload_n 2, 1) := by decide +kernel
theorem dL_law_484 : decode cL_law 484 = .ok (.invokevirtual 86, 3) := by decide +kernel
theorem dL_law_487 : decode cL_law 487 = .ok (.if_icmp .eq 28, 3) := by decide +kernel
theorem dL_law_490 : decode cL_law 490 = .ok (.iconst 0, 1) := by decide +kernel
theorem dL_law_491 : decode cL_law 491 = .ok (.ireturn, 1) := by decide +kernel
theorem dL_law_492 : decode cL_law 492 = .ok (.aload_n 1, 1) := by decide +kernel
theorem dL_law_493 : decode cL_law 493 = .ok (.aload_n 0, 1) := by decide +kernel
theorem dL_law_494 : decode cL_law 494 = .ok (.iload_n 3, 1) := by decide +kernel
theorem dL_law_495 : decode cL_law 495 = .ok (.iconst 1, 1) := by decide +kernel
theorem dL_law_496 : decode cL_law 496 = .ok (.iadd, 1) := by decide +kernel
theorem dL_law_497 : decode cL_law 497 = .ok (.iaload, 1) := by decide +kernel
theorem dL_law_498 : decode cL_law 498 = .ok (.invokevirtual 87, 3) := by decide +kernel
theorem dL_law_501 : decode cL_law 501 = .ok (.aload_n 2, 1) := by decide +kernel
theorem dL_law_502 : decode cL_law 502 = .ok (.aload_n 0, 1) := by decide +kernel
theorem dL_law_503 : decode cL_law 503 = .ok (.iload_n 3, 1) := by decide +kernel
theorem dL_law_504 : decode cL_law 504 = .ok (.iconst 1, 1) := by decide +kernel
theorem dL_law_505 : decode cL_law 505 = .ok (.iadd, 1) := by decide +kernel
theorem dL_law_506 : decode cL_law 506 = .ok (.iaload, 1) := by decide +kernel
theorem dL_law_507 : decode cL_law 507 = .ok (.invokevirtual 90, 3) := by decide +kernel
theorem dL_law_510 : decode cL_law 510 = .ok (.if_icmp .eq 5, 3) := by decide +kernel
theorem dL_law_513 : decode cL_law 513 = .ok (.iconst 0, 1) := by decide +kernel
theorem dL_law_514 : decode cL_law 514 = .ok (.ireturn, 1) := by decide +kernel
theorem dL_law_515 : decode cL_law 515 = .ok (.iinc 3 4, 3) := by decide +kernel
theorem dL_law_518 : decode cL_law 518 = .ok (.goto (-500), 3) := by decide +kernel
theorem dL_law_521 : decode cL_law 521 = .ok (.iconst 1, 1) := by decide +kernel
theorem dL_law_522 : decode cL_law 522 = .ok (.ireturn, 1) := by decide +kernel
