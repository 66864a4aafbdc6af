theorem dX5_change_79 : decode cX5_change 79 = .ok (.iload 5, 2) := by decide +kernel
theorem dX5_change_81 : decode cX5_change 81 = .ok (.iconst 1, 1) := by decide +kernel
theorem dX5_change_82 : decode cX5_change 82 = .ok (.isub, 1) := by decide +kernel
theorem dX5_change_83 : decode cX5_change 83 = .ok (.iaload, 1) := by decide +kernel
theorem dX5_change_84 : decode cX5_change 84 = .ok (.iastore, 1) := by decide +kernel
theorem dX5_change_85 : decode cX5_change 85 = .ok (.aload_n 0, 1) := by decide +kernel
theorem dX5_change_86 : decode cX5_change 86 = .ok (.getfield 26, 3) := by decide +kernel
theorem dX5_change_89 : decode cX5_change 89 = .ok (.iload 5, 2) := by decide +kernel
theorem dX5_change_91 : decode cX5_change 91 = .ok (.aload_n 0, 1) := by decide +kernel
theorem dX5_change_92 : decode cX5_change 92 = .ok (.getfield 26, 3) := by decide +kernel
theorem dX5_change_95 : decode cX5_change 95 = .ok (.iload 5, 2) := by decide +kernel
theorem dX5_change_97 : decode cX5_change 97 = .ok (.iconst 1, 1) := by decide +kernel
theorem dX5_change_98 : decode cX5_change 98 = .ok (.isub, 1) := by decide +kernel
theorem dX5_change_99 : decode cX5_change 99 = .ok (.baload, 1) := by decide +kernel
theorem dX5_change_100 : decode cX5_change 100 = .ok (.bastore, 1) := by decide +kernel
theorem dX5_change_101 : decode cX5_change 101 = .ok (.iinc 5 (-1), 3) := by decide +kernel
theorem dX5_change_104 : decode cX5_change 104 = .ok (.goto (-58), 3) := by decide +kernel
theorem dX5_change_107 : decode cX5_change 107 = .ok (.aload_n 0, 1) := by decide +kernel
theorem dX5_change_108 : decode cX5_change 108 = .ok (.getfield 20, 3) := by decide +kernel
theorem dX5_change_111 : decode cX5_change 111 = .ok (.iload 4, 2) := by decide +kernel
theorem dX5_change_113 : decode cX5_change 113 = .ok (.iload_n 1, 1) := by decide +kernel
theorem dX5_change_114 : decode cX5_change 114 = .ok (.iastore, 1) := by decide +kernel
theorem dX5_change_115 : decode cX5_change 115 = .ok (.aload_n 0, 1) := by decide +kernel
theorem dX5_change_116 : decode cX5_change 116 = .ok (.dup, 1) := by decide +kernel
theorem dX5_change_117 : decode cX5_change 117 = .ok (.getfield 104, 3) := by decide +kernel
theorem dX5_change_120 : decode cX5_change 120 = .ok (.iconst 1, 1) := by decide +kernel
theorem dX5_change_121 : decode cX5_change 121 = .ok (.iadd, 1) := by decide +kernel
theorem dX5_change_122 : decode cX5_change 122 = .ok (.putfield 104, 3) := by decide +kernel
theorem dX5_change_125 : decode cX5_change 125 = .ok (.aload_n 0, 1) := by decide +kernel
theorem dX5_change_126 : decode cX5_change 126 = .ok (.getfield 26, 3) := by decide +kernel
theorem dX5_change_129 : decode cX5_change 129 = .ok (.iload 4, 2) := by decide +kernel
theorem dX5_change_131 : decode cX5_change 131 = .ok (.iload_n 2, 1) := by decide +kernel
theorem dX5_change_132 : decode cX5_change 132 = .ok (.bastore, 1) := by decide +kernel
theorem dX5_change_133 : decode cX5_change 133 = .ok (.aload_n 0, 1) := by decide +kernel
theorem dX5_change_134 : decode cX5_change 134 = .ok (.getfield 23, 3) := by decide +kernel
theorem dX5_change_137 : decode cX5_change 137 = .ok (.iload 4, 2) := by decide +kernel
theorem dX5_change_139 : decode cX5_change 139 = .ok (.iload_n 2, 1) := by decide +kernel
theorem dX5_change_140 : decode cX5_change 140 = .ok (.ifCond .eq 7, 3) := by decide +kernel
theorem dX5_change_143 : decode cX5_change 143 = .ok (.iconst 0, 1) := by decide +kernel
theorem dX5_change_144 : decode cX5_change 144 = .ok (.goto 4, 3) := by decide +kernel
theorem dX5_change_147 : decode cX5_change 147 = .ok (.iload_n 3, 1) := by decide +kernel
theorem dX5_change_148 : decode cX5_change 148 = .ok (.iastore, 1) := by decide +kernel
theorem dX5_change_149 : decode cX5_change 149 = .ok (.iconst 0, 1) := by decide +kernel
theorem dX5_change_150 : decode cX5_change 150 = .ok (.ireturn, 1) := by decide +kernel
theorem dX5_put_0 : decode cX5_put 0 = .ok (.aload_n 0, 1) := by decide +kernel
theorem dX5_put_1 : decode cX5_put 1 = .ok (.getfield 53, 3) := by decide +kernel
theorem dX5_put_4 : decode cX5_put 4 = .ok (.iconst 2, 1) := by decide +kernel
theorem dX5_put_5 : decode cX5_put 5 = .ok (.if_icmp .eq 8, 3) := by decide +kernel
theorem dX5_put_8 : decode cX5_put 8 = .ok (.aload_n 0, 1) := by decide +kernel
theorem dX5_put_9 : decode cX5_put 9 = .ok (.invokevirtual 77, 3) := by decide +kernel
theorem dX5_put_12 : decode cX5_put 12 = .ok (.ireturn, 1) := by decide +kernel
theorem dX5_put_13 : decode cX5_put 13 = .ok (.aload_n 0, 1) := by decide +kernel
theorem dX5_put_14 : decode cX5_put 14 = .ok (.getfield 56, 3) := by decide +kernel
theorem dX5_put_17 : decode cX5_put 17 = .ok (.ifCond .ne 6, 3) := by decide +kernel
theorem dX5_put_20 : decode cX5_put 20 = .ok (.bipush (-3), 2) := by decide +kernel
theorem dX5_put_22 : decode cX5_put 22 = .ok (.ireturn, 1) := by decide +kernel
theorem dX5_put_23 : decode cX5_put 23 = .ok (.aload_n 0, 1) := by decide +kernel
theorem dX5_put_24 : decode cX5_put 24 = .ok (.iload_n 1, 1) := by decide +kernel
theorem dX5_put_25 : decode cX5_put 25 = .ok (.iconst 0, 1) := by decide +kernel
theorem dX5_put_26 : decode cX5_put 26 = .ok (.iload_n 2, 1) := by decide +kernel
theorem dX5_put_27 : decode cX5_put 27 = .ok (.invokevirtual 146, 3) := by decide +kernel
theorem dX5_put_30 : decode cX5_put 30 = .ok (.ireturn, 1) := by decide +kernel
theorem dX5_remove_0 : decode cX5_remove 0 = .ok (.aload_n 0, 1) := by decide +kernel
theorem dX5_remove_1 : decode cX5_remove 1 = .ok (.getfield 53, 3) := by decide +kernel
theorem dX5_remove_4 : decode cX5_remove 4 = .ok (.iconst 2, 1) := by decide +kernel
theorem dX5_remove_5 : decode cX5_remove 5 = .ok (.if_icmp .eq 8, 3) := by decide +kernel
theorem dX5_remove_8 : decode cX5_remove 8 = .ok (.aload_n 0, 1) := by decide +kernel
theorem dX5_remove_9 : decode cX5_remove 9 = .ok (.invokevirtual 77, 3) := by decide +kernel
theorem dX5_remove_12 : decode cX5_remove 12 = .ok (.ireturn, 1) := by decide +kernel
theorem dX5_remove_13 : decode cX5_remove 13 = .ok (.aload_n 0, 1) := by decide +kernel
theorem dX5_remove_14 : decode cX5_remove 14 = .ok (.getfield 56, 3) := by decide +kernel
theorem dX5_remove_17 : decode cX5_remove 17 = .ok (.ifCond .ne 6, 3) := by decide +kernel
theorem dX5_remove_20 : decode cX5_remove 20 = .ok (.bipush (-3), 2) := by decide +kernel
theorem dX5_remove_22 : decode cX5_remove 22 = .ok (.ireturn, 1) := by decide +kernel
theorem dX5_remove_23 : decode cX5_remove 23 = .ok (.aload_n 0, 1) := by decide +kernel
theorem dX5_remove_24 : decode cX5_remove 24 = .ok (.iload_n 1, 1) := by decide +kernel
theorem dX5_remove_25 : decode cX5_remove 25 = .ok (.invokevirtual 150, 3) := by decide +kernel
theorem dX5_remove_28 : decode cX5_remove 28 = .ok (.ifCond .ne 6, 3) := by decide +kernel
theorem dX5_remove_31 : decode cX5_remove 31 = .ok (.bipush (-5), 2) := by decide +kernel
theorem dX5_remove_33 : decode cX5_remove 33 = .ok (.ireturn, 1) := by decide +kernel
theorem dX5_remove_34 : decode cX5_remove 34 = .ok (.aload_n 0, 1) := by decide +kernel
theorem dX5_remove_35 : decode cX5_remove 35 = .ok (.iload_n 1, 1) := by decide +kernel
theorem dX5_remove_36 : decode cX5_remove 36 = .ok (.iconst 1, 1) := by decide +kernel
theorem dX5_remove_37 : decode cX5_remove 37 = .ok (.iconst 0, 1) := by decide +kernel
theorem dX5_remove_38 : decode cX5_remove 38 = .ok (.invokevirtual 146, 3) := by decide +kernel
theorem dX5_remove_41 : decode cX5_remove 41 = .ok (.ireturn, 1) := by decide +kernel
theorem dX5_isSeen_0 : decode cX5_isSeen 0 = .ok (.aload_n 0, 1) := by decide +kernel
theorem dX5_isSeen_1 : decode cX5_isSeen 1 = .ok (.iload_n 1, 1) := by decide +kernel
theorem dX5_isSeen_2 : decode cX5_isSeen 2 = .ok (.invokevirtual 153, 3) := by decide +kernel
theorem dX5_isSeen_5 : decode cX5_isSeen 5 = .ok (.ifCond .eq 22, 3) := by decide +kernel
theorem dX5_isSeen_8 : decode cX5_isSeen 8 = .ok (.aload_n 0, 1) := by decide +kernel
theorem dX5_isSeen_9 : decode cX5_isSeen 9 = .ok (.getfield 26, 3) := by decide +kernel
theorem dX5_isSeen_12 : decode cX5_isSeen 12 = .ok (.aload_n 0, 1) := by decide +kernel
theorem dX5_isSeen_13 : decode cX5_isSeen 13 = .ok (.iload_n 1, 1) := by decide +kernel
theorem dX5_isSeen_14 : decode cX5_isSeen 14 = .ok (.invokevirtual 107, 3) := by decide +kernel
theorem dX5_isSeen_17 : decode cX5_isSeen 17 = .ok (.baload, 1) := by decide +kernel
theorem dX5_isSeen_18 : decode cX5_isSeen 18 = .ok (.ifCond .ne 7, 3) := by decide +kernel
theorem dX5_isSeen_21 : decode cX5_isSeen 21 = .ok (.iconst 1, 1) := by decide +kernel
theorem dX5_isSeen_22 : decode cX5_isSeen 22 = .ok (.goto 4, 3) := by decide +kernel
theorem dX5_isSeen_25 : decode cX5_isSeen 25 = .ok (.iconst 0, 1) := by decide +kernel
theorem dX5_isSeen_26 : decode cX5_isSeen 26 = .ok (.ireturn, 1) := by decide +kernel
theorem dX5_isSeen_27 : decode cX5_isSeen 27 = .ok (.aload_n 0, 1) := by decide +kernel
theorem dX5_isSeen_28 : decode cX5_isSeen 28 = .ok (.iload_n 1, 1) := by decide +kernel
theorem dX5_isSeen_29 : decode cX5_isSeen 29 = .ok (.invokevirtual 100, 3) := by decide +kernel
theorem dX5_isSeen_32 : decode cX5_isSeen 32 = .ok (.istore_n 2, 1) := by decide +kernel
theorem dX5_isSeen_33 : decode cX5_isSeen 33 = .ok (.iload_n 2, 1) := by decide +kernel
theorem dX5_isSeen_34 : decode cX5_isSeen 34 = .ok (.aload_n 0, 1) := by decide +kernel
theorem dX5_isSeen_35 : decode cX5_isSeen 35 = .ok (.getfield 97, 3) := by decide +kernel
theorem dX5_isSeen_38 : decode cX5_isSeen 38 = .ok (.if_icmp .ge 17, 3) := by decide +kernel
theorem dX5_isSeen_41 : decode cX5_isSeen 41 = .ok (.aload_n 0, 1) := by decide +kernel
theorem dX5_isSeen_42 : decode cX5_isSeen 42 = .ok (.getfield 14, 3) := by decide +kernel
theorem dX5_isSeen_45 : decode cX5_isSeen 45 = .ok (.iload_n 2, 1) := by decide +kernel
theorem dX5_isSeen_46 : decode cX5_isSeen 46 = .ok (.iaload, 1) := by decide +kernel
theorem dX5_isSeen_47 : decode cX5_isSeen 47 = .ok (.iload_n 1, 1) := by decide +kernel
theorem dX5_isSeen_48 : decode cX5_isSeen 48 = .ok (.if_icmp .ne 7, 3) := by decide +kernel
theorem dX5_isSeen_51 : decode cX5_isSeen 51 = .ok (.iconst 1, 1) := by decide +kernel
theorem dX5_isSeen_52 : decode cX5_isSeen 52 = .ok (.goto 4, 3) := by decide +kernel
theorem dX5_isSeen_55 : decode cX5_isSeen 55 = .ok (.iconst 0, 1) := by decide +kernel
theorem dX5_isSeen_56 : decode cX5_isSeen 56 = .ok (.ireturn, 1) := by decide +kernel
theorem dX5_commit_0 : decode cX5_commit 0 = .ok (.aload_n 0, 1) := by decide +kernel
theorem dX5_commit_1 : decode cX5_commit 1 = .ok (.getfield 53, 3) := by decide +kernel
theorem dX5_commit_4 : decode cX5_commit 4 = .ok (.iconst 2, 1) := by decide +kernel
theorem dX5_commit_5 : decode cX5_commit 5 = .ok (.if_icmp .eq 8, 3) := by decide +kernel
theorem dX5_commit_8 : decode cX5_commit 8 = .ok (.aload_n 0, 1) := by decide +kernel
theorem dX5_commit_9 : decode cX5_commit 9 = .ok (.invokevirtual 77, 3) := by decide +kernel
theorem dX5_commit_12 : decode cX5_commit 12 = .ok (.ireturn, 1) := by decide +kernel
theorem dX5_commit_13 : decode cX5_commit 13 = .ok (.aload_n 0, 1) := by decide +kernel
theorem dX5_commit_14 : decode cX5_commit 14 = .ok (.getfield 56, 3) := by decide +kernel
theorem dX5_commit_17 : decode cX5_commit 17 = .ok (.ifCond .ne 6, 3) := by decide +kernel
theorem dX5_commit_20 : decode cX5_commit 20 = .ok (.bipush (-3), 2) := by decide +kernel
theorem dX5_commit_22 : decode cX5_commit 22 = .ok (.ireturn, 1) := by decide +kernel
theorem dX5_commit_23 : decode cX5_commit 23 = .ok (.aload_n 0, 1) := by decide +kernel
theorem dX5_commit_24 : decode cX5_commit 24 = .ok (.getfield 104, 3) := by decide +kernel
theorem dX5_commit_27 : decode cX5_commit 27 = .ok (.ifCond .ne 7, 3) := by decide +kernel
theorem dX5_commit_30 : decode cX5_commit 30 = .ok (.iconst 0, 1) := by decide +kernel
theorem dX5_commit_31 : decode cX5_commit 31 = .ok (.goto 12, 3) := by decide +kernel
theorem dX5_commit_34 : decode cX5_commit 34 = .ok (.aload_n 0, 1) := by decide +kernel
theorem dX5_commit_35 : decode cX5_commit 35 = .ok (.aload_n 0, 1) := by decide +kernel
theorem dX5_commit_36 : decode cX5_commit 36 = .ok (.getfield 104, 3) := by decide +kernel
theorem dX5_commit_39 : decode cX5_commit 39 = .ok (.i2l, 1) := by decide +kernel
theorem dX5_commit_40 : decode cX5_commit 40 = .ok (.invokevirtual 124, 3) := by decide +kernel
theorem dX5_commit_43 : decode cX5_commit 43 = .ok (.istore_n 1, 1) := by decide +kernel
theorem dX5_commit_44 : decode cX5_commit 44 = .ok (.aload_n 0, 1) := by decide +kernel
theorem dX5_commit_45 : decode cX5_commit 45 = .ok (.getfield 91, 3) := by decide +kernel
theorem dX5_commit_48 : decode cX5_commit 48 = .ok (.iload_n 1, 1) := by decide +kernel
theorem dX5_commit_49 : decode cX5_commit 49 = .ok (.iadd, 1) := by decide +kernel
theorem dX5_commit_50 : decode cX5_commit 50 = .ok (.aload_n 0, 1) := by decide +kernel
theorem dX5_commit_51 : decode cX5_commit 51 = .ok (.getfield 74, 3) := by decide +kernel
theorem dX5_commit_54 : decode cX5_commit 54 = .ok (.if_icmp .le 6, 3) := by decide +kernel
theorem dX5_commit_57 : decode cX5_commit 57 = .ok (.bipush (-6), 2) := by decide +kernel
theorem dX5_commit_59 : decode cX5_commit 59 = .ok (.ireturn, 1) := by decide +kernel
theorem dX5_commit_60 : decode cX5_commit 60 = .ok (.iconst 0, 1) := by decide +kernel
theorem dX5_commit_61 : decode cX5_commit 61 = .ok (.istore_n 2, 1) := by decide +kernel
theorem dX5_commit_62 : decode cX5_commit 62 = .ok (.aload_n 0, 1) := by decide +kernel
theorem dX5_commit_63 : decode cX5_commit 63 = .ok (.getfield 39, 3) := by decide +kernel
theorem dX5_commit_66 : decode cX5_commit 66 = .ok (.iconst 0, 1) := by decide +kernel
theorem dX5_commit_67 : decode cX5_commit 67 = .ok (.aload_n 0, 1) := by decide +kernel
theorem dX5_commit_68 : decode cX5_commit 68 = .ok (.getfield 104, 3) := by decide +kernel
theorem dX5_commit_71 : decode cX5_commit 71 = .ok (.iastore, 1) := by decide +kernel
theorem dX5_commit_72 : decode cX5_commit 72 = .ok (.iinc 2 1, 3) := by decide +kernel
theorem dX5_commit_75 : decode cX5_commit 75 = .ok (.iconst 0, 1) := by decide +kernel
theorem dX5_commit_76 : decode cX5_commit 76 = .ok (.istore_n 3, 1) := by decide +kernel
theorem dX5_commit_77 : decode cX5_commit 77 = .ok (.iload_n 3, 1) := by decide +kernel
theorem dX5_commit_78 : decode cX5_commit 78 = .ok (.aload_n 0, 1) := by decide +kernel
theorem dX5_commit_79 : decode cX5_commit 79 = .ok (.getfield 104, 3) := by decide +kernel
theorem dX5_commit_82 : decode cX5_commit 82 = .ok (.if_icmp .ge 60, 3) := by decide +kernel
theorem dX5_commit_85 : decode cX5_commit 85 = .ok (.aload_n 0, 1) := by decide +kernel
theorem dX5_commit_86 : decode cX5_commit 86 = .ok (.getfield 39, 3) := by decide +kernel
theorem dX5_commit_89 : decode cX5_commit 89 = .ok (.iload_n 2, 1) := by decide +kernel
theorem dX5_commit_90 : decode cX5_commit 90 = .ok (.aload_n 0, 1) := by decide +kernel
theorem dX5_commit_91 : decode cX5_commit 91 = .ok (.getfield 26, 3) := by decide +kernel
theorem dX5_commit_94 : decode cX5_commit 94 = .ok (.iload_n 3, 1) := by decide +kernel
theorem dX5_commit_95 : decode cX5_commit 95 = .ok (.baload, 1) := by decide +kernel
theorem dX5_commit_96 : decode cX5_commit 96 = .ok (.ifCond .eq 7, 3) := by decide +kernel
theorem dX5_commit_99 : decode cX5_commit 99 = .ok (.iconst 2, 1) := by decide +kernel
theorem dX5_commit_100 : decode cX5_commit 100 = .ok (.goto 4, 3) := by decide +kernel
theorem dX5_commit_103 : decode cX5_commit 103 = .ok (.iconst 1, 1) := by decide +kernel
theorem dX5_commit_104 : decode cX5_commit 104 = .ok (.iastore, 1) := by decide +kernel
theorem dX5_commit_105 : decode cX5_commit 105 = .ok (.aload_n 0, 1) := by decide +kernel
theorem dX5_commit_106 : decode cX5_commit 106 = .ok (.getfield 39, 3) := by decide +kernel
theorem dX5_commit_109 : decode cX5_commit 109 = .ok (.iload_n 2, 1) := by decide +kernel
theorem dX5_commit_110 : decode cX5_commit 110 = .ok (.iconst 1, 1) := by decide +kernel
theorem dX5_commit_111 : decode cX5_commit 111 = .ok (.iadd, 1) := by decide +kernel
theorem dX5_commit_112 : decode cX5_commit 112 = .ok (.aload_n 0, 1) := by decide +kernel
theorem dX5_commit_113 : decode cX5_commit 113 = .ok (.getfield 20, 3) := by decide +kernel
theorem dX5_commit_116 : decode cX5_commit 116 = .ok (.iload_n 3, 1) := by decide +kernel
theorem dX5_commit_117 : decode cX5_commit 117 = .ok (.iaload, 1) := by decide +kernel
theorem dX5_commit_118 : decode cX5_commit 118 = .ok (.iastore, 1) := by decide +kernel
theorem dX5_commit_119 : decode cX5_commit 119 = .ok (.aload_n 0, 1) := by decide +kernel
theorem dX5_commit_120 : decode cX5_commit 120 = .ok (.getfield 39, 3) := by decide +kernel
theorem dX5_commit_123 : decode cX5_commit 123 = .ok (.iload_n 2, 1) := by decide +kernel
theorem dX5_commit_124 : decode cX5_commit 124 = .ok (.iconst 2, 1) := by decide +kernel
theorem dX5_commit_125 : decode cX5_commit 125 = .ok (.iadd, 1) := by decide +kernel
theorem dX5_commit_126 : decode cX5_commit 126 = .ok (.aload_n 0, 1) := by decide +kernel
theorem dX5_commit_127 : decode cX5_commit 127 = .ok (.getfield 23, 3) := by decide +kernel
theorem dX5_commit_130 : decode cX5_commit 130 = .ok (.iload_n 3, 1) := by decide +kernel
theorem dX5_commit_131 : decode cX5_commit 131 = .ok (.iaload, 1) := by decide +kernel
theorem dX5_commit_132 : decode cX5_commit 132 = .ok (.iastore, 1) := by decide +kernel
theorem dX5_commit_133 : decode cX5_commit 133 = .ok (.iinc 2 3, 3) := by decide +kernel
theorem dX5_commit_136 : decode cX5_commit 136 = .ok (.iinc 3 1, 3) := by decide +kernel
theorem dX5_commit_139 : decode cX5_commit 139 = .ok (.goto (-62), 3) := by decide +kernel
theorem dX5_commit_142 : decode cX5_commit 142 = .ok (.iconst 0, 1) := by decide +kernel
theorem dX5_commit_143 : decode cX5_commit 143 = .ok (.istore_n 3, 1) := by decide +kernel
theorem dX5_commit_144 : decode cX5_commit 144 = .ok (.iload_n 3, 1) := by decide +kernel
theorem dX5_commit_145 : decode cX5_commit 145 = .ok (.iload_n 1, 1) := by decide +kernel
theorem dX5_commit_146 : decode cX5_commit 146 = .ok (.if_icmp .ge 123, 3) := by decide +kernel
theorem dX5_commit_149 : decode cX5_commit 149 = .ok (.aload_n 0, 1) := by decide +kernel
theorem dX5_commit_150 : decode cX5_commit 150 = .ok (.invokevirtual 63, 3) := by decide +kernel
theorem dX5_commit_153 : decode cX5_commit 153 = .ok (.aload_n 0, 1) := by decide +kernel
theorem dX5_commit_154 : decode cX5_commit 154 = .ok (.getfield 30, 3) := by decide +kernel
theorem dX5_commit_157 : decode cX5_commit 157 = .ok (.iconst 0, 1) := by decide +kernel
theorem dX5_commit_158 : decode cX5_commit 158 = .ok (.aload_n 0, 1) := by decide +kernel
theorem dX5_commit_159 : decode cX5_commit 159 = .ok (.getfield 85, 3) := by decide +kernel
theorem dX5_commit_162 : decode cX5_commit 162 = .ok (.iastore, 1) := by decide +kernel
theorem dX5_commit_163 : decode cX5_commit 163 = .ok (.aload_n 0, 1) := by decide +kernel
theorem dX5_commit_164 : decode cX5_commit 164 = .ok (.getfield 30, 3) := by decide +kernel
theorem dX5_commit_167 : decode cX5_commit 167 = .ok (.iconst 1, 1) := by decide +kernel
theorem dX5_commit_168 : decode cX5_commit 168 = .ok (.aload_n 0, 1) := by decide +kernel
theorem dX5_commit_169 : decode cX5_commit 169 = .ok (.getfield 94, 3) := by decide +kernel
theorem dX5_commit_172 : decode cX5_commit 172 = .ok (.iconst 1, 1) := by decide +kernel
theorem dX5_commit_173 : decode cX5_commit 173 = .ok (.iadd, 1) := by decide +kernel
theorem dX5_commit_174 : decode cX5_commit 174 = .ok (.iastore, 1) := by decide +kernel
theorem dX5_commit_175 : decode cX5_commit 175 = .ok (.aload_n 0, 1) := by decide +kernel
theorem dX5_commit_176 : decode cX5_commit 176 = .ok (.getfield 30, 3) := by decide +kernel
theorem dX5_commit_179 : decode cX5_commit 179 = .ok (.iconst 2, 1) := by decide +kernel
theorem dX5_commit_180 : decode cX5_commit 180 = .ok (.iload_n 3, 1) := by decide +kernel
theorem dX5_commit_181 : decode cX5_commit 181 = .ok (.iastore, 1) := by decide +kernel
theorem dX5_commit_182 : decode cX5_commit 182 = .ok (.aload_n 0, 1) := by decide +kernel
theorem dX5_commit_183 : decode cX5_commit 183 = .ok (.getfield 30, 3) := by decide +kernel
theorem dX5_commit_186 : decode cX5_commit 186 = .ok (.iconst 3, 1) := by decide +kernel
theorem dX5_commit_187 : decode cX5_commit 187 = .ok (.aload_n 0, 1) := by decide +kernel
theorem dX5_commit_188 : decode cX5_commit 188 = .ok (.getfield 88, 3) := by decide +kernel
theorem dX5_commit_191 : decode cX5_commit 191 = .ok (.iastore, 1) := by decide +kernel
theorem dX5_commit_192 : decode cX5_commit 192 = .ok (.iconst 0, 1) := by decide +kernel
theorem dX5_commit_193 : decode cX5_commit 193 = .ok (.istore 4, 2) := by decide +kernel
theorem dX5_commit_195 : decode cX5_commit 195 = .ok (.iload 4, 2) := by decide +kernel
theorem dX5_commit_197 : decode cX5_commit 197 = .ok (.aload_n 0, 1) := by decide +kernel
theorem dX5_commit_198 : decode cX5_commit 198 = .ok (.invokevirtual 115, 3) := by decide +kernel
theorem dX5_commit_201 : decode cX5_commit 201 = .ok (.if_icmp .ge 45, 3) := by decide +kernel
theorem dX5_commit_204 : decode cX5_commit 204 = .ok (.aload_n 0, 1) := by decide +kernel
theorem dX5_commit_205 : decode cX5_commit 205 = .ok (.invokevirtual 115, 3) := by decide +kernel
theorem dX5_commit_208 : decode cX5_commit 208 = .ok (.iload_n 3, 1) := by decide +kernel
theorem dX5_commit_209 : decode cX5_commit 209 = .ok (.imul, 1) := by decide +kernel
theorem dX5_commit_210 : decode cX5_commit 210 = .ok (.iload 4, 2) := by decide +kernel
theorem dX5_commit_212 : decode cX5_commit 212 = .ok (.iadd, 1) := by decide +kernel
theorem dX5_commit_213 : decode cX5_commit 213 = .ok (.iload_n 2, 1) := by decide +kernel
theorem dX5_commit_214 : decode cX5_commit 214 = .ok (.if_icmp .ge 32, 3) := by decide +kernel
theorem dX5_commit_217 : decode cX5_commit 217 = .ok (.aload_n 0, 1) := by decide +kernel
theorem dX5_commit_218 : decode cX5_commit 218 = .ok (.getfield 30, 3) := by decide +kernel
theorem dX5_commit_221 : decode cX5_commit 221 = .ok (.iconst 4, 1) := by decide +kernel
theorem dX5_commit_222 : decode cX5_commit 222 = .ok (.iload 4, 2) := by decide +kernel
theorem dX5_commit_224 : decode cX5_commit 224 = .ok (.iadd, 1) := by decide +kernel
theorem dX5_commit_225 : decode cX5_commit 225 = .ok (.aload_n 0, 1) := by decide +kernel
theorem dX5_commit_226 : decode cX5_commit 226 = .ok (.getfield 39, 3) := by decide +kernel
theorem dX5_commit_229 : decode cX5_commit 229 = .ok (.aload_n 0, 1) := by decide +kernel
theorem dX5_commit_230 : decode cX5_commit 230 = .ok (.invokevirtual 115, 3) := by decide +kernel
theorem dX5_commit_233 : decode cX5_commit 233 = .ok (.iload_n 3, 1) := by decide +kernel
theorem dX5_commit_234 : decode cX5_commit 234 = .ok (.imul, 1) := by decide +kernel
theorem dX5_commit_235 : decode cX5_commit 235 = .ok (.iload 4, 2) := by decide +kernel
theorem dX5_commit_237 : decode cX5_commit 237 = .ok (.iadd, 1) := by decide +kernel
theorem dX5_commit_238 : decode cX5_commit 238 = .ok (.iaload, 1) := by decide +kernel
theorem dX5_commit_239 : decode cX5_commit 239 = .ok (.iastore, 1) := by decide +kernel
theorem dX5_commit_240 : decode cX5_commit 240 = .ok (.iinc 4 1, 3) := by decide +kernel
theorem dX5_commit_243 : decode cX5_commit 243 = .ok (.goto (-48), 3) := by decide +kernel
theorem dX5_commit_246 : decode cX5_commit 246 = .ok (.aload_n 0, 1) := by decide +kernel
theorem dX5_commit_247 : decode cX5_commit 247 = .ok (.iconst 1, 1) := by decide +kernel
theorem dX5_commit_248 : decode cX5_commit 248 = .ok (.aload_n 0, 1) := by decide +kernel
theorem dX5_commit_249 : decode cX5_commit 249 = .ok (.getfield 91, 3) := by decide +kernel
theorem dX5_commit_252 : decode cX5_commit 252 = .ok (.iadd, 1) := by decide +kernel
theorem dX5_commit_253 : decode cX5_commit 253 = .ok (.iload_n 3, 1) := by decide +kernel
theorem dX5_commit_254 : decode cX5_commit 254 = .ok (.iadd, 1) := by decide +kernel
theorem dX5_commit_255 : decode cX5_commit 255 = .ok (.invokevirtual 67, 3) := by decide +kernel
theorem dX5_commit_258 : decode cX5_commit 258 = .ok (.ifCond .ne 5, 3) := by decide +kernel
theorem dX5_commit_261 : decode cX5_commit 261 = .ok (.iconst (-1), 1) := by decide +kernel
theorem dX5_commit_262 : decode cX5_commit 262 = .ok (.ireturn, 1) := by decide +kernel
theorem dX5_commit_263 : decode cX5_commit 263 = .ok (.iinc 3 1, 3) := by decide +kernel
theorem dX5_commit_266 : decode cX5_commit 266 = .ok (.goto (-122), 3) := by decide +kernel
theorem dX5_commit_269 : decode cX5_commit 269 = .ok (.aload_n 0, 1) := by decide +kernel
theorem dX5_commit_270 : decode cX5_commit 270 = .ok (.dup, 1) := by decide +kernel
theorem dX5_commit_271 : decode cX5_commit 271 = .ok (.getfield 91, 3) := by decide +kernel
theorem dX5_commit_274 : decode cX5_commit 274 = .ok (.iload_n 1, 1) := by decide +kernel
theorem dX5_commit_275 : decode cX5_commit 275 = .ok (.iadd, 1) := by decide +kernel
theorem dX5_commit_276 : decode cX5_commit 276 = .ok (.putfield 91, 3) := by decide +kernel
theorem dX5_commit_279 : decode cX5_commit 279 = .ok (.iload_n 1, 1) := by decide +kernel
theorem dX5_commit_280 : decode cX5_commit 280 = .ok (.ifCond .le 13, 3) := by decide +kernel
theorem dX5_commit_283 : decode cX5_commit 283 = .ok (.aload_n 0, 1) := by decide +kernel
theorem dX5_commit_284 : decode cX5_commit 284 = .ok (.dup, 1) := by decide +kernel
theorem dX5_commit_285 : decode cX5_commit 285 = .ok (.getfield 94, 3) := by decide +kernel
theorem dX5_commit_288 : decode cX5_commit 288 = .ok (.iconst 1, 1) := by decide +kernel
theorem dX5_commit_289 : decode cX5_commit 289 = .ok (.iadd, 1) := by decide +kernel
theorem dX5_commit_290 : decode cX5_commit 290 = .ok (.putfield 94, 3) := by decide +kernel
theorem dX5_commit_293 : decode cX5_commit 293 = .ok (.iconst 0, 1) := by decide +kernel
theorem dX5_commit_294 : decode cX5_commit 294 = .ok (.istore_n 3, 1) := by decide +kernel
theorem dX5_commit_295 : decode cX5_commit 295 = .ok (.iload_n 3, 1) := by decide +kernel
theorem dX5_commit_296 : decode cX5_commit 296 = .ok (.aload_n 0, 1) := by decide +kernel
theorem dX5_commit_297 : decode cX5_commit 297 = .ok (.getfield 104, 3) := by decide +kernel
theorem dX5_commit_300 : decode cX5_commit 300 = .ok (.if_icmp .ge 47, 3) := by decide +kernel
theorem dX5_commit_303 : decode cX5_commit 303 = .ok (.aload_n 0, 1) := by decide +kernel
theorem dX5_commit_304 : decode cX5_commit 304 = .ok (.getfield 26, 3) := by decide +kernel
theorem dX5_commit_307 : decode cX5_commit 307 = .ok (.iload_n 3, 1) := by decide +kernel
theorem dX5_commit_308 : decode cX5_commit 308 = .ok (.baload, 1) := by decide +kernel
theorem dX5_commit_309 : decode cX5_commit 309 = .ok (.ifCond .eq 16, 3) := by decide +kernel
theorem dX5_commit_312 : decode cX5_commit 312 = .ok (.aload_n 0, 1) := by decide +kernel
theorem dX5_commit_313 : decode cX5_commit 313 = .ok (.aload_n 0, 1) := by decide +kernel
theorem dX5_commit_314 : decode cX5_commit 314 = .ok (.getfield 20, 3) := by decide +kernel
theorem dX5_commit_317 : decode cX5_commit 317 = .ok (.iload_n 3, 1) := by decide +kernel
theorem dX5_commit_318 : decode cX5_commit 318 = .ok (.iaload, 1) := by decide +kernel
theorem dX5_commit_319 : decode cX5_commit 319 = .ok (.invokevirtual 136, 3) := by decide +kernel
theorem dX5_commit_322 : decode cX5_commit 322 = .ok (.goto 19, 3) := by decide +kernel
theorem dX5_commit_325 : decode cX5_commit 325 = .ok (.aload_n 0, 1) := by decide +kernel
theorem dX5_commit_326 : decode cX5_commit 326 = .ok (.aload_n 0, 1) := by decide +kernel
theorem dX5_commit_327 : decode cX5_commit 327 = .ok (.getfield 20, 3) := by decide +kernel
theorem dX5_commit_330 : decode cX5_commit 330 = .ok (.iload_n 3, 1) := by decide +kernel
theorem dX5_commit_331 : decode cX5_commit 331 = .ok (.iaload, 1) := by decide +kernel
theorem dX5_commit_332 : decode cX5_commit 332 = .ok (.aload_n 0, 1) := by decide +kernel
theorem dX5_commit_333 : decode cX5_commit 333 = .ok (.getfield 23, 3) := by decide +kernel
theorem dX5_commit_336 : decode cX5_commit 336 = .ok (.iload_n 3, 1) := by decide +kernel
theorem dX5_commit_337 : decode cX5_commit 337 = .ok (.iaload, 1) := by decide +kernel
theorem dX5_commit_338 : decode cX5_commit 338 = .ok (.invokevirtual 132, 3) := by decide +kernel
theorem dX5_commit_341 : decode cX5_commit 341 = .ok (.iinc 3 1, 3) := by decide +kernel
theorem dX5_commit_344 : decode cX5_commit 344 = .ok (.goto (-49), 3) := by decide +kernel
theorem dX5_commit_347 : decode cX5_commit 347 = .ok (.aload_n 0, 1) := by decide +kernel
theorem dX5_commit_348 : decode cX5_commit 348 = .ok (.iconst 0, 1) := by decide +kernel
theorem dX5_commit_349 : decode cX5_commit 349 = .ok (.putfield 56, 3) := by decide +kernel
theorem dX5_commit_352 : decode cX5_commit 352 = .ok (.iconst 0, 1) := by decide +kernel
theorem dX5_commit_353 : decode cX5_commit 353 = .ok (.ireturn, 1) := by decide +kernel
theorem dX5_abort_0 : decode cX5_abort 0 = .ok (.aload_n 0, 1) := by decide +kernel
theorem dX5_abort_1 : decode cX5_abort 1 = .ok (.getfield 53, 3) := by decide +kernel
theorem dX5_abort_4 : decode cX5_abort 4 = .ok (.iconst 2, 1) := by decide +kernel
theorem dX5_abort_5 : decode cX5_abort 5 = .ok (.if_icmp .eq 8, 3) := by decide +kernel
theorem dX5_abort_8 : decode cX5_abort 8 = .ok (.aload_n 0, 1) := by decide +kernel
theorem dX5_abort_9 : decode cX5_abort 9 = .ok (.invokevirtual 77, 3) := by decide +kernel
theorem dX5_abort_12 : decode cX5_abort 12 = .ok (.ireturn, 1) := by decide +kernel
theorem dX5_abort_13 : decode cX5_abort 13 = .ok (.aload_n 0, 1) := by decide +kernel
theorem dX5_abort_14 : decode cX5_abort 14 = .ok (.getfield 56, 3) := by decide +kernel
theorem dX5_abort_17 : decode cX5_abort 17 = .ok (.ifCond .ne 6, 3) := by decide +kernel
theorem dX5_abort_20 : decode cX5_abort 20 = .ok (.bipush (-3), 2) := by decide +kernel
theorem dX5_abort_22 : decode cX5_abort 22 = .ok (.ireturn, 1) := by decide +kernel
theorem dX5_abort_23 : decode cX5_abort 23 = .ok (.aload_n 0, 1) := by decide +kernel
theorem dX5_abort_24 : decode cX5_abort 24 = .ok (.iconst 0, 1) := by decide +kernel
theorem dX5_abort_25 : decode cX5_abort 25 = .ok (.putfield 56, 3) := by decide +kernel
theorem dX5_abort_28 : decode cX5_abort 28 = .ok (.iconst 0, 1) := by decide +kernel
theorem dX5_abort_29 : decode cX5_abort 29 = .ok (.ireturn, 1) := by decide +kernel
theorem dX5_treeBlocks_0 : decode cX5_treeBlocks 0 = .ok (.aload_n 0, 1) := by decide +kernel
theorem dX5_treeBlocks_1 : decode cX5_treeBlocks 1 = .ok (.getfield 97, 3) := by decide +kernel
theorem dX5_treeBlocks_4 : decode cX5_treeBlocks 4 = .ok (.aload_n 0, 1) := by decide +kernel
theorem dX5_treeBlocks_5 : decode cX5_treeBlocks 5 = .ok (.invokevirtual 156, 3) := by decide +kernel
theorem dX5_treeBlocks_8 : decode cX5_treeBlocks 8 = .ok (.iadd, 1) := by decide +kernel
theorem dX5_treeBlocks_9 : decode cX5_treeBlocks 9 = .ok (.iconst 1, 1) := by decide +kernel
theorem dX5_treeBlocks_10 : decode cX5_treeBlocks 10 = .ok (.isub, 1) := by decide +kernel
theorem dX5_treeBlocks_11 : decode cX5_treeBlocks 11 = .ok (.aload_n 0, 1) := by decide +kernel
theorem dX5_treeBlocks_12 : decode cX5_treeBlocks 12 = .ok (.invokevirtual 156, 3) := by decide +kernel
theorem dX5_treeBlocks_15 : decode cX5_treeBlocks 15 = .ok (.idiv, 1) := by decide +kernel
theorem dX5_treeBlocks_16 : decode cX5_treeBlocks 16 = .ok (.istore_n 1, 1) := by decide +kernel
theorem dX5_treeBlocks_17 : decode cX5_treeBlocks 17 = .ok (.iload_n 1, 1) := by decide +kernel
theorem dX5_treeBlocks_18 : decode cX5_treeBlocks 18 = .ok (.istore_n 2, 1) := by decide +kernel
theorem dX5_treeBlocks_19 : decode cX5_treeBlocks 19 = .ok (.iload_n 1, 1) := by decide +kernel
theorem dX5_treeBlocks_20 : decode cX5_treeBlocks 20 = .ok (.iconst 1, 1) := by decide +kernel
theorem dX5_treeBlocks_21 : decode cX5_treeBlocks 21 = .ok (.if_icmp .le 24, 3) := by decide +kernel
theorem dX5_treeBlocks_24 : decode cX5_treeBlocks 24 = .ok (.iload_n 1, 1) := by decide +kernel
theorem dX5_treeBlocks_25 : decode cX5_treeBlocks 25 = .ok (.aload_n 0, 1) := by decide +kernel
theorem dX5_treeBlocks_26 : decode cX5_treeBlocks 26 = .ok (.invokevirtual 156, 3) := by decide +kernel
theorem dX5_treeBlocks_29 : decode cX5_treeBlocks 29 = .ok (.iadd, 1) := by decide +kernel
theorem dX5_treeBlocks_30 : decode cX5_treeBlocks 30 = .ok (.iconst 1, 1) := by decide +kernel
theorem dX5_treeBlocks_31 : decode cX5_treeBlocks 31 = .ok (.isub, 1) := by decide +kernel
theorem dX5_treeBlocks_32 : decode cX5_treeBlocks 32 = .ok (.aload_n 0, 1) := by decide +kernel
theorem dX5_treeBlocks_33 : decode cX5_treeBlocks 33 = .ok (.invokevirtual 156, 3) := by decide +kernel
theorem dX5_treeBlocks_36 : decode cX5_treeBlocks 36 = .ok (.idiv, 1) := by decide +kernel
theorem dX5_treeBlocks_37 : decode cX5_treeBlocks 37 = .ok (.istore_n 1, 1) := by decide +kernel
theorem dX5_treeBlocks_38 : decode cX5_treeBlocks 38 = .ok (.iload_n 2, 1) := by decide +kernel
theorem dX5_treeBlocks_39 : decode cX5_treeBlocks 39 = .ok (.iload_n 1, 1) := by decide +kernel
theorem dX5_treeBlocks_40 : decode cX5_treeBlocks 40 = .ok (.iadd, 1) := by decide +kernel
theorem dX5_treeBlocks_41 : decode cX5_treeBlocks 41 = .ok (.istore_n 2, 1) := by decide +kernel
theorem dX5_treeBlocks_42 : decode cX5_treeBlocks 42 = .ok (.goto (-23), 3) := by decide +kernel
theorem dX5_treeBlocks_45 : decode cX5_treeBlocks 45 = .ok (.iload_n 2, 1) := by decide +kernel
theorem dX5_treeBlocks_46 : decode cX5_treeBlocks 46 = .ok (.ireturn, 1) := by decide +kernel
theorem dX5_checkpoint_0 : decode cX5_checkpoint 0 = .ok (.aload_n 0, 1) := by decide +kernel
theorem dX5_checkpoint_1 : decode cX5_checkpoint 1 = .ok (.getfield 53, 3) := by decide +kernel
theorem dX5_checkpoint_4 : decode cX5_checkpoint 4 = .ok (.iconst 2, 1) := by decide +kernel
theorem dX5_checkpoint_5 : decode cX5_checkpoint 5 = .ok (.if_icmp .eq 8, 3) := by decide +kernel
theorem dX5_checkpoint_8 : decode cX5_checkpoint 8 = .ok (.aload_n 0, 1) := by decide +kernel
theorem dX5_checkpoint_9 : decode cX5_checkpoint 9 = .ok (.invokevirtual 77, 3) := by decide +kernel
theorem dX5_checkpoint_12 : decode cX5_checkpoint 12 = .ok (.ireturn, 1) := by decide +kernel
theorem dX5_checkpoint_13 : decode cX5_checkpoint 13 = .ok (.aload_n 0, 1) := by decide +kernel
theorem dX5_checkpoint_14 : decode cX5_checkpoint 14 = .ok (.getfield 56, 3) := by decide +kernel
theorem dX5_checkpoint_17 : decode cX5_checkpoint 17 = .ok (.ifCond .eq 6, 3) := by decide +kernel
theorem dX5_checkpoint_20 : decode cX5_checkpoint 20 = .ok (.bipush (-4), 2) := by decide +kernel
theorem dX5_checkpoint_22 : decode cX5_checkpoint 22 = .ok (.ireturn, 1) := by decide +kernel
theorem dX5_checkpoint_23 : decode cX5_checkpoint 23 = .ok (.aload_n 0, 1) := by decide +kernel
theorem dX5_checkpoint_24 : decode cX5_checkpoint 24 = .ok (.invokevirtual 159, 3) := by decide +kernel
theorem dX5_checkpoint_27 : decode cX5_checkpoint 27 = .ok (.aload_n 0, 1) := by decide +kernel
theorem dX5_checkpoint_28 : decode cX5_checkpoint 28 = .ok (.invokevirtual 162, 3) := by decide +kernel
theorem dX5_checkpoint_31 : decode cX5_checkpoint 31 = .ok (.if_icmp .le 6, 3) := by decide +kernel
theorem dX5_checkpoint_34 : decode cX5_checkpoint 34 = .ok (.bipush (-6), 2) := by decide +kernel
theorem dX5_checkpoint_36 : decode cX5_checkpoint 36 = .ok (.ireturn, 1) := by decide +kernel
theorem dX5_checkpoint_37 : decode cX5_checkpoint 37 = .ok (.iconst 1, 1) := by decide +kernel
theorem dX5_checkpoint_38 : decode cX5_checkpoint 38 = .ok (.aload_n 0, 1) := by decide +kernel
theorem dX5_checkpoint_39 : decode cX5_checkpoint 39 = .ok (.getfield 8, 3) := by decide +kernel
theorem dX5_checkpoint_42 : decode cX5_checkpoint 42 = .ok (.iconst 3, 1) := by decide +kernel
theorem dX5_checkpoint_43 : decode cX5_checkpoint 43 = .ok (.iaload, 1) := by decide +kernel
theorem dX5_checkpoint_44 : decode cX5_checkpoint 44 = .ok (.isub, 1) := by decide +kernel
theorem dX5_checkpoint_45 : decode cX5_checkpoint 45 = .ok (.istore_n 1, 1) := by decide +kernel
theorem dX5_checkpoint_46 : decode cX5_checkpoint 46 = .ok (.aload_n 0, 1) := by decide +kernel
theorem dX5_checkpoint_47 : decode cX5_checkpoint 47 = .ok (.getfield 74, 3) := by decide +kernel
theorem dX5_checkpoint_50 : decode cX5_checkpoint 50 = .ok (.iconst 1, 1) := by decide +kernel
theorem dX5_checkpoint_51 : decode cX5_checkpoint 51 = .ok (.iadd, 1) := by decide +kernel
theorem dX5_checkpoint_52 : decode cX5_checkpoint 52 = .ok (.iload_n 1, 1) := by decide +kernel
theorem dX5_checkpoint_53 : decode cX5_checkpoint 53 = .ok (.aload_n 0, 1) := by decide +kernel
theorem dX5_checkpoint_54 : decode cX5_checkpoint 54 = .ok (.invokevirtual 162, 3) := by decide +kernel
theorem dX5_checkpoint_57 : decode cX5_checkpoint 57 = .ok (.imul, 1) := by decide +kernel
theorem dX5_checkpoint_58 : decode cX5_checkpoint 58 = .ok (.iadd, 1) := by decide +kernel
theorem dX5_checkpoint_59 : decode cX5_checkpoint 59 = .ok (.istore_n 2, 1) := by decide +kernel
theorem dX5_checkpoint_60 : decode cX5_checkpoint 60 = .ok (.iconst 0, 1) := by decide +kernel
theorem dX5_checkpoint_61 : decode cX5_checkpoint 61 = .ok (.istore_n 3, 1) := by decide +kernel
theorem dX5_checkpoint_62 : decode cX5_checkpoint 62 = .ok (.iconst 0, 1) := by decide +kernel
theorem dX5_checkpoint_63 : decode cX5_checkpoint 63 = .ok (.istore 4, 2) := by decide +kernel
theorem dX5_checkpoint_65 : decode cX5_checkpoint 65 = .ok (.iload 4, 2) := by decide +kernel
theorem dX5_checkpoint_67 : decode cX5_checkpoint 67 = .ok (.aload_n 0, 1) := by decide +kernel
theorem dX5_checkpoint_68 : decode cX5_checkpoint 68 = .ok (.getfield 97, 3) := by decide +kernel
theorem dX5_checkpoint_71 : decode cX5_checkpoint 71 = .ok (.if_icmp .ge 158, 3) := by decide +kernel
theorem dX5_checkpoint_74 : decode cX5_checkpoint 74 = .ok (.aload_n 0, 1) := by decide +kernel
theorem dX5_checkpoint_75 : decode cX5_checkpoint 75 = .ok (.getfield 97, 3) := by decide +kernel
theorem dX5_checkpoint_78 : decode cX5_checkpoint 78 = .ok (.iload 4, 2) := by decide +kernel
theorem dX5_checkpoint_80 : decode cX5_checkpoint 80 = .ok (.isub, 1) := by decide +kernel
theorem dX5_checkpoint_81 : decode cX5_checkpoint 81 = .ok (.aload_n 0, 1) := by decide +kernel
theorem dX5_checkpoint_82 : decode cX5_checkpoint 82 = .ok (.invokevirtual 156, 3) := by decide +kernel
theorem dX5_checkpoint_85 : decode cX5_checkpoint 85 = .ok (.if_icmp .ge 13, 3) := by decide +kernel
theorem dX5_checkpoint_88 : decode cX5_checkpoint 88 = .ok (.aload_n 0, 1) := by decide +kernel
theorem dX5_checkpoint_89 : decode cX5_checkpoint 89 = .ok (.getfield 97, 3) := by decide +kernel
theorem dX5_checkpoint_92 : decode cX5_checkpoint 92 = .ok (.iload 4, 2) := by decide +kernel
theorem dX5_checkpoint_94 : decode cX5_checkpoint 94 = .ok (.isub, 1) := by decide +kernel
theorem dX5_checkpoint_95 : decode cX5_checkpoint 95 = .ok (.goto 7, 3) := by decide +kernel
theorem dX5_checkpoint_98 : decode cX5_checkpoint 98 = .ok (.aload_n 0, 1) := by decide +kernel
theorem dX5_checkpoint_99 : decode cX5_checkpoint 99 = .ok (.invokevirtual 156, 3) := by decide +kernel
theorem dX5_checkpoint_102 : decode cX5_checkpoint 102 = .ok (.istore 5, 2) := by decide +kernel
theorem dX5_checkpoint_104 : decode cX5_checkpoint 104 = .ok (.aload_n 0, 1) := by decide +kernel
theorem dX5_checkpoint_105 : decode cX5_checkpoint 105 = .ok (.invokevirtual 63, 3) := by decide +kernel
theorem dX5_checkpoint_108 : decode cX5_checkpoint 108 = .ok (.aload_n 0, 1) := by decide +kernel
theorem dX5_checkpoint_109 : decode cX5_checkpoint 109 = .ok (.getfield 30, 3) := by decide +kernel
theorem dX5_checkpoint_112 : decode cX5_checkpoint 112 = .ok (.iconst 0, 1) := by decide +kernel
theorem dX5_checkpoint_113 : decode cX5_checkpoint 113 = .ok (.iconst 1, 1) := by decide +kernel
theorem dX5_checkpoint_114 : decode cX5_checkpoint 114 = .ok (.iastore, 1) := by decide +kernel
theorem dX5_checkpoint_115 : decode cX5_checkpoint 115 = .ok (.aload_n 0, 1) := by decide +kernel
theorem dX5_checkpoint_116 : decode cX5_checkpoint 116 = .ok (.getfield 30, 3) := by decide +kernel
theorem dX5_checkpoint_119 : decode cX5_checkpoint 119 = .ok (.iconst 1, 1) := by decide +kernel
theorem dX5_checkpoint_120 : decode cX5_checkpoint 120 = .ok (.iload 5, 2) := by decide +kernel
theorem dX5_checkpoint_122 : decode cX5_checkpoint 122 = .ok (.iastore, 1) := by decide +kernel
theorem dX5_checkpoint_123 : decode cX5_checkpoint 123 = .ok (.iconst 0, 1) := by decide +kernel
theorem dX5_checkpoint_124 : decode cX5_checkpoint 124 = .ok (.istore 6, 2) := by decide +kernel
theorem dX5_checkpoint_126 : decode cX5_checkpoint 126 = .ok (.iload 6, 2) := by decide +kernel
theorem dX5_checkpoint_128 : decode cX5_checkpoint 128 = .ok (.iload 5, 2) := by decide +kernel
theorem dX5_checkpoint_130 : decode cX5_checkpoint 130 = .ok (.if_icmp .ge 51, 3) := by decide +kernel
theorem dX5_checkpoint_133 : decode cX5_checkpoint 133 = .ok (.aload_n 0, 1) := by decide +kernel
theorem dX5_checkpoint_134 : decode cX5_checkpoint 134 = .ok (.getfield 30, 3) := by decide +kernel
theorem dX5_checkpoint_137 : decode cX5_checkpoint 137 = .ok (.iconst 2, 1) := by decide +kernel
theorem dX5_checkpoint_138 : decode cX5_checkpoint 138 = .ok (.iconst 2, 1) := by decide +kernel
theorem dX5_checkpoint_139 : decode cX5_checkpoint 139 = .ok (.iload 6, 2) := by decide +kernel
theorem dX5_checkpoint_141 : decode cX5_checkpoint 141 = .ok (.imul, 1) := by decide +kernel
theorem dX5_checkpoint_142 : decode cX5_checkpoint 142 = .ok (.iadd, 1) := by decide +kernel
theorem dX5_checkpoint_143 : decode cX5_checkpoint 143 = .ok (.aload_n 0, 1) := by decide +kernel
theorem dX5_checkpoint_144 : decode cX5_checkpoint 144 = .ok (.getfield 14, 3) := by decide +kernel
theorem dX5_checkpoint_147 : decode cX5_checkpoint 147 = .ok (.iload 4, 2) := by decide +kernel
theorem dX5_checkpoint_149 : decode cX5_checkpoint 149 = .ok (.iload 6, 2) := by decide +kernel
theorem dX5_checkpoint_151 : decode cX5_checkpoint 151 = .ok (.iadd, 1) := by decide +kernel
theorem dX5_checkpoint_152 : decode cX5_checkpoint 152 = .ok (.iaload, 1) := by decide +kernel
theorem dX5_checkpoint_153 : decode cX5_checkpoint 153 = .ok (.iastore, 1) := by decide +kernel
theorem dX5_checkpoint_154 : decode cX5_checkpoint 154 = .ok (.aload_n 0, 1) := by decide +kernel
theorem dX5_checkpoint_155 : decode cX5_checkpoint 155 = .ok (.getfield 30, 3) := by decide +kernel
theorem dX5_checkpoint_158 : decode cX5_checkpoint 158 = .ok (.iconst 3, 1) := by decide +kernel
theorem dX5_checkpoint_159 : decode cX5_checkpoint 159 = .ok (.iconst 2, 1) := by decide +kernel
theorem dX5_checkpoint_160 : decode cX5_checkpoint 160 = .ok (.iload 6, 2) := by decide +kernel
theorem dX5_checkpoint_162 : decode cX5_checkpoint 162 = .ok (.imul, 1) := by decide +kernel
theorem dX5_checkpoint_163 : decode cX5_checkpoint 163 = .ok (.iadd, 1) := by decide +kernel
theorem dX5_checkpoint_164 : decode cX5_checkpoint 164 = .ok (.aload_n 0, 1) := by decide +kernel
theorem dX5_checkpoint_165 : decode cX5_checkpoint 165 = .ok (.getfield 17, 3) := by decide +kernel
theorem dX5_checkpoint_168 : decode cX5_checkpoint 168 = .ok (.iload 4, 2) := by decide +kernel
theorem dX5_checkpoint_170 : decode cX5_checkpoint 170 = .ok (.iload 6, 2) := by decide +kernel
theorem dX5_checkpoint_172 : decode cX5_checkpoint 172 = .ok (.iadd, 1) := by decide +kernel
theorem dX5_checkpoint_173 : decode cX5_checkpoint 173 = .ok (.iaload, 1) := by decide +kernel
theorem dX5_checkpoint_174 : decode cX5_checkpoint 174 = .ok (.iastore, 1) := by decide +kernel
theorem dX5_checkpoint_175 : decode cX5_checkpoint 175 = .ok (.iinc 6 1, 3) := by decide +kernel
theorem dX5_checkpoint_178 : decode cX5_checkpoint 178 = .ok (.goto (-52), 3) := by decide +kernel
theorem dX5_checkpoint_181 : decode cX5_checkpoint 181 = .ok (.aload_n 0, 1) := by decide +kernel
theorem dX5_checkpoint_182 : decode cX5_checkpoint 182 = .ok (.iload_n 2, 1) := by decide +kernel
theorem dX5_checkpoint_183 : decode cX5_checkpoint 183 = .ok (.invokevirtual 67, 3) := by decide +kernel
theorem dX5_checkpoint_186 : decode cX5_checkpoint 186 = .ok (.ifCond .ne 5, 3) := by decide +kernel
theorem dX5_checkpoint_189 : decode cX5_checkpoint 189 = .ok (.iconst (-1), 1) := by decide +kernel
theorem dX5_checkpoint_190 : decode cX5_checkpoint 190 = .ok (.ireturn, 1) := by decide +kernel
theorem dX5_checkpoint_191 : decode cX5_checkpoint 191 = .ok (.aload_n 0, 1) := by decide +kernel
theorem dX5_checkpoint_192 : decode cX5_checkpoint 192 = .ok (.getfield 33, 3) := by decide +kernel
theorem dX5_checkpoint_195 : decode cX5_checkpoint 195 = .ok (.iload_n 3, 1) := by decide +kernel
theorem dX5_checkpoint_196 : decode cX5_checkpoint 196 = .ok (.aload_n 0, 1) := by decide +kernel
theorem dX5_checkpoint_197 : decode cX5_checkpoint 197 = .ok (.getfield 14, 3) := by decide +kernel
theorem dX5_checkpoint_200 : decode cX5_checkpoint 200 = .ok (.iload 4, 2) := by decide +kernel
theorem dX5_checkpoint_202 : decode cX5_checkpoint 202 = .ok (.iaload, 1) := by decide +kernel
theorem dX5_checkpoint_203 : decode cX5_checkpoint 203 = .ok (.iastore, 1) := by decide +kernel
theorem dX5_checkpoint_204 : decode cX5_checkpoint 204 = .ok (.aload_n 0, 1) := by decide +kernel
theorem dX5_checkpoint_205 : decode cX5_checkpoint 205 = .ok (.getfield 36, 3) := by decide +kernel
theorem dX5_checkpoint_208 : decode cX5_checkpoint 208 = .ok (.iload_n 3, 1) := by decide +kernel
theorem dX5_checkpoint_209 : decode cX5_checkpoint 209 = .ok (.iload_n 2, 1) := by decide +kernel
theorem dX5_checkpoint_210 : decode cX5_checkpoint 210 = .ok (.iastore, 1) := by decide +kernel
theorem dX5_checkpoint_211 : decode cX5_checkpoint 211 = .ok (.iinc 3 1, 3) := by decide +kernel
theorem dX5_checkpoint_214 : decode cX5_checkpoint 214 = .ok (.iinc 2 1, 3) := by decide +kernel
theorem dX5_checkpoint_217 : decode cX5_checkpoint 217 = .ok (.iload 4, 2) := by decide +kernel
theorem dX5_checkpoint_219 : decode cX5_checkpoint 219 = .ok (.aload_n 0, 1) := by decide +kernel
theorem dX5_checkpoint_220 : decode cX5_checkpoint 220 = .ok (.invokevirtual 156, 3) := by decide +kernel
theorem dX5_checkpoint_223 : decode cX5_checkpoint 223 = .ok (.iadd, 1) := by decide +kernel
theorem dX5_checkpoint_224 : decode cX5_checkpoint 224 = .ok (.istore 4, 2) := by decide +kernel
theorem dX5_checkpoint_226 : decode cX5_checkpoint 226 = .ok (.goto (-161), 3) := by decide +kernel
theorem dX5_checkpoint_229 : decode cX5_checkpoint 229 = .ok (.iload_n 3, 1) := by decide +kernel
theorem dX5_checkpoint_230 : decode cX5_checkpoint 230 = .ok (.iconst 1, 1) := by decide +kernel
theorem dX5_checkpoint_231 : decode cX5_checkpoint 231 = .ok (.if_icmp .le 172, 3) := by decide +kernel
theorem dX5_checkpoint_234 : decode cX5_checkpoint 234 = .ok (.iconst 0, 1) := by decide +kernel
theorem dX5_checkpoint_235 : decode cX5_checkpoint 235 = .ok (.istore 4, 2) := by decide +kernel
theorem dX5_checkpoint_237 : decode cX5_checkpoint 237 = .ok (.iconst 0, 1) := by decide +kernel
theorem dX5_checkpoint_238 : decode cX5_checkpoint 238 = .ok (.istore 5, 2) := by decide +kernel
theorem dX5_checkpoint_240 : decode cX5_checkpoint 240 = .ok (.iload 5, 2) := by decide +kernel
theorem dX5_checkpoint_242 : decode cX5_checkpoint 242 = .ok (.iload_n 3, 1) := by decide +kernel
theorem dX5_checkpoint_243 : decode cX5_checkpoint 243 = .ok (.if_icmp .ge 154, 3) := by decide +kernel
theorem dX5_checkpoint_246 : decode cX5_checkpoint 246 = .ok (.iload_n 3, 1) := by decide +kernel
theorem dX5_checkpoint_247 : decode cX5_checkpoint 247 = .ok (.iload 5, 2) := by decide +kernel
theorem dX5_checkpoint_249 : decode cX5_checkpoint 249 = .ok (.isub, 1) := by decide +kernel
theorem dX5_checkpoint_250 : decode cX5_checkpoint 250 = .ok (.aload_n 0, 1) := by decide +kernel
theorem dX5_checkpoint_251 : decode cX5_checkpoint 251 = .ok (.invokevirtual 156, 3) := by decide +kernel
theorem dX5_checkpoint_254 : decode cX5_checkpoint 254 = .ok (.if_icmp .ge 10, 3) := by decide +kernel
theorem dX5_checkpoint_257 : decode cX5_checkpoint 257 = .ok (.iload_n 3, 1) := by decide +kernel
theorem dX5_checkpoint_258 : decode cX5_checkpoint 258 = .ok (.iload 5, 2) := by decide +kernel
theorem dX5_checkpoint_260 : decode cX5_checkpoint 260 = .ok (.isub, 1) := by decide +kernel
theorem dX5_checkpoint_261 : decode cX5_checkpoint 261 = .ok (.goto 7, 3) := by decide +kernel
theorem dX5_checkpoint_264 : decode cX5_checkpoint 264 = .ok (.aload_n 0, 1) := by decide +kernel
theorem dX5_checkpoint_265 : decode cX5_checkpoint 265 = .ok (.invokevirtual 156, 3) := by decide +kernel
theorem dX5_checkpoint_268 : decode cX5_checkpoint 268 = .ok (.istore 6, 2) := by decide +kernel
theorem dX5_checkpoint_270 : decode cX5_checkpoint 270 = .ok (.aload_n 0, 1) := by decide +kernel
theorem dX5_checkpoint_271 : decode cX5_checkpoint 271 = .ok (.invokevirtual 63, 3) := by decide +kernel
theorem dX5_checkpoint_274 : decode cX5_checkpoint 274 = .ok (.aload_n 0, 1) := by decide +kernel
theorem dX5_checkpoint_275 : decode cX5_checkpoint 275 = .ok (.getfield 30, 3) := by decide +kernel
theorem dX5_checkpoint_278 : decode cX5_checkpoint 278 = .ok (.iconst 0, 1) := by decide +kernel
theorem dX5_checkpoint_279 : decode cX5_checkpoint 279 = .ok (.iconst 2, 1) := by decide +kernel
theorem dX5_checkpoint_280 : decode cX5_checkpoint 280 = .ok (.iastore, 1) := by decide +kernel
theorem dX5_checkpoint_281 : decode cX5_checkpoint 281 = .ok (.aload_n 0, 1) := by decide +kernel
theorem dX5_checkpoint_282 : decode cX5_checkpoint 282 = .ok (.getfield 30, 3) := by decide +kernel
theorem dX5_checkpoint_285 : decode cX5_checkpoint 285 = .ok (.iconst 1, 1) := by decide +kernel
theorem dX5_checkpoint_286 : decode cX5_checkpoint 286 = .ok (.iload 6, 2) := by decide +kernel
theorem dX5_checkpoint_288 : decode cX5_checkpoint 288 = .ok (.iastore, 1) := by decide +kernel
theorem dX5_checkpoint_289 : decode cX5_checkpoint 289 = .ok (.iconst 0, 1) := by decide +kernel
theorem dX5_checkpoint_290 : decode cX5_checkpoint 290 = .ok (.istore 7, 2) := by decide +kernel
theorem dX5_checkpoint_292 : decode cX5_checkpoint 292 = .ok (.iload 7, 2) := by decide +kernel
theorem dX5_checkpoint_294 : decode cX5_checkpoint 294 = .ok (.iload 6, 2) := by decide +kernel
theorem dX5_checkpoint_296 : decode cX5_checkpoint 296 = .ok (.if_icmp .ge 51, 3) := by decide +kernel
theorem dX5_checkpoint_299 : decode cX5_checkpoint 299 = .ok (.aload_n 0, 1) := by decide +kernel
theorem dX5_checkpoint_300 : decode cX5_checkpoint 300 = .ok (.getfield 30, 3) := by decide +kernel
theorem dX5_checkpoint_303 : decode cX5_checkpoint 303 = .ok (.iconst 2, 1) := by decide +kernel
theorem dX5_checkpoint_304 : decode cX5_checkpoint 304 = .ok (.iconst 2, 1) := by decide +kernel
theorem dX5_checkpoint_305 : decode cX5_checkpoint 305 = .ok (.iload 7, 2) := by decide +kernel
theorem dX5_checkpoint_307 : decode cX5_checkpoint 307 = .ok (.imul, 1) := by decide +kernel
theorem dX5_checkpoint_308 : decode cX5_checkpoint 308 = .ok (.iadd, 1) := by decide +kernel
theorem dX5_checkpoint_309 : decode cX5_checkpoint 309 = .ok (.aload_n 0, 1) := by decide +kernel
theorem dX5_checkpoint_310 : decode cX5_checkpoint 310 = .ok (.getfield 33, 3) := by decide +kernel
theorem dX5_checkpoint_313 : decode cX5_checkpoint 313 = .ok (.iload 5, 2) := by decide +kernel
theorem dX5_checkpoint_315 : decode cX5_checkpoint 315 = .ok (.iload 7, 2) := by decide +kernel
theorem dX5_checkpoint_317 : decode cX5_checkpoint 317 = .ok (.iadd, 1) := by decide +kernel
theorem dX5_checkpoint_318 : decode cX5_checkpoint 318 = .ok (.iaload, 1) := by decide +kernel
theorem dX5_checkpoint_319 : decode cX5_checkpoint 319 = .ok (.iastore, 1) := by decide +kernel
theorem dX5_checkpoint_320 : decode cX5_checkpoint 320 = .ok (.aload_n 0, 1) := by decide +kernel
theorem dX5_checkpoint_321 : decode cX5_checkpoint 321 = .ok (.getfield 30, 3) := by decide +kernel
theorem dX5_checkpoint_324 : decode cX5_checkpoint 324 = .ok (.iconst 3, 1) := by decide +kernel
theorem dX5_checkpoint_325 : decode cX5_checkpoint 325 = .ok (.iconst 2, 1) := by decide +kernel
theorem dX5_checkpoint_326 : decode cX5_checkpoint 326 = .ok (.iload 7, 2) := by decide +kernel
theorem dX5_checkpoint_328 : decode cX5_checkpoint 328 = .ok (.imul, 1) := by decide +kernel
theorem dX5_checkpoint_329 : decode cX5_checkpoint 329 = .ok (.iadd, 1) := by decide +kernel
theorem dX5_checkpoint_330 : decode cX5_checkpoint 330 = .ok (.aload_n 0, 1) := by decide +kernel
theorem dX5_checkpoint_331 : decode cX5_checkpoint 331 = .ok (.getfield 36, 3) := by decide +kernel
theorem dX5_checkpoint_334 : decode cX5_checkpoint 334 = .ok (.iload 5, 2) := by decide +kernel
theorem dX5_checkpoint_336 : decode cX5_checkpoint 336 = .ok (.iload 7, 2) := by decide +kernel
theorem dX5_checkpoint_338 : decode cX5_checkpoint 338 = .ok (.iadd, 1) := by decide +kernel
theorem dX5_checkpoint_339 : decode cX5_checkpoint 339 = .ok (.iaload, 1) := by decide +kernel
theorem dX5_checkpoint_340 : decode cX5_checkpoint 340 = .ok (.iastore, 1) := by decide +kernel
theorem dX5_checkpoint_341 : decode cX5_checkpoint 341 = .ok (.iinc 7 1, 3) := by decide +kernel
theorem dX5_checkpoint_344 : decode cX5_checkpoint 344 = .ok (.goto (-52), 3) := by decide +kernel
theorem dX5_checkpoint_347 : decode cX5_checkpoint 347 = .ok (.aload_n 0, 1) := by decide +kernel
theorem dX5_checkpoint_348 : decode cX5_checkpoint 348 = .ok (.iload_n 2, 1) := by decide +kernel
theorem dX5_checkpoint_349 : decode cX5_checkpoint 349 = .ok (.invokevirtual 67, 3) := by decide +kernel
theorem dX5_checkpoint_352 : decode cX5_checkpoint 352 = .ok (.ifCond .ne 5, 3) := by decide +kernel
theorem dX5_checkpoint_355 : decode cX5_checkpoint 355 = .ok (.iconst (-1), 1) := by decide +kernel
theorem dX5_checkpoint_356 : decode cX5_checkpoint 356 = .ok (.ireturn, 1) := by decide +kernel
theorem dX5_checkpoint_357 : decode cX5_checkpoint 357 = .ok (.aload_n 0, 1) := by decide +kernel
theorem dX5_checkpoint_358 : decode cX5_checkpoint 358 = .ok (.getfield 33, 3) := by decide +kernel
theorem dX5_checkpoint_361 : decode cX5_checkpoint 361 = .ok (.iload 4, 2) := by decide +kernel
theorem dX5_checkpoint_363 : decode cX5_checkpoint 363 = .ok (.aload_n 0, 1) := by decide +kernel
theorem dX5_checkpoint_364 : decode cX5_checkpoint 364 = .ok (.getfield 33, 3) := by decide +kernel
theorem dX5_checkpoint_367 : decode cX5_checkpoint 367 = .ok (.iload 5, 2) := by decide +kernel
theorem dX5_checkpoint_369 : decode cX5_checkpoint 369 = .ok (.iaload, 1) := by decide +kernel
theorem dX5_checkpoint_370 : decode cX5_checkpoint 370 = .ok (.iastore, 1) := by decide +kernel
theorem dX5_checkpoint_371 : decode cX5_checkpoint 371 = .ok (.aload_n 0, 1) := by decide +kernel
theorem dX5_checkpoint_372 : decode cX5_checkpoint 372 = .ok (.getfield 36, 3) := by decide +kernel
theorem dX5_checkpoint_375 : decode cX5_checkpoint 375 = .ok (.iload 4, 2) := by decide +kernel
theorem dX5_checkpoint_377 : decode cX5_checkpoint 377 = .ok (.iload_n 2, 1) := by decide +kernel
theorem dX5_checkpoint_378 : decode cX5_checkpoint 378 = .ok (.iastore, 1) := by decide +kernel
theorem dX5_checkpoint_379 : decode cX5_checkpoint 379 = .ok (.iinc 4 1, 3) := by decide +kernel
theorem dX5_checkpoint_382 : decode cX5_checkpoint 382 = .ok (.iinc 2 1, 3) := by decide +kernel
theorem dX5_checkpoint_385 : decode cX5_checkpoint 385 = .ok (.iload 5, 2) := by decide +kernel
theorem dX5_checkpoint_387 : decode cX5_checkpoint 387 = .ok (.aload_n 0, 1) := by decide +kernel
theorem dX5_checkpoint_388 : decode cX5_checkpoint 388 = .ok (.invokevirtual 156, 3) := by decide +kernel
theorem dX5_checkpoint_391 : decode cX5_checkpoint 391 = .ok (.iadd, 1) := by decide +kernel
theorem dX5_checkpoint_392 : decode cX5_checkpoint 392 = .ok (.istore 5, 2) := by decide +kernel
theorem dX5_checkpoint_394 : decode cX5_checkpoint 394 = .ok (.goto (-154), 3) := by decide +kernel
theorem dX5_checkpoint_397 : decode cX5_checkpoint 397 = .ok (.iload 4, 2) := by decide +kernel
theorem dX5_checkpoint_399 : decode cX5_checkpoint 399 = .ok (.istore_n 3, 1) := by decide +kernel
theorem dX5_checkpoint_400 : decode cX5_checkpoint 400 = .ok (.goto (-171), 3) := by decide +kernel
theorem dX5_checkpoint_403 : decode cX5_checkpoint 403 = .ok (.aload_n 0, 1) := by decide +kernel
theorem dX5_checkpoint_404 : decode cX5_checkpoint 404 = .ok (.aload_n 0, 1) := by decide +kernel
theorem dX5_checkpoint_405 : decode cX5_checkpoint 405 = .ok (.getfield 85, 3) := by decide +kernel
theorem dX5_checkpoint_408 : decode cX5_checkpoint 408 = .ok (.iconst 1, 1) := by decide +kernel
theorem dX5_checkpoint_409 : decode cX5_checkpoint 409 = .ok (.iadd, 1) := by decide +kernel
theorem dX5_checkpoint_410 : decode cX5_checkpoint 410 = .ok (.aload_n 0, 1) := by decide +kernel
theorem dX5_checkpoint_411 : decode cX5_checkpoint 411 = .ok (.getfield 88, 3) := by decide +kernel
theorem dX5_checkpoint_414 : decode cX5_checkpoint 414 = .ok (.iload_n 1, 1) := by decide +kernel
theorem dX5_checkpoint_415 : decode cX5_checkpoint 415 = .ok (.iload_n 3, 1) := by decide +kernel
theorem dX5_checkpoint_416 : decode cX5_checkpoint 416 = .ok (.ifCond .ne 7, 3) := by decide +kernel
theorem dX5_checkpoint_419 : decode cX5_checkpoint 419 = .ok (.iconst 0, 1) := by decide +kernel
theorem dX5_checkpoint_420 : decode cX5_checkpoint 420 = .ok (.goto 9, 3) := by decide +kernel
theorem dX5_checkpoint_423 : decode cX5_checkpoint 423 = .ok (.aload_n 0, 1) := by decide +kernel
theorem dX5_checkpoint_424 : decode cX5_checkpoint 424 = .ok (.getfield 36, 3) := by decide +kernel
theorem dX5_checkpoint_427 : decode cX5_checkpoint 427 = .ok (.iconst 0, 1) := by decide +kernel
theorem dX5_checkpoint_428 : decode cX5_checkpoint 428 = .ok (.iaload, 1) := by decide +kernel
theorem dX5_checkpoint_429 : decode cX5_checkpoint 429 = .ok (.aload_n 0, 1) := by decide +kernel
theorem dX5_checkpoint_430 : decode cX5_checkpoint 430 = .ok (.getfield 97, 3) := by decide +kernel
theorem dX5_checkpoint_433 : decode cX5_checkpoint 433 = .ok (.invokevirtual 81, 3) := by decide +kernel
theorem dX5_checkpoint_436 : decode cX5_checkpoint 436 = .ok (.ifCond .ne 5, 3) := by decide +kernel
theorem dX5_checkpoint_439 : decode cX5_checkpoint 439 = .ok (.iconst (-1), 1) := by decide +kernel
theorem dX5_checkpoint_440 : decode cX5_checkpoint 440 = .ok (.ireturn, 1) := by decide +kernel
theorem dX5_checkpoint_441 : decode cX5_checkpoint 441 = .ok (.aload_n 0, 1) := by decide +kernel
theorem dX5_checkpoint_442 : decode cX5_checkpoint 442 = .ok (.dup, 1) := by decide +kernel
theorem dX5_checkpoint_443 : decode cX5_checkpoint 443 = .ok (.getfield 85, 3) := by decide +kernel
theorem dX5_checkpoint_446 : decode cX5_checkpoint 446 = .ok (.iconst 1, 1) := by decide +kernel
theorem dX5_checkpoint_447 : decode cX5_checkpoint 447 = .ok (.iadd, 1) := by decide +kernel
theorem dX5_checkpoint_448 : decode cX5_checkpoint 448 = .ok (.putfield 85, 3) := by decide +kernel
theorem dX5_checkpoint_451 : decode cX5_checkpoint 451 = .ok (.aload_n 0, 1) := by decide +kernel
theorem dX5_checkpoint_452 : decode cX5_checkpoint 452 = .ok (.iconst 0, 1) := by decide +kernel
theorem dX5_checkpoint_453 : decode cX5_checkpoint 453 = .ok (.putfield 91, 3) := by decide +kernel
theorem dX5_checkpoint_456 : decode cX5_checkpoint 456 = .ok (.aload_n 0, 1) := by decide +kernel
theorem dX5_checkpoint_457 : decode cX5_checkpoint 457 = .ok (.iconst 0, 1) := by decide +kernel
theorem dX5_checkpoint_458 : decode cX5_checkpoint 458 = .ok (.putfield 94, 3) := by decide +kernel
theorem dX5_checkpoint_461 : decode cX5_checkpoint 461 = .ok (.iconst 0, 1) := by decide +kernel
theorem dX5_checkpoint_462 : decode cX5_checkpoint 462 = .ok (.ireturn, 1) := by decide +kernel
theorem dX5_beginSeen_0 : decode cX5_beginSeen 0 = .ok (.aload_n 0, 1) := by decide +kernel
theorem dX5_beginSeen_1 : decode cX5_beginSeen 1 = .ok (.iconst 0, 1) := by decide +kernel
theorem dX5_beginSeen_2 : decode cX5_beginSeen 2 = .ok (.putfield 165, 3) := by decide +kernel
theorem dX5_beginSeen_5 : decode cX5_beginSeen 5 = .ok (.aload_n 0, 1) := by decide +kernel
theorem dX5_beginSeen_6 : decode cX5_beginSeen 6 = .ok (.iconst 0, 1) := by decide +kernel
theorem dX5_beginSeen_7 : decode cX5_beginSeen 7 = .ok (.putfield 168, 3) := by decide +kernel
theorem dX5_beginSeen_10 : decode cX5_beginSeen 10 = .ok (.return_, 1) := by decide +kernel
theorem dX5_next_0 : decode cX5_next 0 = .ok (.aload_n 0, 1) := by decide +kernel
theorem dX5_next_1 : decode cX5_next 1 = .ok (.getfield 56, 3) := by decide +kernel
theorem dX5_next_4 : decode cX5_next 4 = .ok (.ifCond .eq 10, 3) := by decide +kernel
theorem dX5_next_7 : decode cX5_next 7 = .ok (.aload_n 0, 1) := by decide +kernel
theorem dX5_next_8 : decode cX5_next 8 = .ok (.getfield 104, 3) := by decide +kernel
theorem dX5_next_11 : decode cX5_next 11 = .ok (.goto 4, 3) := by decide +kernel
theorem dX5_next_14 : decode cX5_next 14 = .ok (.iconst 0, 1) := by decide +kernel
theorem dX5_next_15 : decode cX5_next 15 = .ok (.istore_n 1, 1) := by decide +kernel
theorem dX5_next_16 : decode cX5_next 16 = .ok (.aload_n 0, 1) := by decide +kernel
theorem dX5_next_17 : decode cX5_next 17 = .ok (.getfield 165, 3) := by decide +kernel
theorem dX5_next_20 : decode cX5_next 20 = .ok (.aload_n 0, 1) := by decide +kernel
theorem dX5_next_21 : decode cX5_next 21 = .ok (.getfield 97, 3) := by decide +kernel
theorem dX5_next_24 : decode cX5_next 24 = .ok (.if_icmp .lt 11, 3) := by decide +kernel
theorem dX5_next_27 : decode cX5_next 27 = .ok (.aload_n 0, 1) := by decide +kernel
theorem dX5_next_28 : decode cX5_next 28 = .ok (.getfield 168, 3) := by decide +kernel
theorem dX5_next_31 : decode cX5_next 31 = .ok (.iload_n 1, 1) := by decide +kernel
theorem dX5_next_32 : decode cX5_next 32 = .ok (.if_icmp .ge 179, 3) := by decide +kernel
theorem dX5_next_35 : decode cX5_next 35 = .ok (.aload_n 0, 1) := by decide +kernel
theorem dX5_next_36 : decode cX5_next 36 = .ok (.getfield 168, 3) := by decide +kernel
theorem dX5_next_39 : decode cX5_next 39 = .ok (.iload_n 1, 1) := by decide +kernel
theorem dX5_next_40 : decode cX5_next 40 = .ok (.if_icmp .ge 39, 3) := by decide +kernel
theorem dX5_next_43 : decode cX5_next 43 = .ok (.aload_n 0, 1) := by decide +kernel
theorem dX5_next_44 : decode cX5_next 44 = .ok (.getfield 165, 3) := by decide +kernel
theorem dX5_next_47 : decode cX5_next 47 = .ok (.aload_n 0, 1) := by decide +kernel
theorem dX5_next_48 : decode cX5_next 48 = .ok (.getfield 97, 3) := by decide +kernel
theorem dX5_next_51 : decode cX5_next 51 = .ok (.if_icmp .eq 24, 3) := by decide +kernel
theorem dX5_next_54 : decode cX5_next 54 = .ok (.aload_n 0, 1) := by decide +kernel
theorem dX5_next_55 : decode cX5_next 55 = .ok (.getfield 20, 3) := by decide +kernel
theorem dX5_next_58 : decode cX5_next 58 = .ok (.aload_n 0, 1) := by decide +kernel
theorem dX5_next_59 : decode cX5_next 59 = .ok (.getfield 168, 3) := by decide +kernel
theorem dX5_next_62 : decode cX5_next 62 = .ok (.iaload, 1) := by decide +kernel
theorem dX5_next_63 : decode cX5_next 63 = .ok (.aload_n 0, 1) := by decide +kernel
theorem dX5_next_64 : decode cX5_next 64 = .ok (.getfield 14, 3) := by decide +kernel
theorem dX5_next_67 : decode cX5_next 67 = .ok (.aload_n 0, 1) := by decide +kernel
theorem dX5_next_68 : decode cX5_next 68 = .ok (.getfield 165, 3) := by decide +kernel
theorem dX5_next_71 : decode cX5_next 71 = .ok (.iaload, 1) := by decide +kernel
theorem dX5_next_72 : decode cX5_next 72 = .ok (.if_icmp .gt 7, 3) := by decide +kernel
theorem dX5_next_75 : decode cX5_next 75 = .ok (.iconst 1, 1) := by decide +kernel
theorem dX5_next_76 : decode cX5_next 76 = .ok (.goto 4, 3) := by decide +kernel
theorem dX5_next_79 : decode cX5_next 79 = .ok (.iconst 0, 1) := by decide +kernel
theorem dX5_next_80 : decode cX5_next 80 = .ok (.istore_n 2, 1) := by decide +kernel
theorem dX5_next_81 : decode cX5_next 81 = .ok (.iload_n 2, 1) := by decide +kernel
theorem dX5_next_82 : decode cX5_next 82 = .ok (.ifCond .ne 41, 3) := by decide +kernel
theorem dX5_next_85 : decode cX5_next 85 = .ok (.aload_n 0, 1) := by decide +kernel
theorem dX5_next_86 : decode cX5_next 86 = .ok (.aload_n 0, 1) := by decide +kernel
theorem dX5_next_87 : decode cX5_next 87 = .ok (.getfield 14, 3) := by decide +kernel
theorem dX5_next_90 : decode cX5_next 90 = .ok (.aload_n 0, 1) := by decide +kernel
theorem dX5_next_91 : decode cX5_next 91 = .ok (.getfield 165, 3) := by decide +kernel
theorem dX5_next_94 : decode cX5_next 94 = .ok (.iaload, 1) := by decide +kernel
theorem dX5_next_95 : decode cX5_next 95 = .ok (.putfield 171, 3) := by decide +kernel
theorem dX5_next_98 : decode cX5_next 98 = .ok (.aload_n 0, 1) := by decide +kernel
theorem dX5_next_99 : decode cX5_next 99 = .ok (.aload_n 0, 1) := by decide +kernel
theorem dX5_next_100 : decode cX5_next 100 = .ok (.getfield 17, 3) := by decide +kernel
theorem dX5_next_103 : decode cX5_next 103 = .ok (.aload_n 0, 1) := by decide +kernel
theorem dX5_next_104 : decode cX5_next 104 = .ok (.getfield 165, 3) := by decide +kernel
theorem dX5_next_107 : decode cX5_next 107 = .ok (.iaload, 1) := by decide +kernel
theorem dX5_next_108 : decode cX5_next 108 = .ok (.putfield 174, 3) := by decide +kernel
theorem dX5_next_111 : decode cX5_next 111 = .ok (.aload_n 0, 1) := by decide +kernel
theorem dX5_next_112 : decode cX5_next 112 = .ok (.dup, 1) := by decide +kernel
theorem dX5_next_113 : decode cX5_next 113 = .ok (.getfield 165, 3) := by decide +kernel
theorem dX5_next_116 : decode cX5_next 116 = .ok (.iconst 1, 1) := by decide +kernel
theorem dX5_next_117 : decode cX5_next 117 = .ok (.iadd, 1) := by decide +kernel
theorem dX5_next_118 : decode cX5_next 118 = .ok (.putfield 165, 3) := by decide +kernel
theorem dX5_next_121 : decode cX5_next 121 = .ok (.iconst 1, 1) := by decide +kernel
theorem dX5_next_122 : decode cX5_next 122 = .ok (.ireturn, 1) := by decide +kernel
theorem dX5_next_123 : decode cX5_next 123 = .ok (.aload_n 0, 1) := by decide +kernel
theorem dX5_next_124 : decode cX5_next 124 = .ok (.getfield 168, 3) := by decide +kernel
theorem dX5_next_127 : decode cX5_next 127 = .ok (.istore_n 3, 1) := by decide +kernel
theorem dX5_next_128 : decode cX5_next 128 = .ok (.aload_n 0, 1) := by decide +kernel
theorem dX5_next_129 : decode cX5_next 129 = .ok (.dup, 1) := by decide +kernel
theorem dX5_next_130 : decode cX5_next 130 = .ok (.getfield 168, 3) := by decide +kernel
theorem dX5_next_133 : decode cX5_next 133 = .ok (.iconst 1, 1) := by decide +kernel
theorem dX5_next_134 : decode cX5_next 134 = .ok (.iadd, 1) := by decide +kernel
theorem dX5_next_135 : decode cX5_next 135 = .ok (.putfield 168, 3) := by decide +kernel
theorem dX5_next_138 : decode cX5_next 138 = .ok (.aload_n 0, 1) := by decide +kernel
theorem dX5_next_139 : decode cX5_next 139 = .ok (.getfield 165, 3) := by decide +kernel
theorem dX5_next_142 : decode cX5_next 142 = .ok (.aload_n 0, 1) := by decide +kernel
theorem dX5_next_143 : decode cX5_next 143 = .ok (.getfield 97, 3) := by decide +kernel
theorem dX5_next_146 : decode cX5_next 146 = .ok (.if_icmp .ge 31, 3) := by decide +kernel
theorem dX5_next_149 : decode cX5_next 149 = .ok (.aload_n 0, 1) := by decide +kernel
theorem dX5_next_150 : decode cX5_next 150 = .ok (.getfield 14, 3) := by decide +kernel
theorem dX5_next_153 : decode cX5_next 153 = .ok (.aload_n 0, 1) := by decide +kernel
theorem dX5_next_154 : decode cX5_next 154 = .ok (.getfield 165, 3) := by decide +kernel
theorem dX5_next_157 : decode cX5_next 157 = .ok (.iaload, 1) := by decide +kernel
theorem dX5_next_158 : decode cX5_next 158 = .ok (.aload_n 0, 1) := by decide +kernel
theorem dX5_next_159 : decode cX5_next 159 = .ok (.getfield 20, 3) := by decide +kernel
theorem dX5_next_162 : decode cX5_next 162 = .ok (.iload_n 3, 1) := by decide +kernel
theorem dX5_next_163 : decode cX5_next 163 = .ok (.iaload, 1) := by decide +kernel
theorem dX5_next_164 : decode cX5_next 164 = .ok (.if_icmp .ne 13, 3) := by decide +kernel
theorem dX5_next_167 : decode cX5_next 167 = .ok (.aload_n 0, 1) := by decide +kernel
theorem dX5_next_168 : decode cX5_next 168 = .ok (.dup, 1) := by decide +kernel
theorem dX5_next_169 : decode cX5_next 169 = .ok (.getfield 165, 3) := by decide +kernel
theorem dX5_next_172 : decode cX5_next 172 = .ok (.iconst 1, 1) := by decide +kernel
theorem dX5_next_173 : decode cX5_next 173 = .ok (.iadd, 1) := by decide +kernel
theorem dX5_next_174 : decode cX5_next 174 = .ok (.putfield 165, 3) := by decide +kernel
theorem dX5_next_177 : decode cX5_next 177 = .ok (.aload_n 0, 1) := by decide +kernel
theorem dX5_next_178 : decode cX5_next 178 = .ok (.getfield 26, 3) := by decide +kernel
theorem dX5_next_181 : decode cX5_next 181 = .ok (.iload_n 3, 1) := by decide +kernel
theorem dX5_next_182 : decode cX5_next 182 = .ok (.baload, 1) := by decide +kernel
theorem dX5_next_183 : decode cX5_next 183 = .ok (.ifCond .eq 6, 3) := by decide +kernel
theorem dX5_next_186 : decode cX5_next 186 = .ok (.goto (-170), 3) := by decide +kernel
theorem dX5_next_189 : decode cX5_next 189 = .ok (.aload_n 0, 1) := by decide +kernel
theorem dX5_next_190 : decode cX5_next 190 = .ok (.aload_n 0, 1) := by decide +kernel
theorem dX5_next_191 : decode cX5_next 191 = .ok (.getfield 20, 3) := by decide +kernel
theorem dX5_next_194 : decode cX5_next 194 = .ok (.iload_n 3, 1) := by decide +kernel
theorem dX5_next_195 : decode cX5_next 195 = .ok (.iaload, 1) := by decide +kernel
theorem dX5_next_196 : decode cX5_next 196 = .ok (.putfield 171, 3) := by decide +kernel
theorem dX5_next_199 : decode cX5_next 199 = .ok (.aload_n 0, 1) := by decide +kernel
theorem dX5_next_200 : decode cX5_next 200 = .ok (.aload_n 0, 1) := by decide +kernel
theorem dX5_next_201 : decode cX5_next 201 = .ok (.getfield 23, 3) := by decide +kernel
theorem dX5_next_204 : decode cX5_next 204 = .ok (.iload_n 3, 1) := by decide +kernel
theorem dX5_next_205 : decode cX5_next 205 = .ok (.iaload, 1) := by decide +kernel
theorem dX5_next_206 : decode cX5_next 206 = .ok (.putfield 174, 3) := by decide +kernel
theorem dX5_next_209 : decode cX5_next 209 = .ok (.iconst 1, 1) := by decide +kernel
theorem dX5_next_210 : decode cX5_next 210 = .ok (.ireturn, 1) := by decide +kernel
theorem dX5_next_211 : decode cX5_next 211 = .ok (.iconst 0, 1) := by decide +kernel
theorem dX5_next_212 : decode cX5_next 212 = .ok (.ireturn, 1) := by decide +kernel
theorem dX5_get_0 : decode cX5_get 0 = .ok (.aload_n 0, 1) := by decide +kernel
theorem dX5_get_1 : decode cX5_get 1 = .ok (.getfield 53, 3) := by decide +kernel
theorem dX5_get_4 : decode cX5_get 4 = .ok (.iconst 2, 1) := by decide +kernel
theorem dX5_get_5 : decode cX5_get 5 = .ok (.if_icmp .eq 5, 3) := by decide +kernel
theorem dX5_get_8 : decode cX5_get 8 = .ok (.iconst 0, 1) := by decide +kernel
theorem dX5_get_9 : decode cX5_get 9 = .ok (.ireturn, 1) := by decide +kernel
theorem dX5_get_10 : decode cX5_get 10 = .ok (.aload_n 0, 1) := by decide +kernel
theorem dX5_get_11 : decode cX5_get 11 = .ok (.iload_n 1, 1) := by decide +kernel
theorem dX5_get_12 : decode cX5_get 12 = .ok (.invokevirtual 153, 3) := by decide +kernel
theorem dX5_get_15 : decode cX5_get 15 = .ok (.ifCond .eq 31, 3) := by decide +kernel
theorem dX5_get_18 : decode cX5_get 18 = .ok (.aload_n 0, 1) := by decide +kernel
theorem dX5_get_19 : decode cX5_get 19 = .ok (.getfield 26, 3) := by decide +kernel
theorem dX5_get_22 : decode cX5_get 22 = .ok (.aload_n 0, 1) := by decide +kernel
theorem dX5_get_23 : decode cX5_get 23 = .ok (.iload_n 1, 1) := by decide +kernel
theorem dX5_get_24 : decode cX5_get 24 = .ok (.invokevirtual 107, 3) := by decide +kernel
theorem dX5_get_27 : decode cX5_get 27 = .ok (.baload, 1) := by decide +kernel
theorem dX5_get_28 : decode cX5_get 28 = .ok (.ifCond .eq 7, 3) := by decide +kernel
theorem dX5_get_31 : decode cX5_get 31 = .ok (.iconst 0, 1) := by decide +kernel
theorem dX5_get_32 : decode cX5_get 32 = .ok (.goto 13, 3) := by decide +kernel
theorem dX5_get_35 : decode cX5_get 35 = .ok (.aload_n 0, 1) := by decide +kernel
theorem dX5_get_36 : decode cX5_get 36 = .ok (.getfield 23, 3) := by decide +kernel
theorem dX5_get_39 : decode cX5_get 39 = .ok (.aload_n 0, 1) := by decide +kernel
theorem dX5_get_40 : decode cX5_get 40 = .ok (.iload_n 1, 1) := by decide +kernel
theorem dX5_get_41 : decode cX5_get 41 = .ok (.invokevirtual 107, 3) := by decide +kernel
theorem dX5_get_44 : decode cX5_get 44 = .ok (.iaload, 1) := by decide +kernel
theorem dX5_get_45 : decode cX5_get 45 = .ok (.ireturn, 1) := by decide +kernel
theorem dX5_get_46 : decode cX5_get 46 = .ok (.aload_n 0, 1) := by decide +kernel
theorem dX5_get_47 : decode cX5_get 47 = .ok (.iload_n 1, 1) := by decide +kernel
theorem dX5_get_48 : decode cX5_get 48 = .ok (.invokevirtual 100, 3) := by decide +kernel
theorem dX5_get_51 : decode cX5_get 51 = .ok (.istore_n 2, 1) := by decide +kernel
theorem dX5_get_52 : decode cX5_get 52 = .ok (.iload_n 2, 1) := by decide +kernel
theorem dX5_get_53 : decode cX5_get 53 = .ok (.aload_n 0, 1) := by decide +kernel
theorem dX5_get_54 : decode cX5_get 54 = .ok (.getfield 97, 3) := by decide +kernel
theorem dX5_get_57 : decode cX5_get 57 = .ok (.if_icmp .ge 22, 3) := by decide +kernel
theorem dX5_get_60 : decode cX5_get 60 = .ok (.aload_n 0, 1) := by decide +kernel
theorem dX5_get_61 : decode cX5_get 61 = .ok (.getfield 14, 3) := by decide +kernel
theorem dX5_get_64 : decode cX5_get 64 = .ok (.iload_n 2, 1) := by decide +kernel
theorem dX5_get_65 : decode cX5_get 65 = .ok (.iaload, 1) := by decide +kernel
theorem dX5_get_66 : decode cX5_get 66 = .ok (.iload_n 1, 1) := by decide +kernel
theorem dX5_get_67 : decode cX5_get 67 = .ok (.if_icmp .ne 12, 3) := by decide +kernel
theorem dX5_get_70 : decode cX5_get 70 = .ok (.aload_n 0, 1) := by decide +kernel
theorem dX5_get_71 : decode cX5_get 71 = .ok (.getfield 17, 3) := by decide +kernel
theorem dX5_get_74 : decode cX5_get 74 = .ok (.iload_n 2, 1) := by decide +kernel
theorem dX5_get_75 : decode cX5_get 75 = .ok (.iaload, 1) := by decide +kernel
theorem dX5_get_76 : decode cX5_get 76 = .ok (.goto 4, 3) := by decide +kernel
theorem dX5_get_79 : decode cX5_get 79 = .ok (.iconst 0, 1) := by decide +kernel
theorem dX5_get_80 : decode cX5_get 80 = .ok (.ireturn, 1) := by decide +kernel
theorem dX5_has_0 : decode cX5_has 0 = .ok (.aload_n 0, 1) := by decide +kernel
theorem dX5_has_1 : decode cX5_has 1 = .ok (.getfield 53, 3) := by decide +kernel
theorem dX5_has_4 : decode cX5_has 4 = .ok (.iconst 2, 1) := by decide +kernel
theorem dX5_has_5 : decode cX5_has 5 = .ok (.if_icmp .ne 15, 3) := by decide +kernel
theorem dX5_has_8 : decode cX5_has 8 = .ok (.aload_n 0, 1) := by decide +kernel
theorem dX5_has_9 : decode cX5_has 9 = .ok (.iload_n 1, 1) := by decide +kernel
theorem dX5_has_10 : decode cX5_has 10 = .ok (.invokevirtual 150, 3) := by decide +kernel
theorem dX5_has_13 : decode cX5_has 13 = .ok (.ifCond .eq 7, 3) := by decide +kernel
theorem dX5_has_16 : decode cX5_has 16 = .ok (.iconst 1, 1) := by decide +kernel
theorem dX5_has_17 : decode cX5_has 17 = .ok (.goto 4, 3) := by decide +kernel
theorem dX5_has_20 : decode cX5_has 20 = .ok (.iconst 0, 1) := by decide +kernel
theorem dX5_has_21 : decode cX5_has 21 = .ok (.ireturn, 1) := by decide +kernel
theorem dX5_size_0 : decode cX5_size 0 = .ok (.aload_n 0, 1) := by decide +kernel
theorem dX5_size_1 : decode cX5_size 1 = .ok (.getfield 53, 3) := by decide +kernel
theorem dX5_size_4 : decode cX5_size 4 = .ok (.iconst 2, 1) := by decide +kernel
theorem dX5_size_5 : decode cX5_size 5 = .ok (.if_icmp .eq 5, 3) := by decide +kernel
theorem dX5_size_8 : decode cX5_size 8 = .ok (.iconst 0, 1) := by decide +kernel
theorem dX5_size_9 : decode cX5_size 9 = .ok (.ireturn, 1) := by decide +kernel
theorem dX5_size_10 : decode cX5_size 10 = .ok (.aload_n 0, 1) := by decide +kernel
theorem dX5_size_11 : decode cX5_size 11 = .ok (.iconst 0, 1) := by decide +kernel
theorem dX5_size_12 : decode cX5_size 12 = .ok (.putfield 177, 3) := by decide +kernel
theorem dX5_size_15 : decode cX5_size 15 = .ok (.aload_n 0, 1) := by decide +kernel
theorem dX5_size_16 : decode cX5_size 16 = .ok (.invokevirtual 180, 3) := by decide +kernel
theorem dX5_size_19 : decode cX5_size 19 = .ok (.aload_n 0, 1) := by decide +kernel
theorem dX5_size_20 : decode cX5_size 20 = .ok (.invokevirtual 183, 3) := by decide +kernel
theorem dX5_size_23 : decode cX5_size 23 = .ok (.ifCond .eq 16, 3) := by decide +kernel
theorem dX5_size_26 : decode cX5_size 26 = .ok (.aload_n 0, 1) := by decide +kernel
theorem dX5_size_27 : decode cX5_size 27 = .ok (.dup, 1) := by decide +kernel
theorem dX5_size_28 : decode cX5_size 28 = .ok (.getfield 177, 3) := by decide +kernel
theorem dX5_size_31 : decode cX5_size 31 = .ok (.iconst 1, 1) := by decide +kernel
theorem dX5_size_32 : decode cX5_size 32 = .ok (.iadd, 1) := by decide +kernel
theorem dX5_size_33 : decode cX5_size 33 = .ok (.putfield 177, 3) := by decide +kernel
theorem dX5_size_36 : decode cX5_size 36 = .ok (.goto (-17), 3) := by decide +kernel
theorem dX5_size_39 : decode cX5_size 39 = .ok (.aload_n 0, 1) := by decide +kernel
theorem dX5_size_40 : decode cX5_size 40 = .ok (.getfield 177, 3) := by decide +kernel
theorem dX5_size_43 : decode cX5_size 43 = .ok (.ireturn, 1) := by decide +kernel
theorem dX5_key_0 : decode cX5_key 0 = .ok (.aload_n 0, 1) := by decide +kernel
theorem dX5_key_1 : decode cX5_key 1 = .ok (.getfield 53, 3) := by decide +kernel
theorem dX5_key_4 : decode cX5_key 4 = .ok (.iconst 2, 1) := by decide +kernel
theorem dX5_key_5 : decode cX5_key 5 = .ok (.if_icmp .ne 7, 3) := by decide +kernel
theorem dX5_key_8 : decode cX5_key 8 = .ok (.iload_n 1, 1) := by decide +kernel
theorem dX5_key_9 : decode cX5_key 9 = .ok (.ifCond .ge 5, 3) := by decide +kernel
theorem dX5_key_12 : decode cX5_key 12 = .ok (.iconst 0, 1) := by decide +kernel
theorem dX5_key_13 : decode cX5_key 13 = .ok (.ireturn, 1) := by decide +kernel
theorem dX5_key_14 : decode cX5_key 14 = .ok (.aload_n 0, 1) := by decide +kernel
theorem dX5_key_15 : decode cX5_key 15 = .ok (.invokevirtual 180, 3) := by decide +kernel
theorem dX5_key_18 : decode cX5_key 18 = .ok (.iconst 0, 1) := by decide +kernel
theorem dX5_key_19 : decode cX5_key 19 = .ok (.istore_n 2, 1) := by decide +kernel
theorem dX5_key_20 : decode cX5_key 20 = .ok (.aload_n 0, 1) := by decide +kernel
theorem dX5_key_21 : decode cX5_key 21 = .ok (.invokevirtual 183, 3) := by decide +kernel
theorem dX5_key_24 : decode cX5_key 24 = .ok (.ifCond .eq 19, 3) := by decide +kernel
theorem dX5_key_27 : decode cX5_key 27 = .ok (.iload_n 2, 1) := by decide +kernel
theorem dX5_key_28 : decode cX5_key 28 = .ok (.iload_n 1, 1) := by decide +kernel
theorem dX5_key_29 : decode cX5_key 29 = .ok (.if_icmp .ne 8, 3) := by decide +kernel
theorem dX5_key_32 : decode cX5_key 32 = .ok (.aload_n 0, 1) := by decide +kernel
theorem dX5_key_33 : decode cX5_key 33 = .ok (.getfield 171, 3) := by decide +kernel
theorem dX5_key_36 : decode cX5_key 36 = .ok (.ireturn, 1) := by decide +kernel
theorem dX5_key_37 : decode cX5_key 37 = .ok (.iinc 2 1, 3) := by decide +kernel
theorem dX5_key_40 : decode cX5_key 40 = .ok (.goto (-20), 3) := by decide +kernel
theorem dX5_key_43 : decode cX5_key 43 = .ok (.iconst 0, 1) := by decide +kernel
theorem dX5_key_44 : decode cX5_key 44 = .ok (.ireturn, 1) := by decide +kernel
theorem dX5_sum_0 : decode cX5_sum 0 = .ok (.aload_n 0, 1) := by decide +kernel
theorem dX5_sum_1 : decode cX5_sum 1 = .ok (.getfield 53, 3) := by decide +kernel
theorem dX5_sum_4 : decode cX5_sum 4 = .ok (.iconst 2, 1) := by decide +kernel
theorem dX5_sum_5 : decode cX5_sum 5 = .ok (.if_icmp .ne 12, 3) := by decide +kernel
theorem dX5_sum_8 : decode cX5_sum 8 = .ok (.iload_n 3, 1) := by decide +kernel
theorem dX5_sum_9 : decode cX5_sum 9 = .ok (.ifCond .lt 8, 3) := by decide +kernel
theorem dX5_sum_12 : decode cX5_sum 12 = .ok (.iload_n 3, 1) := by decide +kernel
theorem dX5_sum_13 : decode cX5_sum 13 = .ok (.iconst 3, 1) := by decide +kernel
theorem dX5_sum_14 : decode cX5_sum 14 = .ok (.if_icmp .le 5, 3) := by decide +kernel
theorem dX5_sum_17 : decode cX5_sum 17 = .ok (.lconst 0, 1) := by decide +kernel
theorem dX5_sum_18 : decode cX5_sum 18 = .ok (.lreturn, 1) := by decide +kernel
theorem dX5_sum_19 : decode cX5_sum 19 = .ok (.lconst 0, 1) := by decide +kernel
theorem dX5_sum_20 : decode cX5_sum 20 = .ok (.lstore 4, 2) := by decide +kernel
theorem dX5_sum_22 : decode cX5_sum 22 = .ok (.lconst 0, 1) := by decide +kernel
theorem dX5_sum_23 : decode cX5_sum 23 = .ok (.lstore 6, 2) := by decide +kernel
theorem dX5_sum_25 : decode cX5_sum 25 = .ok (.iconst 0, 1) := by decide +kernel
theorem dX5_sum_26 : decode cX5_sum 26 = .ok (.istore 8, 2) := by decide +kernel
theorem dX5_sum_28 : decode cX5_sum 28 = .ok (.iconst 0, 1) := by decide +kernel
theorem dX5_sum_29 : decode cX5_sum 29 = .ok (.istore 9, 2) := by decide +kernel
theorem dX5_sum_31 : decode cX5_sum 31 = .ok (.aload_n 0, 1) := by decide +kernel
theorem dX5_sum_32 : decode cX5_sum 32 = .ok (.invokevirtual 180, 3) := by decide +kernel
theorem dX5_sum_35 : decode cX5_sum 35 = .ok (.aload_n 0, 1) := by decide +kernel
theorem dX5_sum_36 : decode cX5_sum 36 = .ok (.invokevirtual 183, 3) := by decide +kernel
theorem dX5_sum_39 : decode cX5_sum 39 = .ok (.ifCond .eq 60, 3) := by decide +kernel
theorem dX5_sum_42 : decode cX5_sum 42 = .ok (.aload_n 0, 1) := by decide +kernel
theorem dX5_sum_43 : decode cX5_sum 43 = .ok (.getfield 171, 3) := by decide +kernel
theorem dX5_sum_46 : decode cX5_sum 46 = .ok (.iload_n 1, 1) := by decide +kernel
theorem dX5_sum_47 : decode cX5_sum 47 = .ok (.if_icmp .lt (-12), 3) := by decide +kernel
theorem dX5_sum_50 : decode cX5_sum 50 = .ok (.aload_n 0, 1) := by decide +kernel
theorem dX5_sum_51 : decode cX5_sum 51 = .ok (.getfield 171, 3) := by decide +kernel
theorem dX5_sum_54 : decode cX5_sum 54 = .ok (.iload_n 2, 1) := by decide +kernel
theorem dX5_sum_55 : decode cX5_sum 55 = .ok (.if_icmp .le 6, 3) := by decide +kernel
theorem dX5_sum_58 : decode cX5_sum 58 = .ok (.goto (-23), 3) := by decide +kernel
theorem dX5_sum_61 : decode cX5_sum 61 = .ok (.lload 4, 2) := by decide +kernel
theorem dX5_sum_63 : decode cX5_sum 63 = .ok (.lconst 0, 1) := by decide +kernel
theorem dX5_sum_64 : decode cX5_sum 64 = .ok (.lcmp, 1) := by decide +kernel
theorem dX5_sum_65 : decode cX5_sum 65 = .ok (.ifCond .ne 9, 3) := by decide +kernel
theorem dX5_sum_68 : decode cX5_sum 68 = .ok (.aload_n 0, 1) := by decide +kernel
theorem dX5_sum_69 : decode cX5_sum 69 = .ok (.getfield 171, 3) := by decide +kernel
theorem dX5_sum_72 : decode cX5_sum 72 = .ok (.istore 8, 2) := by decide +kernel
theorem dX5_sum_74 : decode cX5_sum 74 = .ok (.aload_n 0, 1) := by decide +kernel
theorem dX5_sum_75 : decode cX5_sum 75 = .ok (.getfield 171, 3) := by decide +kernel
theorem dX5_sum_78 : decode cX5_sum 78 = .ok (.istore 9, 2) := by decide +kernel
theorem dX5_sum_80 : decode cX5_sum 80 = .ok (.lload 4, 2) := by decide +kernel
theorem dX5_sum_82 : decode cX5_sum 82 = .ok (.lconst 1, 1) := by decide +kernel
theorem dX5_sum_83 : decode cX5_sum 83 = .ok (.ladd, 1) := by decide +kernel
theorem dX5_sum_84 : decode cX5_sum 84 = .ok (.lstore 4, 2) := by decide +kernel
theorem dX5_sum_86 : decode cX5_sum 86 = .ok (.lload 6, 2) := by decide +kernel
theorem dX5_sum_88 : decode cX5_sum 88 = .ok (.aload_n 0, 1) := by decide +kernel
theorem dX5_sum_89 : decode cX5_sum 89 = .ok (.getfield 174, 3) := by decide +kernel
theorem dX5_sum_92 : decode cX5_sum 92 = .ok (.i2l, 1) := by decide +kernel
theorem dX5_sum_93 : decode cX5_sum 93 = .ok (.ladd, 1) := by decide +kernel
theorem dX5_sum_94 : decode cX5_sum 94 = .ok (.lstore 6, 2) := by decide +kernel
theorem dX5_sum_96 : decode cX5_sum 96 = .ok (.goto (-61), 3) := by decide +kernel
theorem dX5_sum_99 : decode cX5_sum 99 = .ok (.iload_n 3, 1) := by decide +kernel
theorem dX5_sum_100 : decode cX5_sum 100 = .ok (.ifCond .ne 8, 3) := by decide +kernel
theorem dX5_sum_103 : decode cX5_sum 103 = .ok (.lload 4, 2) := by decide +kernel
theorem dX5_sum_105 : decode cX5_sum 105 = .ok (.goto 27, 3) := by decide +kernel
theorem dX5_sum_108 : decode cX5_sum 108 = .ok (.iload_n 3, 1) := by decide +kernel
theorem dX5_sum_109 : decode cX5_sum 109 = .ok (.iconst 1, 1) := by decide +kernel
theorem dX5_sum_110 : decode cX5_sum 110 = .ok (.if_icmp .ne 8, 3) := by decide +kernel
theorem dX5_sum_113 : decode cX5_sum 113 = .ok (.lload 6, 2) := by decide +kernel
theorem dX5_sum_115 : decode cX5_sum 115 = .ok (.goto 17, 3) := by decide +kernel
theorem dX5_sum_118 : decode cX5_sum 118 = .ok (.iload_n 3, 1) := by decide +kernel
theorem dX5_sum_119 : decode cX5_sum 119 = .ok (.iconst 2, 1) := by decide +kernel
theorem dX5_sum_120 : decode cX5_sum 120 = .ok (.if_icmp .ne 9, 3) := by decide +kernel
theorem dX5_sum_123 : decode cX5_sum 123 = .ok (.iload 8, 2) := by decide +kernel
theorem dX5_sum_125 : decode cX5_sum 125 = .ok (.i2l, 1) := by decide +kernel
theorem dX5_sum_126 : decode cX5_sum 126 = .ok (.goto 6, 3) := by decide +kernel
theorem dX5_sum_129 : decode cX5_sum 129 = .ok (.iload 9, 2) := by decide +kernel
theorem dX5_sum_131 : decode cX5_sum 131 = .ok (.i2l, 1) := by decide +kernel
theorem dX5_sum_132 : decode cX5_sum 132 = .ok (.lreturn, 1) := by decide +kernel
theorem dX5_word_0 : decode cX5_word 0 = .ok (.aload_n 0, 1) := by decide +kernel
theorem dX5_word_1 : decode cX5_word 1 = .ok (.getfield 53, 3) := by decide +kernel
theorem dX5_word_4 : decode cX5_word 4 = .ok (.ifCond .eq 27, 3) := by decide +kernel
theorem dX5_word_7 : decode cX5_word 7 = .ok (.iload_n 1, 1) := by decide +kernel
theorem dX5_word_8 : decode cX5_word 8 = .ok (.ifCond .lt 23, 3) := by decide +kernel
theorem dX5_word_11 : decode cX5_word 11 = .ok (.iload_n 1, 1) := by decide +kernel
theorem dX5_word_12 : decode cX5_word 12 = .ok (.aload_n 0, 1) := by decide +kernel
theorem dX5_word_13 : decode cX5_word 13 = .ok (.getfield 71, 3) := by decide +kernel
theorem dX5_word_16 : decode cX5_word 16 = .ok (.if_icmp .ge 15, 3) := by decide +kernel
theorem dX5_word_19 : decode cX5_word 19 = .ok (.iload_n 2, 1) := by decide +kernel
theorem dX5_word_20 : decode cX5_word 20 = .ok (.ifCond .lt 11, 3) := by decide +kernel
theorem dX5_word_23 : decode cX5_word 23 = .ok (.iload_n 2, 1) := by decide +kernel
theorem dX5_word_24 : decode cX5_word 24 = .ok (.aload_n 0, 1) := by decide +kernel
theorem dX5_word_25 : decode cX5_word 25 = .ok (.getfield 42, 3) := by decide +kernel
theorem dX5_word_28 : decode cX5_word 28 = .ok (.if_icmp .lt 7, 3) := by decide +kernel
theorem dX5_word_31 : decode cX5_word 31 = .ok (.iconst 0, 1) := by decide +kernel
theorem dX5_word_32 : decode cX5_word 32 = .ok (.goto 16, 3) := by decide +kernel
theorem dX5_word_35 : decode cX5_word 35 = .ok (.aload_n 0, 1) := by decide +kernel
theorem dX5_word_36 : decode cX5_word 36 = .ok (.getfield 8, 3) := by decide +kernel
theorem dX5_word_39 : decode cX5_word 39 = .ok (.aload_n 0, 1) := by decide +kernel
theorem dX5_word_40 : decode cX5_word 40 = .ok (.getfield 42, 3) := by decide +kernel
theorem dX5_word_43 : decode cX5_word 43 = .ok (.iload_n 1, 1) := by decide +kernel
theorem dX5_word_44 : decode cX5_word 44 = .ok (.imul, 1) := by decide +kernel
theorem dX5_word_45 : decode cX5_word 45 = .ok (.iload_n 2, 1) := by decide +kernel
theorem dX5_word_46 : decode cX5_word 46 = .ok (.iadd, 1) := by decide +kernel
theorem dX5_word_47 : decode cX5_word 47 = .ok (.iaload, 1) := by decide +kernel
theorem dX5_word_48 : decode cX5_word 48 = .ok (.ireturn, 1) := by decide +kernel
theorem dX5_state_0 : decode cX5_state 0 = .ok (.aload_n 0, 1) := by decide +kernel
theorem dX5_state_1 : decode cX5_state 1 = .ok (.getfield 53, 3) := by decide +kernel
theorem dX5_state_4 : decode cX5_state 4 = .ok (.ireturn, 1) := by decide +kernel
theorem dX5_count_0 : decode cX5_count 0 = .ok (.aload_n 0, 1) := by decide +kernel
theorem dX5_count_1 : decode cX5_count 1 = .ok (.getfield 53, 3) := by decide +kernel
theorem dX5_count_4 : decode cX5_count 4 = .ok (.ifCond .ne 5, 3) := by decide +kernel
theorem dX5_count_7 : decode cX5_count 7 = .ok (.iconst 0, 1) := by decide +kernel
theorem dX5_count_8 : decode cX5_count 8 = .ok (.ireturn, 1) := by decide +kernel
theorem dX5_count_9 : decode cX5_count 9 = .ok (.iload_n 1, 1) := by decide +kernel
theorem dX5_count_10 : decode cX5_count 10 = .ok (.ifCond .ne 8, 3) := by decide +kernel
theorem dX5_count_13 : decode cX5_count 13 = .ok (.aload_n 0, 1) := by decide +kernel
theorem dX5_count_14 : decode cX5_count 14 = .ok (.getfield 60, 3) := by decide +kernel
theorem dX5_count_17 : decode cX5_count 17 = .ok (.ireturn, 1) := by decide +kernel
theorem dX5_count_18 : decode cX5_count 18 = .ok (.iload_n 1, 1) := by decide +kernel
theorem dX5_count_19 : decode cX5_count 19 = .ok (.iconst 1, 1) := by decide +kernel
theorem dX5_count_20 : decode cX5_count 20 = .ok (.if_icmp .ne 8, 3) := by decide +kernel
theorem dX5_count_23 : decode cX5_count 23 = .ok (.aload_n 0, 1) := by decide +kernel
theorem dX5_count_24 : decode cX5_count 24 = .ok (.getfield 50, 3) := by decide +kernel
theorem dX5_count_27 : decode cX5_count 27 = .ok (.ireturn, 1) := by decide +kernel
theorem dX5_count_28 : decode cX5_count 28 = .ok (.iload_n 1, 1) := by decide +kernel
theorem dX5_count_29 : decode cX5_count 29 = .ok (.bipush 8, 2) := by decide +kernel
theorem dX5_count_31 : decode cX5_count 31 = .ok (.if_icmp .ne 8, 3) := by decide +kernel
theorem dX5_count_34 : decode cX5_count 34 = .ok (.aload_n 0, 1) := by decide +kernel
theorem dX5_count_35 : decode cX5_count 35 = .ok (.invokevirtual 162, 3) := by decide +kernel
theorem dX5_count_38 : decode cX5_count 38 = .ok (.ireturn, 1) := by decide +kernel
theorem dX5_count_39 : decode cX5_count 39 = .ok (.aload_n 0, 1) := by decide +kernel
theorem dX5_count_40 : decode cX5_count 40 = .ok (.getfield 53, 3) := by decide +kernel
theorem dX5_count_43 : decode cX5_count 43 = .ok (.iconst 2, 1) := by decide +kernel
theorem dX5_count_44 : decode cX5_count 44 = .ok (.if_icmp .eq 5, 3) := by decide +kernel
theorem dX5_count_47 : decode cX5_count 47 = .ok (.iconst 0, 1) := by decide +kernel
theorem dX5_count_48 : decode cX5_count 48 = .ok (.ireturn, 1) := by decide +kernel
theorem dX5_count_49 : decode cX5_count 49 = .ok (.iload_n 1, 1) := by decide +kernel
theorem dX5_count_50 : decode cX5_count 50 = .ok (.tableswitch 80 2 7 #[38, 43, 48, 53, 58, 75], 38) := by decide +kernel
theorem dX5_count_88 : decode cX5_count 88 = .ok (.aload_n 0, 1) := by decide +kernel
theorem dX5_count_89 : decode cX5_count 89 = .ok (.getfield 91, 3) := by decide +kernel
theorem dX5_count_92 : decode cX5_count 92 = .ok (.ireturn, 1) := by decide +kernel
theorem dX5_count_93 : decode cX5_count 93 = .ok (.aload_n 0, 1) := by decide +kernel
theorem dX5_count_94 : decode cX5_count 94 = .ok (.getfield 85, 3) := by decide +kernel
theorem dX5_count_97 : decode cX5_count 97 = .ok (.ireturn, 1) := by decide +kernel
theorem dX5_count_98 : decode cX5_count 98 = .ok (.aload_n 0, 1) := by decide +kernel
theorem dX5_count_99 : decode cX5_count 99 = .ok (.getfield 88, 3) := by decide +kernel
theorem dX5_count_102 : decode cX5_count 102 = .ok (.ireturn, 1) := by decide +kernel
theorem dX5_count_103 : decode cX5_count 103 = .ok (.aload_n 0, 1) := by decide +kernel
theorem dX5_count_104 : decode cX5_count 104 = .ok (.getfield 94, 3) := by decide +kernel
theorem dX5_count_107 : decode cX5_count 107 = .ok (.ireturn, 1) := by decide +kernel
theorem dX5_count_108 : decode cX5_count 108 = .ok (.aload_n 0, 1) := by decide +kernel
theorem dX5_count_109 : decode cX5_count 109 = .ok (.getfield 56, 3) := by decide +kernel
theorem dX5_count_112 : decode cX5_count 112 = .ok (.ifCond .eq 10, 3) := by decide +kernel
theorem dX5_count_115 : decode cX5_count 115 = .ok (.aload_n 0, 1) := by decide +kernel
theorem dX5_count_116 : decode cX5_count 116 = .ok (.getfield 104, 3) := by decide +kernel
theorem dX5_count_119 : decode cX5_count 119 = .ok (.goto 5, 3) := by decide +kernel
theorem dX5_count_122 : decode cX5_count 122 = .ok (.bipush (-3), 2) := by decide +kernel
theorem dX5_count_124 : decode cX5_count 124 = .ok (.ireturn, 1) := by decide +kernel
theorem dX5_count_125 : decode cX5_count 125 = .ok (.aload_n 0, 1) := by decide +kernel
theorem dX5_count_126 : decode cX5_count 126 = .ok (.invokevirtual 159, 3) := by decide +kernel
theorem dX5_count_129 : decode cX5_count 129 = .ok (.ireturn, 1) := by decide +kernel
theorem dX5_count_130 : decode cX5_count 130 = .ok (.iconst 0, 1) := by decide +kernel
theorem dX5_count_131 : decode cX5_count 131 = .ok (.ireturn, 1) := by decide +kernel
