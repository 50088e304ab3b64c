theorem dX5_turn_22 : decode cX5_turn 22 = .ok (.iload_n 3, 1) := by decide +kernel
theorem dX5_turn_23 : decode cX5_turn 23 = .ok (.iload 4, 2) := by decide +kernel
theorem dX5_turn_25 : decode cX5_turn 25 = .ok (.invokevirtual 111, 3) := by decide +kernel
theorem dX5_turn_28 : decode cX5_turn 28 = .ok (.goto 5, 3) := by decide +kernel
theorem dX5_turn_31 : decode cX5_turn 31 = .ok (.bipush (-2), 2) := by decide +kernel
theorem dX5_turn_33 : decode cX5_turn 33 = .ok (.ireturn, 1) := by decide +kernel
theorem dX5_size_0 : decode cX5_size 0 = .ok (.iload_n 1, 1) := by decide +kernel
theorem dX5_size_1 : decode cX5_size 1 = .ok (.iconst 0, 1) := by decide +kernel
theorem dX5_size_2 : decode cX5_size 2 = .ok (.iconst 5, 1) := by decide +kernel
theorem dX5_size_3 : decode cX5_size 3 = .ok (.invokestatic 101, 3) := by decide +kernel
theorem dX5_size_6 : decode cX5_size 6 = .ok (.ifCond .eq 26, 3) := by decide +kernel
theorem dX5_size_9 : decode cX5_size 9 = .ok (.iload_n 2, 1) := by decide +kernel
theorem dX5_size_10 : decode cX5_size 10 = .ok (.iconst 0, 1) := by decide +kernel
theorem dX5_size_11 : decode cX5_size 11 = .ok (.sipush 400, 3) := by decide +kernel
theorem dX5_size_14 : decode cX5_size 14 = .ok (.invokestatic 101, 3) := by decide +kernel
theorem dX5_size_17 : decode cX5_size 17 = .ok (.ifCond .eq 15, 3) := by decide +kernel
theorem dX5_size_20 : decode cX5_size 20 = .ok (.aload_n 0, 1) := by decide +kernel
theorem dX5_size_21 : decode cX5_size 21 = .ok (.iconst 3, 1) := by decide +kernel
theorem dX5_size_22 : decode cX5_size 22 = .ok (.iload_n 1, 1) := by decide +kernel
theorem dX5_size_23 : decode cX5_size 23 = .ok (.iload_n 2, 1) := by decide +kernel
theorem dX5_size_24 : decode cX5_size 24 = .ok (.iconst 0, 1) := by decide +kernel
theorem dX5_size_25 : decode cX5_size 25 = .ok (.iconst 0, 1) := by decide +kernel
theorem dX5_size_26 : decode cX5_size 26 = .ok (.invokevirtual 111, 3) := by decide +kernel
theorem dX5_size_29 : decode cX5_size 29 = .ok (.goto 5, 3) := by decide +kernel
theorem dX5_size_32 : decode cX5_size 32 = .ok (.bipush (-2), 2) := by decide +kernel
theorem dX5_size_34 : decode cX5_size 34 = .ok (.ireturn, 1) := by decide +kernel
theorem dX5_apart_0 : decode cX5_apart 0 = .ok (.aload_n 0, 1) := by decide +kernel
theorem dX5_apart_1 : decode cX5_apart 1 = .ok (.iload_n 1, 1) := by decide +kernel
theorem dX5_apart_2 : decode cX5_apart 2 = .ok (.invokevirtual 115, 3) := by decide +kernel
theorem dX5_apart_5 : decode cX5_apart 5 = .ok (.ifCond .eq 16, 3) := by decide +kernel
theorem dX5_apart_8 : decode cX5_apart 8 = .ok (.aload_n 0, 1) := by decide +kernel
theorem dX5_apart_9 : decode cX5_apart 9 = .ok (.iload_n 2, 1) := by decide +kernel
theorem dX5_apart_10 : decode cX5_apart 10 = .ok (.invokevirtual 115, 3) := by decide +kernel
theorem dX5_apart_13 : decode cX5_apart 13 = .ok (.ifCond .eq 8, 3) := by decide +kernel
theorem dX5_apart_16 : decode cX5_apart 16 = .ok (.iload_n 1, 1) := by decide +kernel
theorem dX5_apart_17 : decode cX5_apart 17 = .ok (.iload_n 2, 1) := by decide +kernel
theorem dX5_apart_18 : decode cX5_apart 18 = .ok (.if_icmp .ne 6, 3) := by decide +kernel
theorem dX5_apart_21 : decode cX5_apart 21 = .ok (.bipush (-2), 2) := by decide +kernel
theorem dX5_apart_23 : decode cX5_apart 23 = .ok (.ireturn, 1) := by decide +kernel
theorem dX5_apart_24 : decode cX5_apart 24 = .ok (.aload_n 0, 1) := by decide +kernel
theorem dX5_apart_25 : decode cX5_apart 25 = .ok (.getfield 41, 3) := by decide +kernel
theorem dX5_apart_28 : decode cX5_apart 28 = .ok (.bipush 64, 2) := by decide +kernel
theorem dX5_apart_30 : decode cX5_apart 30 = .ok (.iload_n 1, 1) := by decide +kernel
theorem dX5_apart_31 : decode cX5_apart 31 = .ok (.iadd, 1) := by decide +kernel
theorem dX5_apart_32 : decode cX5_apart 32 = .ok (.iaload, 1) := by decide +kernel
theorem dX5_apart_33 : decode cX5_apart 33 = .ok (.iload_n 2, 1) := by decide +kernel
theorem dX5_apart_34 : decode cX5_apart 34 = .ok (.ishr, 1) := by decide +kernel
theorem dX5_apart_35 : decode cX5_apart 35 = .ok (.iconst 1, 1) := by decide +kernel
theorem dX5_apart_36 : decode cX5_apart 36 = .ok (.iand, 1) := by decide +kernel
theorem dX5_apart_37 : decode cX5_apart 37 = .ok (.iconst 1, 1) := by decide +kernel
theorem dX5_apart_38 : decode cX5_apart 38 = .ok (.if_icmp .ne 7, 3) := by decide +kernel
theorem dX5_apart_41 : decode cX5_apart 41 = .ok (.iconst 1, 1) := by decide +kernel
theorem dX5_apart_42 : decode cX5_apart 42 = .ok (.goto 4, 3) := by decide +kernel
theorem dX5_apart_45 : decode cX5_apart 45 = .ok (.iconst 0, 1) := by decide +kernel
theorem dX5_apart_46 : decode cX5_apart 46 = .ok (.istore 4, 2) := by decide +kernel
theorem dX5_apart_48 : decode cX5_apart 48 = .ok (.iload 4, 2) := by decide +kernel
theorem dX5_apart_50 : decode cX5_apart 50 = .ok (.iload_n 3, 1) := by decide +kernel
theorem dX5_apart_51 : decode cX5_apart 51 = .ok (.if_icmp .ne 8, 3) := by decide +kernel
theorem dX5_apart_54 : decode cX5_apart 54 = .ok (.bipush (-3), 2) := by decide +kernel
theorem dX5_apart_56 : decode cX5_apart 56 = .ok (.goto 20, 3) := by decide +kernel
theorem dX5_apart_59 : decode cX5_apart 59 = .ok (.aload_n 0, 1) := by decide +kernel
theorem dX5_apart_60 : decode cX5_apart 60 = .ok (.iload_n 3, 1) := by decide +kernel
theorem dX5_apart_61 : decode cX5_apart 61 = .ok (.ifCond .eq 7, 3) := by decide +kernel
theorem dX5_apart_64 : decode cX5_apart 64 = .ok (.iconst 4, 1) := by decide +kernel
theorem dX5_apart_65 : decode cX5_apart 65 = .ok (.goto 4, 3) := by decide +kernel
theorem dX5_apart_68 : decode cX5_apart 68 = .ok (.iconst 5, 1) := by decide +kernel
theorem dX5_apart_69 : decode cX5_apart 69 = .ok (.iload_n 1, 1) := by decide +kernel
theorem dX5_apart_70 : decode cX5_apart 70 = .ok (.iload_n 2, 1) := by decide +kernel
theorem dX5_apart_71 : decode cX5_apart 71 = .ok (.iconst 0, 1) := by decide +kernel
theorem dX5_apart_72 : decode cX5_apart 72 = .ok (.iconst 0, 1) := by decide +kernel
theorem dX5_apart_73 : decode cX5_apart 73 = .ok (.invokevirtual 111, 3) := by decide +kernel
theorem dX5_apart_76 : decode cX5_apart 76 = .ok (.ireturn, 1) := by decide +kernel
theorem dX5_lock_0 : decode cX5_lock 0 = .ok (.aload_n 0, 1) := by decide +kernel
theorem dX5_lock_1 : decode cX5_lock 1 = .ok (.iload_n 1, 1) := by decide +kernel
theorem dX5_lock_2 : decode cX5_lock 2 = .ok (.invokevirtual 115, 3) := by decide +kernel
theorem dX5_lock_5 : decode cX5_lock 5 = .ok (.ifCond .eq 25, 3) := by decide +kernel
theorem dX5_lock_8 : decode cX5_lock 8 = .ok (.iload_n 2, 1) := by decide +kernel
theorem dX5_lock_9 : decode cX5_lock 9 = .ok (.iconst (-1), 1) := by decide +kernel
theorem dX5_lock_10 : decode cX5_lock 10 = .ok (.iconst 5, 1) := by decide +kernel
theorem dX5_lock_11 : decode cX5_lock 11 = .ok (.invokestatic 101, 3) := by decide +kernel
theorem dX5_lock_14 : decode cX5_lock 14 = .ok (.ifCond .eq 16, 3) := by decide +kernel
theorem dX5_lock_17 : decode cX5_lock 17 = .ok (.aload_n 0, 1) := by decide +kernel
theorem dX5_lock_18 : decode cX5_lock 18 = .ok (.bipush 6, 2) := by decide +kernel
theorem dX5_lock_20 : decode cX5_lock 20 = .ok (.iload_n 1, 1) := by decide +kernel
theorem dX5_lock_21 : decode cX5_lock 21 = .ok (.iload_n 2, 1) := by decide +kernel
theorem dX5_lock_22 : decode cX5_lock 22 = .ok (.iconst 0, 1) := by decide +kernel
theorem dX5_lock_23 : decode cX5_lock 23 = .ok (.iconst 0, 1) := by decide +kernel
theorem dX5_lock_24 : decode cX5_lock 24 = .ok (.invokevirtual 111, 3) := by decide +kernel
theorem dX5_lock_27 : decode cX5_lock 27 = .ok (.goto 5, 3) := by decide +kernel
theorem dX5_lock_30 : decode cX5_lock 30 = .ok (.bipush (-2), 2) := by decide +kernel
theorem dX5_lock_32 : decode cX5_lock 32 = .ok (.ireturn, 1) := by decide +kernel
theorem dX5_free_0 : decode cX5_free 0 = .ok (.aload_n 0, 1) := by decide +kernel
theorem dX5_free_1 : decode cX5_free 1 = .ok (.iload_n 1, 1) := by decide +kernel
theorem dX5_free_2 : decode cX5_free 2 = .ok (.invokevirtual 115, 3) := by decide +kernel
theorem dX5_free_5 : decode cX5_free 5 = .ok (.ifCond .ne 6, 3) := by decide +kernel
theorem dX5_free_8 : decode cX5_free 8 = .ok (.bipush (-2), 2) := by decide +kernel
theorem dX5_free_10 : decode cX5_free 10 = .ok (.ireturn, 1) := by decide +kernel
theorem dX5_free_11 : decode cX5_free 11 = .ok (.aload_n 0, 1) := by decide +kernel
theorem dX5_free_12 : decode cX5_free 12 = .ok (.getfield 38, 3) := by decide +kernel
theorem dX5_free_15 : decode cX5_free 15 = .ok (.bipush 64, 2) := by decide +kernel
theorem dX5_free_17 : decode cX5_free 17 = .ok (.iload_n 1, 1) := by decide +kernel
theorem dX5_free_18 : decode cX5_free 18 = .ok (.iadd, 1) := by decide +kernel
theorem dX5_free_19 : decode cX5_free 19 = .ok (.iaload, 1) := by decide +kernel
theorem dX5_free_20 : decode cX5_free 20 = .ok (.bipush (-2), 2) := by decide +kernel
theorem dX5_free_22 : decode cX5_free 22 = .ok (.if_icmp .ne 8, 3) := by decide +kernel
theorem dX5_free_25 : decode cX5_free 25 = .ok (.bipush (-3), 2) := by decide +kernel
theorem dX5_free_27 : decode cX5_free 27 = .ok (.goto 13, 3) := by decide +kernel
theorem dX5_free_30 : decode cX5_free 30 = .ok (.aload_n 0, 1) := by decide +kernel
theorem dX5_free_31 : decode cX5_free 31 = .ok (.bipush 7, 2) := by decide +kernel
theorem dX5_free_33 : decode cX5_free 33 = .ok (.iload_n 1, 1) := by decide +kernel
theorem dX5_free_34 : decode cX5_free 34 = .ok (.iconst 0, 1) := by decide +kernel
theorem dX5_free_35 : decode cX5_free 35 = .ok (.iconst 0, 1) := by decide +kernel
theorem dX5_free_36 : decode cX5_free 36 = .ok (.iconst 0, 1) := by decide +kernel
theorem dX5_free_37 : decode cX5_free 37 = .ok (.invokevirtual 111, 3) := by decide +kernel
theorem dX5_free_40 : decode cX5_free 40 = .ok (.ireturn, 1) := by decide +kernel
theorem dX5_judge_0 : decode cX5_judge 0 = .ok (.aload_n 0, 1) := by decide +kernel
theorem dX5_judge_1 : decode cX5_judge 1 = .ok (.iconst 0, 1) := by decide +kernel
theorem dX5_judge_2 : decode cX5_judge 2 = .ok (.putfield 119, 3) := by decide +kernel
theorem dX5_judge_5 : decode cX5_judge 5 = .ok (.aload_n 0, 1) := by decide +kernel
theorem dX5_judge_6 : decode cX5_judge 6 = .ok (.iconst 0, 1) := by decide +kernel
theorem dX5_judge_7 : decode cX5_judge 7 = .ok (.putfield 122, 3) := by decide +kernel
theorem dX5_judge_10 : decode cX5_judge 10 = .ok (.iconst 0, 1) := by decide +kernel
theorem dX5_judge_11 : decode cX5_judge 11 = .ok (.istore 4, 2) := by decide +kernel
theorem dX5_judge_13 : decode cX5_judge 13 = .ok (.iload 4, 2) := by decide +kernel
theorem dX5_judge_15 : decode cX5_judge 15 = .ok (.bipush 6, 2) := by decide +kernel
theorem dX5_judge_17 : decode cX5_judge 17 = .ok (.if_icmp .ge 122, 3) := by decide +kernel
theorem dX5_judge_20 : decode cX5_judge 20 = .ok (.iconst 0, 1) := by decide +kernel
theorem dX5_judge_21 : decode cX5_judge 21 = .ok (.istore 5, 2) := by decide +kernel
theorem dX5_judge_23 : decode cX5_judge 23 = .ok (.iconst 0, 1) := by decide +kernel
theorem dX5_judge_24 : decode cX5_judge 24 = .ok (.istore 6, 2) := by decide +kernel
theorem dX5_judge_26 : decode cX5_judge 26 = .ok (.iload 6, 2) := by decide +kernel
theorem dX5_judge_28 : decode cX5_judge 28 = .ok (.bipush 16, 2) := by decide +kernel
theorem dX5_judge_30 : decode cX5_judge 30 = .ok (.if_icmp .ge 58, 3) := by decide +kernel
theorem dX5_judge_33 : decode cX5_judge 33 = .ok (.iload 5, 2) := by decide +kernel
theorem dX5_judge_35 : decode cX5_judge 35 = .ok (.aload_n 0, 1) := by decide +kernel
theorem dX5_judge_36 : decode cX5_judge 36 = .ok (.getfield 25, 3) := by decide +kernel
theorem dX5_judge_39 : decode cX5_judge 39 = .ok (.bipush 16, 2) := by decide +kernel
theorem dX5_judge_41 : decode cX5_judge 41 = .ok (.iload_n 2, 1) := by decide +kernel
theorem dX5_judge_42 : decode cX5_judge 42 = .ok (.imul, 1) := by decide +kernel
theorem dX5_judge_43 : decode cX5_judge 43 = .ok (.iload 6, 2) := by decide +kernel
theorem dX5_judge_45 : decode cX5_judge 45 = .ok (.iadd, 1) := by decide +kernel
theorem dX5_judge_46 : decode cX5_judge 46 = .ok (.baload, 1) := by decide +kernel
theorem dX5_judge_47 : decode cX5_judge 47 = .ok (.ifCond .eq 31, 3) := by decide +kernel
theorem dX5_judge_50 : decode cX5_judge 50 = .ok (.aload_n 0, 1) := by decide +kernel
theorem dX5_judge_51 : decode cX5_judge 51 = .ok (.iload_n 1, 1) := by decide +kernel
theorem dX5_judge_52 : decode cX5_judge 52 = .ok (.iload 6, 2) := by decide +kernel
theorem dX5_judge_54 : decode cX5_judge 54 = .ok (.iload_n 3, 1) := by decide +kernel
theorem dX5_judge_55 : decode cX5_judge 55 = .ok (.invokevirtual 125, 3) := by decide +kernel
theorem dX5_judge_58 : decode cX5_judge 58 = .ok (.iload 4, 2) := by decide +kernel
theorem dX5_judge_60 : decode cX5_judge 60 = .ok (.if_icmp .ne 18, 3) := by decide +kernel
theorem dX5_judge_63 : decode cX5_judge 63 = .ok (.aload_n 0, 1) := by decide +kernel
theorem dX5_judge_64 : decode cX5_judge 64 = .ok (.getfield 29, 3) := by decide +kernel
theorem dX5_judge_67 : decode cX5_judge 67 = .ok (.bipush 16, 2) := by decide +kernel
theorem dX5_judge_69 : decode cX5_judge 69 = .ok (.iload_n 2, 1) := by decide +kernel
theorem dX5_judge_70 : decode cX5_judge 70 = .ok (.imul, 1) := by decide +kernel
theorem dX5_judge_71 : decode cX5_judge 71 = .ok (.iload 6, 2) := by decide +kernel
theorem dX5_judge_73 : decode cX5_judge 73 = .ok (.iadd, 1) := by decide +kernel
theorem dX5_judge_74 : decode cX5_judge 74 = .ok (.iaload, 1) := by decide +kernel
theorem dX5_judge_75 : decode cX5_judge 75 = .ok (.goto 4, 3) := by decide +kernel
theorem dX5_judge_78 : decode cX5_judge 78 = .ok (.iconst 0, 1) := by decide +kernel
theorem dX5_judge_79 : decode cX5_judge 79 = .ok (.iadd, 1) := by decide +kernel
theorem dX5_judge_80 : decode cX5_judge 80 = .ok (.istore 5, 2) := by decide +kernel
theorem dX5_judge_82 : decode cX5_judge 82 = .ok (.iinc 6 1, 3) := by decide +kernel
theorem dX5_judge_85 : decode cX5_judge 85 = .ok (.goto (-59), 3) := by decide +kernel
theorem dX5_judge_88 : decode cX5_judge 88 = .ok (.aload_n 0, 1) := by decide +kernel
theorem dX5_judge_89 : decode cX5_judge 89 = .ok (.dup, 1) := by decide +kernel
theorem dX5_judge_90 : decode cX5_judge 90 = .ok (.getfield 119, 3) := by decide +kernel
theorem dX5_judge_93 : decode cX5_judge 93 = .ok (.iload 5, 2) := by decide +kernel
theorem dX5_judge_95 : decode cX5_judge 95 = .ok (.aload_n 0, 1) := by decide +kernel
theorem dX5_judge_96 : decode cX5_judge 96 = .ok (.getfield 44, 3) := by decide +kernel
theorem dX5_judge_99 : decode cX5_judge 99 = .ok (.bipush 6, 2) := by decide +kernel
theorem dX5_judge_101 : decode cX5_judge 101 = .ok (.iload_n 2, 1) := by decide +kernel
theorem dX5_judge_102 : decode cX5_judge 102 = .ok (.imul, 1) := by decide +kernel
theorem dX5_judge_103 : decode cX5_judge 103 = .ok (.iload 4, 2) := by decide +kernel
theorem dX5_judge_105 : decode cX5_judge 105 = .ok (.iadd, 1) := by decide +kernel
theorem dX5_judge_106 : decode cX5_judge 106 = .ok (.iaload, 1) := by decide +kernel
theorem dX5_judge_107 : decode cX5_judge 107 = .ok (.if_icmp .le 21, 3) := by decide +kernel
theorem dX5_judge_110 : decode cX5_judge 110 = .ok (.iload 5, 2) := by decide +kernel
theorem dX5_judge_112 : decode cX5_judge 112 = .ok (.aload_n 0, 1) := by decide +kernel
theorem dX5_judge_113 : decode cX5_judge 113 = .ok (.getfield 44, 3) := by decide +kernel
theorem dX5_judge_116 : decode cX5_judge 116 = .ok (.bipush 6, 2) := by decide +kernel
theorem dX5_judge_118 : decode cX5_judge 118 = .ok (.iload_n 2, 1) := by decide +kernel
theorem dX5_judge_119 : decode cX5_judge 119 = .ok (.imul, 1) := by decide +kernel
theorem dX5_judge_120 : decode cX5_judge 120 = .ok (.iload 4, 2) := by decide +kernel
theorem dX5_judge_122 : decode cX5_judge 122 = .ok (.iadd, 1) := by decide +kernel
theorem dX5_judge_123 : decode cX5_judge 123 = .ok (.iaload, 1) := by decide +kernel
theorem dX5_judge_124 : decode cX5_judge 124 = .ok (.isub, 1) := by decide +kernel
theorem dX5_judge_125 : decode cX5_judge 125 = .ok (.goto 4, 3) := by decide +kernel
theorem dX5_judge_128 : decode cX5_judge 128 = .ok (.iconst 0, 1) := by decide +kernel
theorem dX5_judge_129 : decode cX5_judge 129 = .ok (.iadd, 1) := by decide +kernel
theorem dX5_judge_130 : decode cX5_judge 130 = .ok (.putfield 119, 3) := by decide +kernel
theorem dX5_judge_133 : decode cX5_judge 133 = .ok (.iinc 4 1, 3) := by decide +kernel
theorem dX5_judge_136 : decode cX5_judge 136 = .ok (.goto (-123), 3) := by decide +kernel
theorem dX5_judge_139 : decode cX5_judge 139 = .ok (.iconst 0, 1) := by decide +kernel
theorem dX5_judge_140 : decode cX5_judge 140 = .ok (.istore 4, 2) := by decide +kernel
theorem dX5_judge_142 : decode cX5_judge 142 = .ok (.iload 4, 2) := by decide +kernel
theorem dX5_judge_144 : decode cX5_judge 144 = .ok (.bipush 16, 2) := by decide +kernel
theorem dX5_judge_146 : decode cX5_judge 146 = .ok (.if_icmp .ge 213, 3) := by decide +kernel
theorem dX5_judge_149 : decode cX5_judge 149 = .ok (.aload_n 0, 1) := by decide +kernel
theorem dX5_judge_150 : decode cX5_judge 150 = .ok (.getfield 25, 3) := by decide +kernel
theorem dX5_judge_153 : decode cX5_judge 153 = .ok (.bipush 16, 2) := by decide +kernel
theorem dX5_judge_155 : decode cX5_judge 155 = .ok (.iload_n 2, 1) := by decide +kernel
theorem dX5_judge_156 : decode cX5_judge 156 = .ok (.imul, 1) := by decide +kernel
theorem dX5_judge_157 : decode cX5_judge 157 = .ok (.iload 4, 2) := by decide +kernel
theorem dX5_judge_159 : decode cX5_judge 159 = .ok (.iadd, 1) := by decide +kernel
theorem dX5_judge_160 : decode cX5_judge 160 = .ok (.baload, 1) := by decide +kernel
theorem dX5_judge_161 : decode cX5_judge 161 = .ok (.ifCond .ne 6, 3) := by decide +kernel
theorem dX5_judge_164 : decode cX5_judge 164 = .ok (.goto 189, 3) := by decide +kernel
theorem dX5_judge_167 : decode cX5_judge 167 = .ok (.aload_n 0, 1) := by decide +kernel
theorem dX5_judge_168 : decode cX5_judge 168 = .ok (.iload_n 1, 1) := by decide +kernel
theorem dX5_judge_169 : decode cX5_judge 169 = .ok (.iload 4, 2) := by decide +kernel
theorem dX5_judge_171 : decode cX5_judge 171 = .ok (.iload_n 3, 1) := by decide +kernel
theorem dX5_judge_172 : decode cX5_judge 172 = .ok (.invokevirtual 125, 3) := by decide +kernel
theorem dX5_judge_175 : decode cX5_judge 175 = .ok (.istore 5, 2) := by decide +kernel
theorem dX5_judge_177 : decode cX5_judge 177 = .ok (.iload 5, 2) := by decide +kernel
theorem dX5_judge_179 : decode cX5_judge 179 = .ok (.aload_n 0, 1) := by decide +kernel
theorem dX5_judge_180 : decode cX5_judge 180 = .ok (.getfield 35, 3) := by decide +kernel
theorem dX5_judge_183 : decode cX5_judge 183 = .ok (.bipush 16, 2) := by decide +kernel
theorem dX5_judge_185 : decode cX5_judge 185 = .ok (.iload_n 2, 1) := by decide +kernel
theorem dX5_judge_186 : decode cX5_judge 186 = .ok (.imul, 1) := by decide +kernel
theorem dX5_judge_187 : decode cX5_judge 187 = .ok (.iload 4, 2) := by decide +kernel
theorem dX5_judge_189 : decode cX5_judge 189 = .ok (.iadd, 1) := by decide +kernel
theorem dX5_judge_190 : decode cX5_judge 190 = .ok (.iaload, 1) := by decide +kernel
theorem dX5_judge_191 : decode cX5_judge 191 = .ok (.isub, 1) := by decide +kernel
theorem dX5_judge_192 : decode cX5_judge 192 = .ok (.istore 6, 2) := by decide +kernel
theorem dX5_judge_194 : decode cX5_judge 194 = .ok (.aload_n 0, 1) := by decide +kernel
theorem dX5_judge_195 : decode cX5_judge 195 = .ok (.dup, 1) := by decide +kernel
theorem dX5_judge_196 : decode cX5_judge 196 = .ok (.getfield 122, 3) := by decide +kernel
theorem dX5_judge_199 : decode cX5_judge 199 = .ok (.iload 5, 2) := by decide +kernel
theorem dX5_judge_201 : decode cX5_judge 201 = .ok (.iconst (-1), 1) := by decide +kernel
theorem dX5_judge_202 : decode cX5_judge 202 = .ok (.if_icmp .ne 23, 3) := by decide +kernel
theorem dX5_judge_205 : decode cX5_judge 205 = .ok (.bipush 7, 2) := by decide +kernel
theorem dX5_judge_207 : decode cX5_judge 207 = .ok (.aload_n 0, 1) := by decide +kernel
theorem dX5_judge_208 : decode cX5_judge 208 = .ok (.getfield 32, 3) := by decide +kernel
theorem dX5_judge_211 : decode cX5_judge 211 = .ok (.bipush 16, 2) := by decide +kernel
theorem dX5_judge_213 : decode cX5_judge 213 = .ok (.iload_n 2, 1) := by decide +kernel
theorem dX5_judge_214 : decode cX5_judge 214 = .ok (.imul, 1) := by decide +kernel
theorem dX5_judge_215 : decode cX5_judge 215 = .ok (.iload 4, 2) := by decide +kernel
theorem dX5_judge_217 : decode cX5_judge 217 = .ok (.iadd, 1) := by decide +kernel
theorem dX5_judge_218 : decode cX5_judge 218 = .ok (.iaload, 1) := by decide +kernel
theorem dX5_judge_219 : decode cX5_judge 219 = .ok (.imul, 1) := by decide +kernel
theorem dX5_judge_220 : decode cX5_judge 220 = .ok (.iconst 1, 1) := by decide +kernel
theorem dX5_judge_221 : decode cX5_judge 221 = .ok (.iadd, 1) := by decide +kernel
theorem dX5_judge_222 : decode cX5_judge 222 = .ok (.goto 29, 3) := by decide +kernel
theorem dX5_judge_225 : decode cX5_judge 225 = .ok (.aload_n 0, 1) := by decide +kernel
theorem dX5_judge_226 : decode cX5_judge 226 = .ok (.getfield 32, 3) := by decide +kernel
theorem dX5_judge_229 : decode cX5_judge 229 = .ok (.bipush 16, 2) := by decide +kernel
theorem dX5_judge_231 : decode cX5_judge 231 = .ok (.iload_n 2, 1) := by decide +kernel
theorem dX5_judge_232 : decode cX5_judge 232 = .ok (.imul, 1) := by decide +kernel
theorem dX5_judge_233 : decode cX5_judge 233 = .ok (.iload 4, 2) := by decide +kernel
theorem dX5_judge_235 : decode cX5_judge 235 = .ok (.iadd, 1) := by decide +kernel
theorem dX5_judge_236 : decode cX5_judge 236 = .ok (.iaload, 1) := by decide +kernel
theorem dX5_judge_237 : decode cX5_judge 237 = .ok (.iload 6, 2) := by decide +kernel
theorem dX5_judge_239 : decode cX5_judge 239 = .ok (.ifCond .ge 9, 3) := by decide +kernel
theorem dX5_judge_242 : decode cX5_judge 242 = .ok (.iload 6, 2) := by decide +kernel
theorem dX5_judge_244 : decode cX5_judge 244 = .ok (.ineg, 1) := by decide +kernel
theorem dX5_judge_245 : decode cX5_judge 245 = .ok (.goto 5, 3) := by decide +kernel
theorem dX5_judge_248 : decode cX5_judge 248 = .ok (.iload 6, 2) := by decide +kernel
theorem dX5_judge_250 : decode cX5_judge 250 = .ok (.imul, 1) := by decide +kernel
theorem dX5_judge_251 : decode cX5_judge 251 = .ok (.iadd, 1) := by decide +kernel
theorem dX5_judge_252 : decode cX5_judge 252 = .ok (.putfield 122, 3) := by decide +kernel
theorem dX5_judge_255 : decode cX5_judge 255 = .ok (.iconst 0, 1) := by decide +kernel
theorem dX5_judge_256 : decode cX5_judge 256 = .ok (.istore 7, 2) := by decide +kernel
theorem dX5_judge_258 : decode cX5_judge 258 = .ok (.iload 7, 2) := by decide +kernel
theorem dX5_judge_260 : decode cX5_judge 260 = .ok (.iload 4, 2) := by decide +kernel
theorem dX5_judge_262 : decode cX5_judge 262 = .ok (.if_icmp .ge 91, 3) := by decide +kernel
theorem dX5_judge_265 : decode cX5_judge 265 = .ok (.iload 5, 2) := by decide +kernel
theorem dX5_judge_267 : decode cX5_judge 267 = .ok (.iconst (-1), 1) := by decide +kernel
theorem dX5_judge_268 : decode cX5_judge 268 = .ok (.if_icmp .eq 85, 3) := by decide +kernel
theorem dX5_judge_271 : decode cX5_judge 271 = .ok (.aload_n 0, 1) := by decide +kernel
theorem dX5_judge_272 : decode cX5_judge 272 = .ok (.getfield 25, 3) := by decide +kernel
theorem dX5_judge_275 : decode cX5_judge 275 = .ok (.bipush 16, 2) := by decide +kernel
theorem dX5_judge_277 : decode cX5_judge 277 = .ok (.iload_n 2, 1) := by decide +kernel
theorem dX5_judge_278 : decode cX5_judge 278 = .ok (.imul, 1) := by decide +kernel
theorem dX5_judge_279 : decode cX5_judge 279 = .ok (.iload 7, 2) := by decide +kernel
theorem dX5_judge_281 : decode cX5_judge 281 = .ok (.iadd, 1) := by decide +kernel
theorem dX5_judge_282 : decode cX5_judge 282 = .ok (.baload, 1) := by decide +kernel
theorem dX5_judge_283 : decode cX5_judge 283 = .ok (.ifCond .eq 41, 3) := by decide +kernel
theorem dX5_judge_286 : decode cX5_judge 286 = .ok (.aload_n 0, 1) := by decide +kernel
theorem dX5_judge_287 : decode cX5_judge 287 = .ok (.getfield 41, 3) := by decide +kernel
theorem dX5_judge_290 : decode cX5_judge 290 = .ok (.bipush 16, 2) := by decide +kernel
theorem dX5_judge_292 : decode cX5_judge 292 = .ok (.iload_n 2, 1) := by decide +kernel
theorem dX5_judge_293 : decode cX5_judge 293 = .ok (.imul, 1) := by decide +kernel
theorem dX5_judge_294 : decode cX5_judge 294 = .ok (.iload 4, 2) := by decide +kernel
theorem dX5_judge_296 : decode cX5_judge 296 = .ok (.iadd, 1) := by decide +kernel
theorem dX5_judge_297 : decode cX5_judge 297 = .ok (.iaload, 1) := by decide +kernel
theorem dX5_judge_298 : decode cX5_judge 298 = .ok (.iload 7, 2) := by decide +kernel
theorem dX5_judge_300 : decode cX5_judge 300 = .ok (.ishr, 1) := by decide +kernel
theorem dX5_judge_301 : decode cX5_judge 301 = .ok (.iconst 1, 1) := by decide +kernel
theorem dX5_judge_302 : decode cX5_judge 302 = .ok (.iand, 1) := by decide +kernel
theorem dX5_judge_303 : decode cX5_judge 303 = .ok (.iconst 1, 1) := by decide +kernel
theorem dX5_judge_304 : decode cX5_judge 304 = .ok (.if_icmp .ne 20, 3) := by decide +kernel
theorem dX5_judge_307 : decode cX5_judge 307 = .ok (.aload_n 0, 1) := by decide +kernel
theorem dX5_judge_308 : decode cX5_judge 308 = .ok (.iload_n 1, 1) := by decide +kernel
theorem dX5_judge_309 : decode cX5_judge 309 = .ok (.iload 7, 2) := by decide +kernel
theorem dX5_judge_311 : decode cX5_judge 311 = .ok (.iload_n 3, 1) := by decide +kernel
theorem dX5_judge_312 : decode cX5_judge 312 = .ok (.invokevirtual 125, 3) := by decide +kernel
theorem dX5_judge_315 : decode cX5_judge 315 = .ok (.iload 5, 2) := by decide +kernel
theorem dX5_judge_317 : decode cX5_judge 317 = .ok (.if_icmp .ne 7, 3) := by decide +kernel
theorem dX5_judge_320 : decode cX5_judge 320 = .ok (.iconst 1, 1) := by decide +kernel
theorem dX5_judge_321 : decode cX5_judge 321 = .ok (.goto 4, 3) := by decide +kernel
theorem dX5_judge_324 : decode cX5_judge 324 = .ok (.iconst 0, 1) := by decide +kernel
theorem dX5_judge_325 : decode cX5_judge 325 = .ok (.istore 8, 2) := by decide +kernel
theorem dX5_judge_327 : decode cX5_judge 327 = .ok (.aload_n 0, 1) := by decide +kernel
theorem dX5_judge_328 : decode cX5_judge 328 = .ok (.dup, 1) := by decide +kernel
theorem dX5_judge_329 : decode cX5_judge 329 = .ok (.getfield 119, 3) := by decide +kernel
theorem dX5_judge_332 : decode cX5_judge 332 = .ok (.iload 8, 2) := by decide +kernel
theorem dX5_judge_334 : decode cX5_judge 334 = .ok (.ifCond .eq 8, 3) := by decide +kernel
theorem dX5_judge_337 : decode cX5_judge 337 = .ok (.bipush 10, 2) := by decide +kernel
theorem dX5_judge_339 : decode cX5_judge 339 = .ok (.goto 4, 3) := by decide +kernel
theorem dX5_judge_342 : decode cX5_judge 342 = .ok (.iconst 0, 1) := by decide +kernel
theorem dX5_judge_343 : decode cX5_judge 343 = .ok (.iadd, 1) := by decide +kernel
theorem dX5_judge_344 : decode cX5_judge 344 = .ok (.putfield 119, 3) := by decide +kernel
theorem dX5_judge_347 : decode cX5_judge 347 = .ok (.iinc 7 1, 3) := by decide +kernel
theorem dX5_judge_350 : decode cX5_judge 350 = .ok (.goto (-92), 3) := by decide +kernel
theorem dX5_judge_353 : decode cX5_judge 353 = .ok (.iinc 4 1, 3) := by decide +kernel
theorem dX5_judge_356 : decode cX5_judge 356 = .ok (.goto (-214), 3) := by decide +kernel
theorem dX5_judge_359 : decode cX5_judge 359 = .ok (.return_, 1) := by decide +kernel
theorem dX5_roomOf_0 : decode cX5_roomOf 0 = .ok (.aload_n 0, 1) := by decide +kernel
theorem dX5_roomOf_1 : decode cX5_roomOf 1 = .ok (.getfield 25, 3) := by decide +kernel
theorem dX5_roomOf_4 : decode cX5_roomOf 4 = .ok (.bipush 16, 2) := by decide +kernel
theorem dX5_roomOf_6 : decode cX5_roomOf 6 = .ok (.iload_n 3, 1) := by decide +kernel
theorem dX5_roomOf_7 : decode cX5_roomOf 7 = .ok (.imul, 1) := by decide +kernel
theorem dX5_roomOf_8 : decode cX5_roomOf 8 = .ok (.iload_n 2, 1) := by decide +kernel
theorem dX5_roomOf_9 : decode cX5_roomOf 9 = .ok (.iadd, 1) := by decide +kernel
theorem dX5_roomOf_10 : decode cX5_roomOf 10 = .ok (.baload, 1) := by decide +kernel
theorem dX5_roomOf_11 : decode cX5_roomOf 11 = .ok (.ifCond .eq 17, 3) := by decide +kernel
theorem dX5_roomOf_14 : decode cX5_roomOf 14 = .ok (.aload_n 0, 1) := by decide +kernel
theorem dX5_roomOf_15 : decode cX5_roomOf 15 = .ok (.getfield 47, 3) := by decide +kernel
theorem dX5_roomOf_18 : decode cX5_roomOf 18 = .ok (.bipush 16, 2) := by decide +kernel
theorem dX5_roomOf_20 : decode cX5_roomOf 20 = .ok (.iload_n 1, 1) := by decide +kernel
theorem dX5_roomOf_21 : decode cX5_roomOf 21 = .ok (.imul, 1) := by decide +kernel
theorem dX5_roomOf_22 : decode cX5_roomOf 22 = .ok (.iload_n 2, 1) := by decide +kernel
theorem dX5_roomOf_23 : decode cX5_roomOf 23 = .ok (.iadd, 1) := by decide +kernel
theorem dX5_roomOf_24 : decode cX5_roomOf 24 = .ok (.iaload, 1) := by decide +kernel
theorem dX5_roomOf_25 : decode cX5_roomOf 25 = .ok (.goto 4, 3) := by decide +kernel
theorem dX5_roomOf_28 : decode cX5_roomOf 28 = .ok (.iconst (-1), 1) := by decide +kernel
theorem dX5_roomOf_29 : decode cX5_roomOf 29 = .ok (.ireturn, 1) := by decide +kernel
theorem dX5_isBetter_0 : decode cX5_isBetter 0 = .ok (.iload_n 0, 1) := by decide +kernel
theorem dX5_isBetter_1 : decode cX5_isBetter 1 = .ok (.iload_n 2, 1) := by decide +kernel
theorem dX5_isBetter_2 : decode cX5_isBetter 2 = .ok (.if_icmp .lt 13, 3) := by decide +kernel
theorem dX5_isBetter_5 : decode cX5_isBetter 5 = .ok (.iload_n 0, 1) := by decide +kernel
theorem dX5_isBetter_6 : decode cX5_isBetter 6 = .ok (.iload_n 2, 1) := by decide +kernel
theorem dX5_isBetter_7 : decode cX5_isBetter 7 = .ok (.if_icmp .ne 12, 3) := by decide +kernel
theorem dX5_isBetter_10 : decode cX5_isBetter 10 = .ok (.iload_n 1, 1) := by decide +kernel
theorem dX5_isBetter_11 : decode cX5_isBetter 11 = .ok (.iload_n 3, 1) := by decide +kernel
theorem dX5_isBetter_12 : decode cX5_isBetter 12 = .ok (.if_icmp .ge 7, 3) := by decide +kernel
theorem dX5_isBetter_15 : decode cX5_isBetter 15 = .ok (.iconst 1, 1) := by decide +kernel
theorem dX5_isBetter_16 : decode cX5_isBetter 16 = .ok (.goto 4, 3) := by decide +kernel
theorem dX5_isBetter_19 : decode cX5_isBetter 19 = .ok (.iconst 0, 1) := by decide +kernel
theorem dX5_isBetter_20 : decode cX5_isBetter 20 = .ok (.ireturn, 1) := by decide +kernel
theorem dX5_copyPlan_0 : decode cX5_copyPlan 0 = .ok (.iconst 0, 1) := by decide +kernel
theorem dX5_copyPlan_1 : decode cX5_copyPlan 1 = .ok (.istore_n 3, 1) := by decide +kernel
theorem dX5_copyPlan_2 : decode cX5_copyPlan 2 = .ok (.iload_n 3, 1) := by decide +kernel
theorem dX5_copyPlan_3 : decode cX5_copyPlan 3 = .ok (.bipush 16, 2) := by decide +kernel
theorem dX5_copyPlan_5 : decode cX5_copyPlan 5 = .ok (.if_icmp .ge 31, 3) := by decide +kernel
theorem dX5_copyPlan_8 : decode cX5_copyPlan 8 = .ok (.aload_n 0, 1) := by decide +kernel
theorem dX5_copyPlan_9 : decode cX5_copyPlan 9 = .ok (.getfield 47, 3) := by decide +kernel
theorem dX5_copyPlan_12 : decode cX5_copyPlan 12 = .ok (.bipush 16, 2) := by decide +kernel
theorem dX5_copyPlan_14 : decode cX5_copyPlan 14 = .ok (.iload_n 2, 1) := by decide +kernel
theorem dX5_copyPlan_15 : decode cX5_copyPlan 15 = .ok (.imul, 1) := by decide +kernel
theorem dX5_copyPlan_16 : decode cX5_copyPlan 16 = .ok (.iload_n 3, 1) := by decide +kernel
theorem dX5_copyPlan_17 : decode cX5_copyPlan 17 = .ok (.iadd, 1) := by decide +kernel
theorem dX5_copyPlan_18 : decode cX5_copyPlan 18 = .ok (.aload_n 0, 1) := by decide +kernel
theorem dX5_copyPlan_19 : decode cX5_copyPlan 19 = .ok (.getfield 47, 3) := by decide +kernel
theorem dX5_copyPlan_22 : decode cX5_copyPlan 22 = .ok (.bipush 16, 2) := by decide +kernel
theorem dX5_copyPlan_24 : decode cX5_copyPlan 24 = .ok (.iload_n 1, 1) := by decide +kernel
theorem dX5_copyPlan_25 : decode cX5_copyPlan 25 = .ok (.imul, 1) := by decide +kernel
theorem dX5_copyPlan_26 : decode cX5_copyPlan 26 = .ok (.iload_n 3, 1) := by decide +kernel
theorem dX5_copyPlan_27 : decode cX5_copyPlan 27 = .ok (.iadd, 1) := by decide +kernel
theorem dX5_copyPlan_28 : decode cX5_copyPlan 28 = .ok (.iaload, 1) := by decide +kernel
theorem dX5_copyPlan_29 : decode cX5_copyPlan 29 = .ok (.iastore, 1) := by decide +kernel
theorem dX5_copyPlan_30 : decode cX5_copyPlan 30 = .ok (.iinc 3 1, 3) := by decide +kernel
theorem dX5_copyPlan_33 : decode cX5_copyPlan 33 = .ok (.goto (-31), 3) := by decide +kernel
theorem dX5_copyPlan_36 : decode cX5_copyPlan 36 = .ok (.return_, 1) := by decide +kernel
theorem dX5_isSolve_0 : decode cX5_isSolve 0 = .ok (.iload_n 1, 1) := by decide +kernel
theorem dX5_isSolve_1 : decode cX5_isSolve 1 = .ok (.iconst 0, 1) := by decide +kernel
theorem dX5_isSolve_2 : decode cX5_isSolve 2 = .ok (.aload_n 0, 1) := by decide +kernel
theorem dX5_isSolve_3 : decode cX5_isSolve 3 = .ok (.getfield 129, 3) := by decide +kernel
theorem dX5_isSolve_6 : decode cX5_isSolve 6 = .ok (.iconst 1, 1) := by decide +kernel
theorem dX5_isSolve_7 : decode cX5_isSolve 7 = .ok (.isub, 1) := by decide +kernel
theorem dX5_isSolve_8 : decode cX5_isSolve 8 = .ok (.invokestatic 101, 3) := by decide +kernel
theorem dX5_isSolve_11 : decode cX5_isSolve 11 = .ok (.ireturn, 1) := by decide +kernel
theorem dX5_solve_0 : decode cX5_solve 0 = .ok (.iload_n 2, 1) := by decide +kernel
theorem dX5_solve_1 : decode cX5_solve 1 = .ok (.iconst 1, 1) := by decide +kernel
theorem dX5_solve_2 : decode cX5_solve 2 = .ok (.bipush 8, 2) := by decide +kernel
theorem dX5_solve_4 : decode cX5_solve 4 = .ok (.invokestatic 101, 3) := by decide +kernel
theorem dX5_solve_7 : decode cX5_solve 7 = .ok (.ifCond .ne 6, 3) := by decide +kernel
theorem dX5_solve_10 : decode cX5_solve 10 = .ok (.bipush (-2), 2) := by decide +kernel
theorem dX5_solve_12 : decode cX5_solve 12 = .ok (.ireturn, 1) := by decide +kernel
theorem dX5_solve_13 : decode cX5_solve 13 = .ok (.aload_n 0, 1) := by decide +kernel
theorem dX5_solve_14 : decode cX5_solve 14 = .ok (.getfield 129, 3) := by decide +kernel
theorem dX5_solve_17 : decode cX5_solve 17 = .ok (.iconst 3, 1) := by decide +kernel
theorem dX5_solve_18 : decode cX5_solve 18 = .ok (.if_icmp .ne 6, 3) := by decide +kernel
theorem dX5_solve_21 : decode cX5_solve 21 = .ok (.bipush (-4), 2) := by decide +kernel
theorem dX5_solve_23 : decode cX5_solve 23 = .ok (.ireturn, 1) := by decide +kernel
theorem dX5_solve_24 : decode cX5_solve 24 = .ok (.aload_n 0, 1) := by decide +kernel
theorem dX5_solve_25 : decode cX5_solve 25 = .ok (.getfield 129, 3) := by decide +kernel
theorem dX5_solve_28 : decode cX5_solve 28 = .ok (.istore_n 3, 1) := by decide +kernel
theorem dX5_solve_29 : decode cX5_solve 29 = .ok (.aload_n 0, 1) := by decide +kernel
theorem dX5_solve_30 : decode cX5_solve 30 = .ok (.dup, 1) := by decide +kernel
theorem dX5_solve_31 : decode cX5_solve 31 = .ok (.getfield 129, 3) := by decide +kernel
theorem dX5_solve_34 : decode cX5_solve 34 = .ok (.iconst 1, 1) := by decide +kernel
theorem dX5_solve_35 : decode cX5_solve 35 = .ok (.iadd, 1) := by decide +kernel
theorem dX5_solve_36 : decode cX5_solve 36 = .ok (.putfield 129, 3) := by decide +kernel
theorem dX5_solve_39 : decode cX5_solve 39 = .ok (.aload_n 0, 1) := by decide +kernel
theorem dX5_solve_40 : decode cX5_solve 40 = .ok (.iload_n 3, 1) := by decide +kernel
theorem dX5_solve_41 : decode cX5_solve 41 = .ok (.invokevirtual 86, 3) := by decide +kernel
theorem dX5_solve_44 : decode cX5_solve 44 = .ok (.aload_n 0, 1) := by decide +kernel
theorem dX5_solve_45 : decode cX5_solve 45 = .ok (.getfield 50, 3) := by decide +kernel
theorem dX5_solve_48 : decode cX5_solve 48 = .ok (.iload_n 3, 1) := by decide +kernel
theorem dX5_solve_49 : decode cX5_solve 49 = .ok (.iconst 0, 1) := by decide +kernel
theorem dX5_solve_50 : decode cX5_solve 50 = .ok (.iastore, 1) := by decide +kernel
theorem dX5_solve_51 : decode cX5_solve 51 = .ok (.aload_n 0, 1) := by decide +kernel
theorem dX5_solve_52 : decode cX5_solve 52 = .ok (.getfield 53, 3) := by decide +kernel
theorem dX5_solve_55 : decode cX5_solve 55 = .ok (.iload_n 3, 1) := by decide +kernel
theorem dX5_solve_56 : decode cX5_solve 56 = .ok (.iconst 0, 1) := by decide +kernel
theorem dX5_solve_57 : decode cX5_solve 57 = .ok (.iastore, 1) := by decide +kernel
theorem dX5_solve_58 : decode cX5_solve 58 = .ok (.aload_n 0, 1) := by decide +kernel
theorem dX5_solve_59 : decode cX5_solve 59 = .ok (.getfield 56, 3) := by decide +kernel
theorem dX5_solve_62 : decode cX5_solve 62 = .ok (.iload_n 3, 1) := by decide +kernel
theorem dX5_solve_63 : decode cX5_solve 63 = .ok (.iload_n 1, 1) := by decide +kernel
theorem dX5_solve_64 : decode cX5_solve 64 = .ok (.iastore, 1) := by decide +kernel
theorem dX5_solve_65 : decode cX5_solve 65 = .ok (.aload_n 0, 1) := by decide +kernel
theorem dX5_solve_66 : decode cX5_solve 66 = .ok (.getfield 59, 3) := by decide +kernel
theorem dX5_solve_69 : decode cX5_solve 69 = .ok (.iload_n 3, 1) := by decide +kernel
theorem dX5_solve_70 : decode cX5_solve 70 = .ok (.iload_n 2, 1) := by decide +kernel
theorem dX5_solve_71 : decode cX5_solve 71 = .ok (.iastore, 1) := by decide +kernel
theorem dX5_solve_72 : decode cX5_solve 72 = .ok (.aload_n 0, 1) := by decide +kernel
theorem dX5_solve_73 : decode cX5_solve 73 = .ok (.getfield 68, 3) := by decide +kernel
theorem dX5_solve_76 : decode cX5_solve 76 = .ok (.iload_n 3, 1) := by decide +kernel
theorem dX5_solve_77 : decode cX5_solve 77 = .ok (.iconst 0, 1) := by decide +kernel
theorem dX5_solve_78 : decode cX5_solve 78 = .ok (.iastore, 1) := by decide +kernel
theorem dX5_solve_79 : decode cX5_solve 79 = .ok (.aload_n 0, 1) := by decide +kernel
theorem dX5_solve_80 : decode cX5_solve 80 = .ok (.getfield 71, 3) := by decide +kernel
theorem dX5_solve_83 : decode cX5_solve 83 = .ok (.iload_n 3, 1) := by decide +kernel
theorem dX5_solve_84 : decode cX5_solve 84 = .ok (.iconst 0, 1) := by decide +kernel
theorem dX5_solve_85 : decode cX5_solve 85 = .ok (.iastore, 1) := by decide +kernel
theorem dX5_solve_86 : decode cX5_solve 86 = .ok (.aload_n 0, 1) := by decide +kernel
theorem dX5_solve_87 : decode cX5_solve 87 = .ok (.getfield 74, 3) := by decide +kernel
theorem dX5_solve_90 : decode cX5_solve 90 = .ok (.iconst 2, 1) := by decide +kernel
theorem dX5_solve_91 : decode cX5_solve 91 = .ok (.iload_n 3, 1) := by decide +kernel
theorem dX5_solve_92 : decode cX5_solve 92 = .ok (.imul, 1) := by decide +kernel
theorem dX5_solve_93 : decode cX5_solve 93 = .ok (.iconst 0, 1) := by decide +kernel
theorem dX5_solve_94 : decode cX5_solve 94 = .ok (.bastore, 1) := by decide +kernel
theorem dX5_solve_95 : decode cX5_solve 95 = .ok (.aload_n 0, 1) := by decide +kernel
theorem dX5_solve_96 : decode cX5_solve 96 = .ok (.getfield 74, 3) := by decide +kernel
theorem dX5_solve_99 : decode cX5_solve 99 = .ok (.iconst 2, 1) := by decide +kernel
theorem dX5_solve_100 : decode cX5_solve 100 = .ok (.iload_n 3, 1) := by decide +kernel
theorem dX5_solve_101 : decode cX5_solve 101 = .ok (.imul, 1) := by decide +kernel
theorem dX5_solve_102 : decode cX5_solve 102 = .ok (.iconst 1, 1) := by decide +kernel
theorem dX5_solve_103 : decode cX5_solve 103 = .ok (.iadd, 1) := by decide +kernel
theorem dX5_solve_104 : decode cX5_solve 104 = .ok (.iconst 0, 1) := by decide +kernel
theorem dX5_solve_105 : decode cX5_solve 105 = .ok (.bastore, 1) := by decide +kernel
theorem dX5_solve_106 : decode cX5_solve 106 = .ok (.iconst 0, 1) := by decide +kernel
theorem dX5_solve_107 : decode cX5_solve 107 = .ok (.istore 4, 2) := by decide +kernel
theorem dX5_solve_109 : decode cX5_solve 109 = .ok (.iload 4, 2) := by decide +kernel
theorem dX5_solve_111 : decode cX5_solve 111 = .ok (.bipush 16, 2) := by decide +kernel
theorem dX5_solve_113 : decode cX5_solve 113 = .ok (.if_icmp .ge 37, 3) := by decide +kernel
theorem dX5_solve_116 : decode cX5_solve 116 = .ok (.aload_n 0, 1) := by decide +kernel
theorem dX5_solve_117 : decode cX5_solve 117 = .ok (.getfield 47, 3) := by decide +kernel
theorem dX5_solve_120 : decode cX5_solve 120 = .ok (.bipush 16, 2) := by decide +kernel
theorem dX5_solve_122 : decode cX5_solve 122 = .ok (.iload_n 3, 1) := by decide +kernel
theorem dX5_solve_123 : decode cX5_solve 123 = .ok (.imul, 1) := by decide +kernel
theorem dX5_solve_124 : decode cX5_solve 124 = .ok (.iload 4, 2) := by decide +kernel
theorem dX5_solve_126 : decode cX5_solve 126 = .ok (.iadd, 1) := by decide +kernel
theorem dX5_solve_127 : decode cX5_solve 127 = .ok (.iconst (-1), 1) := by decide +kernel
theorem dX5_solve_128 : decode cX5_solve 128 = .ok (.iastore, 1) := by decide +kernel
theorem dX5_solve_129 : decode cX5_solve 129 = .ok (.aload_n 0, 1) := by decide +kernel
theorem dX5_solve_130 : decode cX5_solve 130 = .ok (.getfield 47, 3) := by decide +kernel
theorem dX5_solve_133 : decode cX5_solve 133 = .ok (.bipush 16, 2) := by decide +kernel
theorem dX5_solve_135 : decode cX5_solve 135 = .ok (.iconst 3, 1) := by decide +kernel
theorem dX5_solve_136 : decode cX5_solve 136 = .ok (.iload_n 3, 1) := by decide +kernel
theorem dX5_solve_137 : decode cX5_solve 137 = .ok (.iadd, 1) := by decide +kernel
theorem dX5_solve_138 : decode cX5_solve 138 = .ok (.imul, 1) := by decide +kernel
theorem dX5_solve_139 : decode cX5_solve 139 = .ok (.iload 4, 2) := by decide +kernel
theorem dX5_solve_141 : decode cX5_solve 141 = .ok (.iadd, 1) := by decide +kernel
theorem dX5_solve_142 : decode cX5_solve 142 = .ok (.iconst (-1), 1) := by decide +kernel
theorem dX5_solve_143 : decode cX5_solve 143 = .ok (.iastore, 1) := by decide +kernel
theorem dX5_solve_144 : decode cX5_solve 144 = .ok (.iinc 4 1, 3) := by decide +kernel
theorem dX5_solve_147 : decode cX5_solve 147 = .ok (.goto (-38), 3) := by decide +kernel
theorem dX5_solve_150 : decode cX5_solve 150 = .ok (.aload_n 0, 1) := by decide +kernel
theorem dX5_solve_151 : decode cX5_solve 151 = .ok (.iload_n 3, 1) := by decide +kernel
theorem dX5_solve_152 : decode cX5_solve 152 = .ok (.invokevirtual 132, 3) := by decide +kernel
theorem dX5_solve_155 : decode cX5_solve 155 = .ok (.iload_n 3, 1) := by decide +kernel
theorem dX5_solve_156 : decode cX5_solve 156 = .ok (.ireturn, 1) := by decide +kernel
theorem dX5_fillLate_0 : decode cX5_fillLate 0 = .ok (.aload_n 0, 1) := by decide +kernel
theorem dX5_fillLate_1 : decode cX5_fillLate 1 = .ok (.iload_n 1, 1) := by decide +kernel
theorem dX5_fillLate_2 : decode cX5_fillLate 2 = .ok (.iload_n 1, 1) := by decide +kernel
theorem dX5_fillLate_3 : decode cX5_fillLate 3 = .ok (.iload_n 1, 1) := by decide +kernel
theorem dX5_fillLate_4 : decode cX5_fillLate 4 = .ok (.invokevirtual 135, 3) := by decide +kernel
theorem dX5_fillLate_7 : decode cX5_fillLate 7 = .ok (.iconst 0, 1) := by decide +kernel
theorem dX5_fillLate_8 : decode cX5_fillLate 8 = .ok (.istore_n 2, 1) := by decide +kernel
theorem dX5_fillLate_9 : decode cX5_fillLate 9 = .ok (.iload_n 2, 1) := by decide +kernel
theorem dX5_fillLate_10 : decode cX5_fillLate 10 = .ok (.aload_n 0, 1) := by decide +kernel
theorem dX5_fillLate_11 : decode cX5_fillLate 11 = .ok (.getfield 59, 3) := by decide +kernel
theorem dX5_fillLate_14 : decode cX5_fillLate 14 = .ok (.iload_n 1, 1) := by decide +kernel
theorem dX5_fillLate_15 : decode cX5_fillLate 15 = .ok (.iaload, 1) := by decide +kernel
theorem dX5_fillLate_16 : decode cX5_fillLate 16 = .ok (.if_icmp .ge 39, 3) := by decide +kernel
theorem dX5_fillLate_19 : decode cX5_fillLate 19 = .ok (.aload_n 0, 1) := by decide +kernel
theorem dX5_fillLate_20 : decode cX5_fillLate 20 = .ok (.getfield 62, 3) := by decide +kernel
theorem dX5_fillLate_23 : decode cX5_fillLate 23 = .ok (.bipush 8, 2) := by decide +kernel
theorem dX5_fillLate_25 : decode cX5_fillLate 25 = .ok (.iload_n 1, 1) := by decide +kernel
theorem dX5_fillLate_26 : decode cX5_fillLate 26 = .ok (.imul, 1) := by decide +kernel
theorem dX5_fillLate_27 : decode cX5_fillLate 27 = .ok (.iload_n 2, 1) := by decide +kernel
theorem dX5_fillLate_28 : decode cX5_fillLate 28 = .ok (.iadd, 1) := by decide +kernel
theorem dX5_fillLate_29 : decode cX5_fillLate 29 = .ok (.aload_n 0, 1) := by decide +kernel
theorem dX5_fillLate_30 : decode cX5_fillLate 30 = .ok (.getfield 119, 3) := by decide +kernel
theorem dX5_fillLate_33 : decode cX5_fillLate 33 = .ok (.iastore, 1) := by decide +kernel
theorem dX5_fillLate_34 : decode cX5_fillLate 34 = .ok (.aload_n 0, 1) := by decide +kernel
theorem dX5_fillLate_35 : decode cX5_fillLate 35 = .ok (.getfield 65, 3) := by decide +kernel
theorem dX5_fillLate_38 : decode cX5_fillLate 38 = .ok (.bipush 8, 2) := by decide +kernel
theorem dX5_fillLate_40 : decode cX5_fillLate 40 = .ok (.iload_n 1, 1) := by decide +kernel
theorem dX5_fillLate_41 : decode cX5_fillLate 41 = .ok (.imul, 1) := by decide +kernel
theorem dX5_fillLate_42 : decode cX5_fillLate 42 = .ok (.iload_n 2, 1) := by decide +kernel
theorem dX5_fillLate_43 : decode cX5_fillLate 43 = .ok (.iadd, 1) := by decide +kernel
theorem dX5_fillLate_44 : decode cX5_fillLate 44 = .ok (.aload_n 0, 1) := by decide +kernel
theorem dX5_fillLate_45 : decode cX5_fillLate 45 = .ok (.getfield 122, 3) := by decide +kernel
theorem dX5_fillLate_48 : decode cX5_fillLate 48 = .ok (.iastore, 1) := by decide +kernel
theorem dX5_fillLate_49 : decode cX5_fillLate 49 = .ok (.iinc 2 1, 3) := by decide +kernel
theorem dX5_fillLate_52 : decode cX5_fillLate 52 = .ok (.goto (-43), 3) := by decide +kernel
theorem dX5_fillLate_55 : decode cX5_fillLate 55 = .ok (.return_, 1) := by decide +kernel
theorem dX5_keepBest_0 : decode cX5_keepBest 0 = .ok (.aload_n 0, 1) := by decide +kernel
theorem dX5_keepBest_1 : decode cX5_keepBest 1 = .ok (.iconst 3, 1) := by decide +kernel
theorem dX5_keepBest_2 : decode cX5_keepBest 2 = .ok (.iload_n 1, 1) := by decide +kernel
theorem dX5_keepBest_3 : decode cX5_keepBest 3 = .ok (.iadd, 1) := by decide +kernel
theorem dX5_keepBest_4 : decode cX5_keepBest 4 = .ok (.iload_n 1, 1) := by decide +kernel
theorem dX5_keepBest_5 : decode cX5_keepBest 5 = .ok (.iload_n 1, 1) := by decide +kernel
theorem dX5_keepBest_6 : decode cX5_keepBest 6 = .ok (.invokevirtual 135, 3) := by decide +kernel
theorem dX5_keepBest_9 : decode cX5_keepBest 9 = .ok (.aload_n 0, 1) := by decide +kernel
theorem dX5_keepBest_10 : decode cX5_keepBest 10 = .ok (.getfield 119, 3) := by decide +kernel
theorem dX5_keepBest_13 : decode cX5_keepBest 13 = .ok (.istore_n 2, 1) := by decide +kernel
theorem dX5_keepBest_14 : decode cX5_keepBest 14 = .ok (.aload_n 0, 1) := by decide +kernel
theorem dX5_keepBest_15 : decode cX5_keepBest 15 = .ok (.getfield 122, 3) := by decide +kernel
theorem dX5_keepBest_18 : decode cX5_keepBest 18 = .ok (.istore_n 3, 1) := by decide +kernel
theorem dX5_keepBest_19 : decode cX5_keepBest 19 = .ok (.aload_n 0, 1) := by decide +kernel
theorem dX5_keepBest_20 : decode cX5_keepBest 20 = .ok (.iload_n 1, 1) := by decide +kernel
theorem dX5_keepBest_21 : decode cX5_keepBest 21 = .ok (.iload_n 1, 1) := by decide +kernel
theorem dX5_keepBest_22 : decode cX5_keepBest 22 = .ok (.iload_n 1, 1) := by decide +kernel
theorem dX5_keepBest_23 : decode cX5_keepBest 23 = .ok (.invokevirtual 135, 3) := by decide +kernel
theorem dX5_keepBest_26 : decode cX5_keepBest 26 = .ok (.aload_n 0, 1) := by decide +kernel
theorem dX5_keepBest_27 : decode cX5_keepBest 27 = .ok (.getfield 119, 3) := by decide +kernel
theorem dX5_keepBest_30 : decode cX5_keepBest 30 = .ok (.aload_n 0, 1) := by decide +kernel
theorem dX5_keepBest_31 : decode cX5_keepBest 31 = .ok (.getfield 122, 3) := by decide +kernel
theorem dX5_keepBest_34 : decode cX5_keepBest 34 = .ok (.iload_n 2, 1) := by decide +kernel
theorem dX5_keepBest_35 : decode cX5_keepBest 35 = .ok (.iload_n 3, 1) := by decide +kernel
theorem dX5_keepBest_36 : decode cX5_keepBest 36 = .ok (.invokestatic 139, 3) := by decide +kernel
theorem dX5_keepBest_39 : decode cX5_keepBest 39 = .ok (.ifCond .eq 21, 3) := by decide +kernel
theorem dX5_keepBest_42 : decode cX5_keepBest 42 = .ok (.aload_n 0, 1) := by decide +kernel
theorem dX5_keepBest_43 : decode cX5_keepBest 43 = .ok (.iload_n 1, 1) := by decide +kernel
theorem dX5_keepBest_44 : decode cX5_keepBest 44 = .ok (.iconst 3, 1) := by decide +kernel
theorem dX5_keepBest_45 : decode cX5_keepBest 45 = .ok (.iload_n 1, 1) := by decide +kernel
theorem dX5_keepBest_46 : decode cX5_keepBest 46 = .ok (.iadd, 1) := by decide +kernel
theorem dX5_keepBest_47 : decode cX5_keepBest 47 = .ok (.invokevirtual 143, 3) := by decide +kernel
theorem dX5_keepBest_50 : decode cX5_keepBest 50 = .ok (.aload_n 0, 1) := by decide +kernel
theorem dX5_keepBest_51 : decode cX5_keepBest 51 = .ok (.getfield 71, 3) := by decide +kernel
theorem dX5_keepBest_54 : decode cX5_keepBest 54 = .ok (.iload_n 1, 1) := by decide +kernel
theorem dX5_keepBest_55 : decode cX5_keepBest 55 = .ok (.dup2, 1) := by decide +kernel
theorem dX5_keepBest_56 : decode cX5_keepBest 56 = .ok (.iaload, 1) := by decide +kernel
theorem dX5_keepBest_57 : decode cX5_keepBest 57 = .ok (.iconst 1, 1) := by decide +kernel
theorem dX5_keepBest_58 : decode cX5_keepBest 58 = .ok (.iadd, 1) := by decide +kernel
theorem dX5_keepBest_59 : decode cX5_keepBest 59 = .ok (.iastore, 1) := by decide +kernel
theorem dX5_keepBest_60 : decode cX5_keepBest 60 = .ok (.return_, 1) := by decide +kernel
theorem dX5_catchUp_0 : decode cX5_catchUp 0 = .ok (.aload_n 0, 1) := by decide +kernel
theorem dX5_catchUp_1 : decode cX5_catchUp 1 = .ok (.getfield 50, 3) := by decide +kernel
theorem dX5_catchUp_4 : decode cX5_catchUp 4 = .ok (.iload_n 1, 1) := by decide +kernel
theorem dX5_catchUp_5 : decode cX5_catchUp 5 = .ok (.iaload, 1) := by decide +kernel
theorem dX5_catchUp_6 : decode cX5_catchUp 6 = .ok (.istore_n 3, 1) := by decide +kernel
theorem dX5_catchUp_7 : decode cX5_catchUp 7 = .ok (.aload_n 0, 1) := by decide +kernel
theorem dX5_catchUp_8 : decode cX5_catchUp 8 = .ok (.getfield 50, 3) := by decide +kernel
theorem dX5_catchUp_11 : decode cX5_catchUp 11 = .ok (.iload_n 1, 1) := by decide +kernel
theorem dX5_catchUp_12 : decode cX5_catchUp 12 = .ok (.iaload, 1) := by decide +kernel
theorem dX5_catchUp_13 : decode cX5_catchUp 13 = .ok (.iload_n 2, 1) := by decide +kernel
theorem dX5_catchUp_14 : decode cX5_catchUp 14 = .ok (.if_icmp .ge 115, 3) := by decide +kernel
theorem dX5_catchUp_17 : decode cX5_catchUp 17 = .ok (.aload_n 0, 1) := by decide +kernel
theorem dX5_catchUp_18 : decode cX5_catchUp 18 = .ok (.getfield 50, 3) := by decide +kernel
theorem dX5_catchUp_21 : decode cX5_catchUp 21 = .ok (.iload_n 1, 1) := by decide +kernel
theorem dX5_catchUp_22 : decode cX5_catchUp 22 = .ok (.iaload, 1) := by decide +kernel
theorem dX5_catchUp_23 : decode cX5_catchUp 23 = .ok (.istore 4, 2) := by decide +kernel
theorem dX5_catchUp_25 : decode cX5_catchUp 25 = .ok (.aload_n 0, 1) := by decide +kernel
theorem dX5_catchUp_26 : decode cX5_catchUp 26 = .ok (.iload_n 1, 1) := by decide +kernel
theorem dX5_catchUp_27 : decode cX5_catchUp 27 = .ok (.iload 4, 2) := by decide +kernel
theorem dX5_catchUp_29 : decode cX5_catchUp 29 = .ok (.invokevirtual 94, 3) := by decide +kernel
theorem dX5_catchUp_32 : decode cX5_catchUp 32 = .ok (.aload_n 0, 1) := by decide +kernel
theorem dX5_catchUp_33 : decode cX5_catchUp 33 = .ok (.getfield 50, 3) := by decide +kernel
theorem dX5_catchUp_36 : decode cX5_catchUp 36 = .ok (.iload_n 1, 1) := by decide +kernel
theorem dX5_catchUp_37 : decode cX5_catchUp 37 = .ok (.dup2, 1) := by decide +kernel
theorem dX5_catchUp_38 : decode cX5_catchUp 38 = .ok (.iaload, 1) := by decide +kernel
theorem dX5_catchUp_39 : decode cX5_catchUp 39 = .ok (.iconst 1, 1) := by decide +kernel
theorem dX5_catchUp_40 : decode cX5_catchUp 40 = .ok (.iadd, 1) := by decide +kernel
theorem dX5_catchUp_41 : decode cX5_catchUp 41 = .ok (.iastore, 1) := by decide +kernel
theorem dX5_catchUp_42 : decode cX5_catchUp 42 = .ok (.aload_n 0, 1) := by decide +kernel
theorem dX5_catchUp_43 : decode cX5_catchUp 43 = .ok (.getfield 13, 3) := by decide +kernel
theorem dX5_catchUp_46 : decode cX5_catchUp 46 = .ok (.iload 4, 2) := by decide +kernel
theorem dX5_catchUp_48 : decode cX5_catchUp 48 = .ok (.iaload, 1) := by decide +kernel
theorem dX5_catchUp_49 : decode cX5_catchUp 49 = .ok (.istore 5, 2) := by decide +kernel
theorem dX5_catchUp_51 : decode cX5_catchUp 51 = .ok (.aload_n 0, 1) := by decide +kernel
theorem dX5_catchUp_52 : decode cX5_catchUp 52 = .ok (.getfield 7, 3) := by decide +kernel
theorem dX5_catchUp_55 : decode cX5_catchUp 55 = .ok (.iload 4, 2) := by decide +kernel
theorem dX5_catchUp_57 : decode cX5_catchUp 57 = .ok (.iaload, 1) := by decide +kernel
theorem dX5_catchUp_58 : decode cX5_catchUp 58 = .ok (.ifCond .eq 15, 3) := by decide +kernel
theorem dX5_catchUp_61 : decode cX5_catchUp 61 = .ok (.aload_n 0, 1) := by decide +kernel
theorem dX5_catchUp_62 : decode cX5_catchUp 62 = .ok (.getfield 7, 3) := by decide +kernel
theorem dX5_catchUp_65 : decode cX5_catchUp 65 = .ok (.iload 4, 2) := by decide +kernel
theorem dX5_catchUp_67 : decode cX5_catchUp 67 = .ok (.iaload, 1) := by decide +kernel
theorem dX5_catchUp_68 : decode cX5_catchUp 68 = .ok (.bipush 6, 2) := by decide +kernel
theorem dX5_catchUp_70 : decode cX5_catchUp 70 = .ok (.if_icmp .ne 56, 3) := by decide +kernel
theorem dX5_catchUp_73 : decode cX5_catchUp 73 = .ok (.aload_n 0, 1) := by decide +kernel
theorem dX5_catchUp_74 : decode cX5_catchUp 74 = .ok (.getfield 7, 3) := by decide +kernel
theorem dX5_catchUp_77 : decode cX5_catchUp 77 = .ok (.iload 4, 2) := by decide +kernel
theorem dX5_catchUp_79 : decode cX5_catchUp 79 = .ok (.iaload, 1) := by decide +kernel
theorem dX5_catchUp_80 : decode cX5_catchUp 80 = .ok (.ifCond .ne 7, 3) := by decide +kernel
theorem dX5_catchUp_83 : decode cX5_catchUp 83 = .ok (.iconst (-1), 1) := by decide +kernel
theorem dX5_catchUp_84 : decode cX5_catchUp 84 = .ok (.goto 10, 3) := by decide +kernel
theorem dX5_catchUp_87 : decode cX5_catchUp 87 = .ok (.aload_n 0, 1) := by decide +kernel
theorem dX5_catchUp_88 : decode cX5_catchUp 88 = .ok (.getfield 16, 3) := by decide +kernel
theorem dX5_catchUp_91 : decode cX5_catchUp 91 = .ok (.iload 4, 2) := by decide +kernel
theorem dX5_catchUp_93 : decode cX5_catchUp 93 = .ok (.iaload, 1) := by decide +kernel
theorem dX5_catchUp_94 : decode cX5_catchUp 94 = .ok (.istore 6, 2) := by decide +kernel
theorem dX5_catchUp_96 : decode cX5_catchUp 96 = .ok (.aload_n 0, 1) := by decide +kernel
theorem dX5_catchUp_97 : decode cX5_catchUp 97 = .ok (.getfield 47, 3) := by decide +kernel
theorem dX5_catchUp_100 : decode cX5_catchUp 100 = .ok (.bipush 16, 2) := by decide +kernel
theorem dX5_catchUp_102 : decode cX5_catchUp 102 = .ok (.iload_n 1, 1) := by decide +kernel
theorem dX5_catchUp_103 : decode cX5_catchUp 103 = .ok (.imul, 1) := by decide +kernel
theorem dX5_catchUp_104 : decode cX5_catchUp 104 = .ok (.iload 5, 2) := by decide +kernel
theorem dX5_catchUp_106 : decode cX5_catchUp 106 = .ok (.iadd, 1) := by decide +kernel
theorem dX5_catchUp_107 : decode cX5_catchUp 107 = .ok (.iload 6, 2) := by decide +kernel
theorem dX5_catchUp_109 : decode cX5_catchUp 109 = .ok (.iastore, 1) := by decide +kernel
theorem dX5_catchUp_110 : decode cX5_catchUp 110 = .ok (.aload_n 0, 1) := by decide +kernel
theorem dX5_catchUp_111 : decode cX5_catchUp 111 = .ok (.getfield 47, 3) := by decide +kernel
theorem dX5_catchUp_114 : decode cX5_catchUp 114 = .ok (.bipush 16, 2) := by decide +kernel
theorem dX5_catchUp_116 : decode cX5_catchUp 116 = .ok (.iconst 3, 1) := by decide +kernel
theorem dX5_catchUp_117 : decode cX5_catchUp 117 = .ok (.iload_n 1, 1) := by decide +kernel
theorem dX5_catchUp_118 : decode cX5_catchUp 118 = .ok (.iadd, 1) := by decide +kernel
theorem dX5_catchUp_119 : decode cX5_catchUp 119 = .ok (.imul, 1) := by decide +kernel
theorem dX5_catchUp_120 : decode cX5_catchUp 120 = .ok (.iload 5, 2) := by decide +kernel
theorem dX5_catchUp_122 : decode cX5_catchUp 122 = .ok (.iadd, 1) := by decide +kernel
theorem dX5_catchUp_123 : decode cX5_catchUp 123 = .ok (.iload 6, 2) := by decide +kernel
theorem dX5_catchUp_125 : decode cX5_catchUp 125 = .ok (.iastore, 1) := by decide +kernel
theorem dX5_catchUp_126 : decode cX5_catchUp 126 = .ok (.goto (-119), 3) := by decide +kernel
theorem dX5_catchUp_129 : decode cX5_catchUp 129 = .ok (.aload_n 0, 1) := by decide +kernel
theorem dX5_catchUp_130 : decode cX5_catchUp 130 = .ok (.getfield 50, 3) := by decide +kernel
theorem dX5_catchUp_133 : decode cX5_catchUp 133 = .ok (.iload_n 1, 1) := by decide +kernel
theorem dX5_catchUp_134 : decode cX5_catchUp 134 = .ok (.iaload, 1) := by decide +kernel
theorem dX5_catchUp_135 : decode cX5_catchUp 135 = .ok (.iload_n 3, 1) := by decide +kernel
theorem dX5_catchUp_136 : decode cX5_catchUp 136 = .ok (.if_icmp .le 13, 3) := by decide +kernel
theorem dX5_catchUp_139 : decode cX5_catchUp 139 = .ok (.aload_n 0, 1) := by decide +kernel
theorem dX5_catchUp_140 : decode cX5_catchUp 140 = .ok (.iload_n 1, 1) := by decide +kernel
theorem dX5_catchUp_141 : decode cX5_catchUp 141 = .ok (.invokevirtual 146, 3) := by decide +kernel
theorem dX5_catchUp_144 : decode cX5_catchUp 144 = .ok (.aload_n 0, 1) := by decide +kernel
theorem dX5_catchUp_145 : decode cX5_catchUp 145 = .ok (.iload_n 1, 1) := by decide +kernel
theorem dX5_catchUp_146 : decode cX5_catchUp 146 = .ok (.invokevirtual 132, 3) := by decide +kernel
theorem dX5_catchUp_149 : decode cX5_catchUp 149 = .ok (.aload_n 0, 1) := by decide +kernel
theorem dX5_catchUp_150 : decode cX5_catchUp 150 = .ok (.getfield 50, 3) := by decide +kernel
theorem dX5_catchUp_153 : decode cX5_catchUp 153 = .ok (.iload_n 1, 1) := by decide +kernel
theorem dX5_catchUp_154 : decode cX5_catchUp 154 = .ok (.iaload, 1) := by decide +kernel
theorem dX5_catchUp_155 : decode cX5_catchUp 155 = .ok (.iload_n 3, 1) := by decide +kernel
theorem dX5_catchUp_156 : decode cX5_catchUp 156 = .ok (.isub, 1) := by decide +kernel
theorem dX5_catchUp_157 : decode cX5_catchUp 157 = .ok (.ireturn, 1) := by decide +kernel
theorem dX5_take_0 : decode cX5_take 0 = .ok (.aload_n 0, 1) := by decide +kernel
theorem dX5_take_1 : decode cX5_take 1 = .ok (.iload_n 1, 1) := by decide +kernel
theorem dX5_take_2 : decode cX5_take 2 = .ok (.invokevirtual 149, 3) := by decide +kernel
theorem dX5_take_5 : decode cX5_take 5 = .ok (.ifCond .eq 15, 3) := by decide +kernel
theorem dX5_take_8 : decode cX5_take 8 = .ok (.iload_n 2, 1) := by decide +kernel
theorem dX5_take_9 : decode cX5_take 9 = .ok (.iconst 0, 1) := by decide +kernel
theorem dX5_take_10 : decode cX5_take 10 = .ok (.aload_n 0, 1) := by decide +kernel
theorem dX5_take_11 : decode cX5_take 11 = .ok (.getfield 97, 3) := by decide +kernel
theorem dX5_take_14 : decode cX5_take 14 = .ok (.invokestatic 101, 3) := by decide +kernel
theorem dX5_take_17 : decode cX5_take 17 = .ok (.ifCond .ne 8, 3) := by decide +kernel
theorem dX5_take_20 : decode cX5_take 20 = .ok (.bipush (-2), 2) := by decide +kernel
theorem dX5_take_22 : decode cX5_take 22 = .ok (.goto 9, 3) := by decide +kernel
theorem dX5_take_25 : decode cX5_take 25 = .ok (.aload_n 0, 1) := by decide +kernel
theorem dX5_take_26 : decode cX5_take 26 = .ok (.iload_n 1, 1) := by decide +kernel
theorem dX5_take_27 : decode cX5_take 27 = .ok (.iload_n 2, 1) := by decide +kernel
theorem dX5_take_28 : decode cX5_take 28 = .ok (.invokevirtual 152, 3) := by decide +kernel
theorem dX5_take_31 : decode cX5_take 31 = .ok (.ireturn, 1) := by decide +kernel
theorem dX5_nth_0 : decode cX5_nth 0 = .ok (.iload_n 2, 1) := by decide +kernel
theorem dX5_nth_1 : decode cX5_nth 1 = .ok (.istore_n 3, 1) := by decide +kernel
theorem dX5_nth_2 : decode cX5_nth 2 = .ok (.iconst 0, 1) := by decide +kernel
theorem dX5_nth_3 : decode cX5_nth 3 = .ok (.istore 4, 2) := by decide +kernel
theorem dX5_nth_5 : decode cX5_nth 5 = .ok (.aload_n 0, 1) := by decide +kernel
theorem dX5_nth_6 : decode cX5_nth 6 = .ok (.iload_n 1, 1) := by decide +kernel
theorem dX5_nth_7 : decode cX5_nth 7 = .ok (.iload 4, 2) := by decide +kernel
theorem dX5_nth_9 : decode cX5_nth 9 = .ok (.invokevirtual 156, 3) := by decide +kernel
theorem dX5_nth_12 : decode cX5_nth 12 = .ok (.ifCond .eq 7, 3) := by decide +kernel
theorem dX5_nth_15 : decode cX5_nth 15 = .ok (.iload_n 3, 1) := by decide +kernel
theorem dX5_nth_16 : decode cX5_nth 16 = .ok (.ifCond .le 27, 3) := by decide +kernel
theorem dX5_nth_19 : decode cX5_nth 19 = .ok (.iload_n 3, 1) := by decide +kernel
theorem dX5_nth_20 : decode cX5_nth 20 = .ok (.aload_n 0, 1) := by decide +kernel
theorem dX5_nth_21 : decode cX5_nth 21 = .ok (.iload_n 1, 1) := by decide +kernel
theorem dX5_nth_22 : decode cX5_nth 22 = .ok (.iload 4, 2) := by decide +kernel
theorem dX5_nth_24 : decode cX5_nth 24 = .ok (.invokevirtual 156, 3) := by decide +kernel
theorem dX5_nth_27 : decode cX5_nth 27 = .ok (.ifCond .eq 7, 3) := by decide +kernel
theorem dX5_nth_30 : decode cX5_nth 30 = .ok (.iconst 1, 1) := by decide +kernel
theorem dX5_nth_31 : decode cX5_nth 31 = .ok (.goto 4, 3) := by decide +kernel
theorem dX5_nth_34 : decode cX5_nth 34 = .ok (.iconst 0, 1) := by decide +kernel
theorem dX5_nth_35 : decode cX5_nth 35 = .ok (.isub, 1) := by decide +kernel
theorem dX5_nth_36 : decode cX5_nth 36 = .ok (.istore_n 3, 1) := by decide +kernel
theorem dX5_nth_37 : decode cX5_nth 37 = .ok (.iinc 4 1, 3) := by decide +kernel
theorem dX5_nth_40 : decode cX5_nth 40 = .ok (.goto (-35), 3) := by decide +kernel
theorem dX5_nth_43 : decode cX5_nth 43 = .ok (.iload 4, 2) := by decide +kernel
theorem dX5_nth_45 : decode cX5_nth 45 = .ok (.ireturn, 1) := by decide +kernel
theorem dX5_isFree_0 : decode cX5_isFree 0 = .ok (.aload_n 0, 1) := by decide +kernel
theorem dX5_isFree_1 : decode cX5_isFree 1 = .ok (.getfield 25, 3) := by decide +kernel
theorem dX5_isFree_4 : decode cX5_isFree 4 = .ok (.bipush 16, 2) := by decide +kernel
theorem dX5_isFree_6 : decode cX5_isFree 6 = .ok (.iload_n 1, 1) := by decide +kernel
theorem dX5_isFree_7 : decode cX5_isFree 7 = .ok (.imul, 1) := by decide +kernel
theorem dX5_isFree_8 : decode cX5_isFree 8 = .ok (.iload_n 2, 1) := by decide +kernel
theorem dX5_isFree_9 : decode cX5_isFree 9 = .ok (.iadd, 1) := by decide +kernel
theorem dX5_isFree_10 : decode cX5_isFree 10 = .ok (.baload, 1) := by decide +kernel
theorem dX5_isFree_11 : decode cX5_isFree 11 = .ok (.ifCond .eq 23, 3) := by decide +kernel
theorem dX5_isFree_14 : decode cX5_isFree 14 = .ok (.aload_n 0, 1) := by decide +kernel
theorem dX5_isFree_15 : decode cX5_isFree 15 = .ok (.getfield 38, 3) := by decide +kernel
theorem dX5_isFree_18 : decode cX5_isFree 18 = .ok (.bipush 16, 2) := by decide +kernel
theorem dX5_isFree_20 : decode cX5_isFree 20 = .ok (.iload_n 1, 1) := by decide +kernel
theorem dX5_isFree_21 : decode cX5_isFree 21 = .ok (.imul, 1) := by decide +kernel
theorem dX5_isFree_22 : decode cX5_isFree 22 = .ok (.iload_n 2, 1) := by decide +kernel
theorem dX5_isFree_23 : decode cX5_isFree 23 = .ok (.iadd, 1) := by decide +kernel
theorem dX5_isFree_24 : decode cX5_isFree 24 = .ok (.iaload, 1) := by decide +kernel
theorem dX5_isFree_25 : decode cX5_isFree 25 = .ok (.bipush (-2), 2) := by decide +kernel
theorem dX5_isFree_27 : decode cX5_isFree 27 = .ok (.if_icmp .ne 7, 3) := by decide +kernel
theorem dX5_isFree_30 : decode cX5_isFree 30 = .ok (.iconst 1, 1) := by decide +kernel
theorem dX5_isFree_31 : decode cX5_isFree 31 = .ok (.goto 4, 3) := by decide +kernel
theorem dX5_isFree_34 : decode cX5_isFree 34 = .ok (.iconst 0, 1) := by decide +kernel
theorem dX5_isFree_35 : decode cX5_isFree 35 = .ok (.ireturn, 1) := by decide +kernel
theorem dX5_attempt_0 : decode cX5_attempt 0 = .ok (.aload_n 0, 1) := by decide +kernel
theorem dX5_attempt_1 : decode cX5_attempt 1 = .ok (.getfield 56, 3) := by decide +kernel
theorem dX5_attempt_4 : decode cX5_attempt 4 = .ok (.iload_n 1, 1) := by decide +kernel
theorem dX5_attempt_5 : decode cX5_attempt 5 = .ok (.iaload, 1) := by decide +kernel
theorem dX5_attempt_6 : decode cX5_attempt 6 = .ok (.istore_n 2, 1) := by decide +kernel
theorem dX5_attempt_7 : decode cX5_attempt 7 = .ok (.iconst 0, 1) := by decide +kernel
theorem dX5_attempt_8 : decode cX5_attempt 8 = .ok (.istore_n 3, 1) := by decide +kernel
theorem dX5_attempt_9 : decode cX5_attempt 9 = .ok (.iconst 0, 1) := by decide +kernel
theorem dX5_attempt_10 : decode cX5_attempt 10 = .ok (.istore 4, 2) := by decide +kernel
theorem dX5_attempt_12 : decode cX5_attempt 12 = .ok (.iload 4, 2) := by decide +kernel
theorem dX5_attempt_14 : decode cX5_attempt 14 = .ok (.bipush 16, 2) := by decide +kernel
theorem dX5_attempt_16 : decode cX5_attempt 16 = .ok (.if_icmp .ge 27, 3) := by decide +kernel
theorem dX5_attempt_19 : decode cX5_attempt 19 = .ok (.iload_n 3, 1) := by decide +kernel
theorem dX5_attempt_20 : decode cX5_attempt 20 = .ok (.aload_n 0, 1) := by decide +kernel
theorem dX5_attempt_21 : decode cX5_attempt 21 = .ok (.iload_n 1, 1) := by decide +kernel
theorem dX5_attempt_22 : decode cX5_attempt 22 = .ok (.iload 4, 2) := by decide +kernel
theorem dX5_attempt_24 : decode cX5_attempt 24 = .ok (.invokevirtual 156, 3) := by decide +kernel
theorem dX5_attempt_27 : decode cX5_attempt 27 = .ok (.ifCond .eq 7, 3) := by decide +kernel
theorem dX5_attempt_30 : decode cX5_attempt 30 = .ok (.iconst 1, 1) := by decide +kernel
theorem dX5_attempt_31 : decode cX5_attempt 31 = .ok (.goto 4, 3) := by decide +kernel
theorem dX5_attempt_34 : decode cX5_attempt 34 = .ok (.iconst 0, 1) := by decide +kernel
theorem dX5_attempt_35 : decode cX5_attempt 35 = .ok (.iadd, 1) := by decide +kernel
theorem dX5_attempt_36 : decode cX5_attempt 36 = .ok (.istore_n 3, 1) := by decide +kernel
theorem dX5_attempt_37 : decode cX5_attempt 37 = .ok (.iinc 4 1, 3) := by decide +kernel
theorem dX5_attempt_40 : decode cX5_attempt 40 = .ok (.goto (-28), 3) := by decide +kernel
theorem dX5_attempt_43 : decode cX5_attempt 43 = .ok (.iload_n 3, 1) := by decide +kernel
theorem dX5_attempt_44 : decode cX5_attempt 44 = .ok (.ifCond .ne 4, 3) := by decide +kernel
theorem dX5_attempt_47 : decode cX5_attempt 47 = .ok (.return_, 1) := by decide +kernel
theorem dX5_attempt_48 : decode cX5_attempt 48 = .ok (.aload_n 0, 1) := by decide +kernel
theorem dX5_attempt_49 : decode cX5_attempt 49 = .ok (.iload_n 1, 1) := by decide +kernel
theorem dX5_attempt_50 : decode cX5_attempt 50 = .ok (.bipush 6, 2) := by decide +kernel
theorem dX5_attempt_52 : decode cX5_attempt 52 = .ok (.invokevirtual 143, 3) := by decide +kernel
theorem dX5_attempt_55 : decode cX5_attempt 55 = .ok (.aload_n 0, 1) := by decide +kernel
theorem dX5_attempt_56 : decode cX5_attempt 56 = .ok (.iload_n 1, 1) := by decide +kernel
theorem dX5_attempt_57 : decode cX5_attempt 57 = .ok (.iload_n 2, 1) := by decide +kernel
theorem dX5_attempt_58 : decode cX5_attempt 58 = .ok (.bipush 16, 2) := by decide +kernel
theorem dX5_attempt_60 : decode cX5_attempt 60 = .ok (.iushr, 1) := by decide +kernel
theorem dX5_attempt_61 : decode cX5_attempt 61 = .ok (.iload_n 3, 1) := by decide +kernel
theorem dX5_attempt_62 : decode cX5_attempt 62 = .ok (.irem, 1) := by decide +kernel
theorem dX5_attempt_63 : decode cX5_attempt 63 = .ok (.invokevirtual 160, 3) := by decide +kernel
theorem dX5_attempt_66 : decode cX5_attempt 66 = .ok (.istore 4, 2) := by decide +kernel
theorem dX5_attempt_68 : decode cX5_attempt 68 = .ok (.iload_n 2, 1) := by decide +kernel
theorem dX5_attempt_69 : decode cX5_attempt 69 = .ok (.bipush 8, 2) := by decide +kernel
theorem dX5_attempt_71 : decode cX5_attempt 71 = .ok (.iushr, 1) := by decide +kernel
theorem dX5_attempt_72 : decode cX5_attempt 72 = .ok (.iconst 4, 1) := by decide +kernel
theorem dX5_attempt_73 : decode cX5_attempt 73 = .ok (.irem, 1) := by decide +kernel
theorem dX5_attempt_74 : decode cX5_attempt 74 = .ok (.iconst 3, 1) := by decide +kernel
theorem dX5_attempt_75 : decode cX5_attempt 75 = .ok (.if_icmp .ne 63, 3) := by decide +kernel
theorem dX5_attempt_78 : decode cX5_attempt 78 = .ok (.aload_n 0, 1) := by decide +kernel
theorem dX5_attempt_79 : decode cX5_attempt 79 = .ok (.iload_n 1, 1) := by decide +kernel
theorem dX5_attempt_80 : decode cX5_attempt 80 = .ok (.iload_n 2, 1) := by decide +kernel
theorem dX5_attempt_81 : decode cX5_attempt 81 = .ok (.bipush 20, 2) := by decide +kernel
theorem dX5_attempt_83 : decode cX5_attempt 83 = .ok (.iushr, 1) := by decide +kernel
theorem dX5_attempt_84 : decode cX5_attempt 84 = .ok (.iload_n 3, 1) := by decide +kernel
theorem dX5_attempt_85 : decode cX5_attempt 85 = .ok (.irem, 1) := by decide +kernel
theorem dX5_attempt_86 : decode cX5_attempt 86 = .ok (.invokevirtual 160, 3) := by decide +kernel
theorem dX5_attempt_89 : decode cX5_attempt 89 = .ok (.istore 5, 2) := by decide +kernel
theorem dX5_attempt_91 : decode cX5_attempt 91 = .ok (.aload_n 0, 1) := by decide +kernel
theorem dX5_attempt_92 : decode cX5_attempt 92 = .ok (.getfield 47, 3) := by decide +kernel
theorem dX5_attempt_95 : decode cX5_attempt 95 = .ok (.bipush 96, 2) := by decide +kernel
theorem dX5_attempt_97 : decode cX5_attempt 97 = .ok (.iload 4, 2) := by decide +kernel
theorem dX5_attempt_99 : decode cX5_attempt 99 = .ok (.iadd, 1) := by decide +kernel
theorem dX5_attempt_100 : decode cX5_attempt 100 = .ok (.aload_n 0, 1) := by decide +kernel
theorem dX5_attempt_101 : decode cX5_attempt 101 = .ok (.getfield 47, 3) := by decide +kernel
theorem dX5_attempt_104 : decode cX5_attempt 104 = .ok (.bipush 16, 2) := by decide +kernel
theorem dX5_attempt_106 : decode cX5_attempt 106 = .ok (.iload_n 1, 1) := by decide +kernel
theorem dX5_attempt_107 : decode cX5_attempt 107 = .ok (.imul, 1) := by decide +kernel
theorem dX5_attempt_108 : decode cX5_attempt 108 = .ok (.iload 5, 2) := by decide +kernel
theorem dX5_attempt_110 : decode cX5_attempt 110 = .ok (.iadd, 1) := by decide +kernel
theorem dX5_attempt_111 : decode cX5_attempt 111 = .ok (.iaload, 1) := by decide +kernel
theorem dX5_attempt_112 : decode cX5_attempt 112 = .ok (.iastore, 1) := by decide +kernel
theorem dX5_attempt_113 : decode cX5_attempt 113 = .ok (.aload_n 0, 1) := by decide +kernel
theorem dX5_attempt_114 : decode cX5_attempt 114 = .ok (.getfield 47, 3) := by decide +kernel
theorem dX5_attempt_117 : decode cX5_attempt 117 = .ok (.bipush 96, 2) := by decide +kernel
theorem dX5_attempt_119 : decode cX5_attempt 119 = .ok (.iload 5, 2) := by decide +kernel
theorem dX5_attempt_121 : decode cX5_attempt 121 = .ok (.iadd, 1) := by decide +kernel
theorem dX5_attempt_122 : decode cX5_attempt 122 = .ok (.aload_n 0, 1) := by decide +kernel
theorem dX5_attempt_123 : decode cX5_attempt 123 = .ok (.getfield 47, 3) := by decide +kernel
theorem dX5_attempt_126 : decode cX5_attempt 126 = .ok (.bipush 16, 2) := by decide +kernel
theorem dX5_attempt_128 : decode cX5_attempt 128 = .ok (.iload_n 1, 1) := by decide +kernel
theorem dX5_attempt_129 : decode cX5_attempt 129 = .ok (.imul, 1) := by decide +kernel
theorem dX5_attempt_130 : decode cX5_attempt 130 = .ok (.iload 4, 2) := by decide +kernel
theorem dX5_attempt_132 : decode cX5_attempt 132 = .ok (.iadd, 1) := by decide +kernel
theorem dX5_attempt_133 : decode cX5_attempt 133 = .ok (.iaload, 1) := by decide +kernel
theorem dX5_attempt_134 : decode cX5_attempt 134 = .ok (.iastore, 1) := by decide +kernel
theorem dX5_attempt_135 : decode cX5_attempt 135 = .ok (.goto 35, 3) := by decide +kernel
theorem dX5_attempt_138 : decode cX5_attempt 138 = .ok (.iload_n 2, 1) := by decide +kernel
theorem dX5_attempt_139 : decode cX5_attempt 139 = .ok (.bipush 24, 2) := by decide +kernel
theorem dX5_attempt_141 : decode cX5_attempt 141 = .ok (.iushr, 1) := by decide +kernel
theorem dX5_attempt_142 : decode cX5_attempt 142 = .ok (.bipush 7, 2) := by decide +kernel
theorem dX5_attempt_144 : decode cX5_attempt 144 = .ok (.irem, 1) := by decide +kernel
theorem dX5_attempt_145 : decode cX5_attempt 145 = .ok (.istore 5, 2) := by decide +kernel
theorem dX5_attempt_147 : decode cX5_attempt 147 = .ok (.aload_n 0, 1) := by decide +kernel
theorem dX5_attempt_148 : decode cX5_attempt 148 = .ok (.getfield 47, 3) := by decide +kernel
theorem dX5_attempt_151 : decode cX5_attempt 151 = .ok (.bipush 96, 2) := by decide +kernel
theorem dX5_attempt_153 : decode cX5_attempt 153 = .ok (.iload 4, 2) := by decide +kernel
theorem dX5_attempt_155 : decode cX5_attempt 155 = .ok (.iadd, 1) := by decide +kernel
theorem dX5_attempt_156 : decode cX5_attempt 156 = .ok (.iload 5, 2) := by decide +kernel
theorem dX5_attempt_158 : decode cX5_attempt 158 = .ok (.bipush 6, 2) := by decide +kernel
theorem dX5_attempt_160 : decode cX5_attempt 160 = .ok (.if_icmp .ne 7, 3) := by decide +kernel
theorem dX5_attempt_163 : decode cX5_attempt 163 = .ok (.iconst (-1), 1) := by decide +kernel
theorem dX5_attempt_164 : decode cX5_attempt 164 = .ok (.goto 5, 3) := by decide +kernel
theorem dX5_attempt_167 : decode cX5_attempt 167 = .ok (.iload 5, 2) := by decide +kernel
theorem dX5_attempt_169 : decode cX5_attempt 169 = .ok (.iastore, 1) := by decide +kernel
theorem dX5_attempt_170 : decode cX5_attempt 170 = .ok (.aload_n 0, 1) := by decide +kernel
theorem dX5_attempt_171 : decode cX5_attempt 171 = .ok (.iload_n 1, 1) := by decide +kernel
theorem dX5_attempt_172 : decode cX5_attempt 172 = .ok (.iload_n 1, 1) := by decide +kernel
theorem dX5_attempt_173 : decode cX5_attempt 173 = .ok (.iload_n 1, 1) := by decide +kernel
theorem dX5_attempt_174 : decode cX5_attempt 174 = .ok (.invokevirtual 135, 3) := by decide +kernel
theorem dX5_attempt_177 : decode cX5_attempt 177 = .ok (.aload_n 0, 1) := by decide +kernel
theorem dX5_attempt_178 : decode cX5_attempt 178 = .ok (.getfield 119, 3) := by decide +kernel
theorem dX5_attempt_181 : decode cX5_attempt 181 = .ok (.istore 5, 2) := by decide +kernel
theorem dX5_attempt_183 : decode cX5_attempt 183 = .ok (.aload_n 0, 1) := by decide +kernel
theorem dX5_attempt_184 : decode cX5_attempt 184 = .ok (.getfield 122, 3) := by decide +kernel
theorem dX5_attempt_187 : decode cX5_attempt 187 = .ok (.istore 6, 2) := by decide +kernel
theorem dX5_attempt_189 : decode cX5_attempt 189 = .ok (.aload_n 0, 1) := by decide +kernel
theorem dX5_attempt_190 : decode cX5_attempt 190 = .ok (.bipush 6, 2) := by decide +kernel
theorem dX5_attempt_192 : decode cX5_attempt 192 = .ok (.iload_n 1, 1) := by decide +kernel
theorem dX5_attempt_193 : decode cX5_attempt 193 = .ok (.iload_n 1, 1) := by decide +kernel
theorem dX5_attempt_194 : decode cX5_attempt 194 = .ok (.invokevirtual 135, 3) := by decide +kernel
theorem dX5_attempt_197 : decode cX5_attempt 197 = .ok (.bipush 8, 2) := by decide +kernel
theorem dX5_attempt_199 : decode cX5_attempt 199 = .ok (.iload_n 1, 1) := by decide +kernel
theorem dX5_attempt_200 : decode cX5_attempt 200 = .ok (.imul, 1) := by decide +kernel
theorem dX5_attempt_201 : decode cX5_attempt 201 = .ok (.aload_n 0, 1) := by decide +kernel
theorem dX5_attempt_202 : decode cX5_attempt 202 = .ok (.getfield 53, 3) := by decide +kernel
theorem dX5_attempt_205 : decode cX5_attempt 205 = .ok (.iload_n 1, 1) := by decide +kernel
theorem dX5_attempt_206 : decode cX5_attempt 206 = .ok (.iaload, 1) := by decide +kernel
theorem dX5_attempt_207 : decode cX5_attempt 207 = .ok (.aload_n 0, 1) := by decide +kernel
theorem dX5_attempt_208 : decode cX5_attempt 208 = .ok (.getfield 59, 3) := by decide +kernel
theorem dX5_attempt_211 : decode cX5_attempt 211 = .ok (.iload_n 1, 1) := by decide +kernel
theorem dX5_attempt_212 : decode cX5_attempt 212 = .ok (.iaload, 1) := by decide +kernel
theorem dX5_attempt_213 : decode cX5_attempt 213 = .ok (.irem, 1) := by decide +kernel
theorem dX5_attempt_214 : decode cX5_attempt 214 = .ok (.iadd, 1) := by decide +kernel
theorem dX5_attempt_215 : decode cX5_attempt 215 = .ok (.istore 7, 2) := by decide +kernel
theorem dX5_attempt_217 : decode cX5_attempt 217 = .ok (.iload 5, 2) := by decide +kernel
theorem dX5_attempt_219 : decode cX5_attempt 219 = .ok (.iload 6, 2) := by decide +kernel
theorem dX5_attempt_221 : decode cX5_attempt 221 = .ok (.aload_n 0, 1) := by decide +kernel
theorem dX5_attempt_222 : decode cX5_attempt 222 = .ok (.getfield 119, 3) := by decide +kernel
theorem dX5_attempt_225 : decode cX5_attempt 225 = .ok (.aload_n 0, 1) := by decide +kernel
theorem dX5_attempt_226 : decode cX5_attempt 226 = .ok (.getfield 122, 3) := by decide +kernel
theorem dX5_attempt_229 : decode cX5_attempt 229 = .ok (.invokestatic 139, 3) := by decide +kernel
theorem dX5_attempt_232 : decode cX5_attempt 232 = .ok (.ifCond .eq 31, 3) := by decide +kernel
theorem dX5_attempt_235 : decode cX5_attempt 235 = .ok (.aload_n 0, 1) := by decide +kernel
theorem dX5_attempt_236 : decode cX5_attempt 236 = .ok (.getfield 62, 3) := by decide +kernel
theorem dX5_attempt_239 : decode cX5_attempt 239 = .ok (.iload 7, 2) := by decide +kernel
theorem dX5_attempt_241 : decode cX5_attempt 241 = .ok (.iaload, 1) := by decide +kernel
theorem dX5_attempt_242 : decode cX5_attempt 242 = .ok (.aload_n 0, 1) := by decide +kernel
theorem dX5_attempt_243 : decode cX5_attempt 243 = .ok (.getfield 65, 3) := by decide +kernel
theorem dX5_attempt_246 : decode cX5_attempt 246 = .ok (.iload 7, 2) := by decide +kernel
theorem dX5_attempt_248 : decode cX5_attempt 248 = .ok (.iaload, 1) := by decide +kernel
theorem dX5_attempt_249 : decode cX5_attempt 249 = .ok (.aload_n 0, 1) := by decide +kernel
theorem dX5_attempt_250 : decode cX5_attempt 250 = .ok (.getfield 119, 3) := by decide +kernel
theorem dX5_attempt_253 : decode cX5_attempt 253 = .ok (.aload_n 0, 1) := by decide +kernel
theorem dX5_attempt_254 : decode cX5_attempt 254 = .ok (.getfield 122, 3) := by decide +kernel
theorem dX5_attempt_257 : decode cX5_attempt 257 = .ok (.invokestatic 139, 3) := by decide +kernel
theorem dX5_attempt_260 : decode cX5_attempt 260 = .ok (.ifCond .ne 20, 3) := by decide +kernel
theorem dX5_attempt_263 : decode cX5_attempt 263 = .ok (.aload_n 0, 1) := by decide +kernel
theorem dX5_attempt_264 : decode cX5_attempt 264 = .ok (.bipush 6, 2) := by decide +kernel
theorem dX5_attempt_266 : decode cX5_attempt 266 = .ok (.iload_n 1, 1) := by decide +kernel
theorem dX5_attempt_267 : decode cX5_attempt 267 = .ok (.invokevirtual 143, 3) := by decide +kernel
theorem dX5_attempt_270 : decode cX5_attempt 270 = .ok (.aload_n 0, 1) := by decide +kernel
theorem dX5_attempt_271 : decode cX5_attempt 271 = .ok (.getfield 68, 3) := by decide +kernel
theorem dX5_attempt_274 : decode cX5_attempt 274 = .ok (.iload_n 1, 1) := by decide +kernel
theorem dX5_attempt_275 : decode cX5_attempt 275 = .ok (.dup2, 1) := by decide +kernel
theorem dX5_attempt_276 : decode cX5_attempt 276 = .ok (.iaload, 1) := by decide +kernel
theorem dX5_attempt_277 : decode cX5_attempt 277 = .ok (.iconst 1, 1) := by decide +kernel
theorem dX5_attempt_278 : decode cX5_attempt 278 = .ok (.iadd, 1) := by decide +kernel
theorem dX5_attempt_279 : decode cX5_attempt 279 = .ok (.iastore, 1) := by decide +kernel
theorem dX5_attempt_280 : decode cX5_attempt 280 = .ok (.return_, 1) := by decide +kernel
theorem dX5_step_0 : decode cX5_step 0 = .ok (.aload_n 0, 1) := by decide +kernel
theorem dX5_step_1 : decode cX5_step 1 = .ok (.iload_n 1, 1) := by decide +kernel
theorem dX5_step_2 : decode cX5_step 2 = .ok (.invokevirtual 149, 3) := by decide +kernel
theorem dX5_step_5 : decode cX5_step 5 = .ok (.ifCond .eq 14, 3) := by decide +kernel
theorem dX5_step_8 : decode cX5_step 8 = .ok (.iload_n 2, 1) := by decide +kernel
theorem dX5_step_9 : decode cX5_step 9 = .ok (.iconst 0, 1) := by decide +kernel
theorem dX5_step_10 : decode cX5_step 10 = .ok (.sipush 200, 3) := by decide +kernel
theorem dX5_step_13 : decode cX5_step 13 = .ok (.invokestatic 101, 3) := by decide +kernel
theorem dX5_step_16 : decode cX5_step 16 = .ok (.ifCond .ne 6, 3) := by decide +kernel
theorem dX5_step_19 : decode cX5_step 19 = .ok (.bipush (-2), 2) := by decide +kernel
theorem dX5_step_21 : decode cX5_step 21 = .ok (.ireturn, 1) := by decide +kernel
theorem dX5_step_22 : decode cX5_step 22 = .ok (.aload_n 0, 1) := by decide +kernel
theorem dX5_step_23 : decode cX5_step 23 = .ok (.iload_n 1, 1) := by decide +kernel
theorem dX5_step_24 : decode cX5_step 24 = .ok (.aload_n 0, 1) := by decide +kernel
theorem dX5_step_25 : decode cX5_step 25 = .ok (.getfield 97, 3) := by decide +kernel
theorem dX5_step_28 : decode cX5_step 28 = .ok (.invokevirtual 152, 3) := by decide +kernel
theorem dX5_step_31 : decode cX5_step 31 = .ok (.istore_n 3, 1) := by decide +kernel
theorem dX5_step_32 : decode cX5_step 32 = .ok (.aload_n 0, 1) := by decide +kernel
theorem dX5_step_33 : decode cX5_step 33 = .ok (.getfield 68, 3) := by decide +kernel
theorem dX5_step_36 : decode cX5_step 36 = .ok (.iload_n 1, 1) := by decide +kernel
theorem dX5_step_37 : decode cX5_step 37 = .ok (.iaload, 1) := by decide +kernel
theorem dX5_step_38 : decode cX5_step 38 = .ok (.istore 4, 2) := by decide +kernel
theorem dX5_step_40 : decode cX5_step 40 = .ok (.iconst 0, 1) := by decide +kernel
theorem dX5_step_41 : decode cX5_step 41 = .ok (.istore 5, 2) := by decide +kernel
theorem dX5_step_43 : decode cX5_step 43 = .ok (.iload 5, 2) := by decide +kernel
theorem dX5_step_45 : decode cX5_step 45 = .ok (.iload_n 2, 1) := by decide +kernel
theorem dX5_step_46 : decode cX5_step 46 = .ok (.if_icmp .ge 97, 3) := by decide +kernel
theorem dX5_step_49 : decode cX5_step 49 = .ok (.aload_n 0, 1) := by decide +kernel
theorem dX5_step_50 : decode cX5_step 50 = .ok (.getfield 56, 3) := by decide +kernel
theorem dX5_step_53 : decode cX5_step 53 = .ok (.iload_n 1, 1) := by decide +kernel
theorem dX5_step_54 : decode cX5_step 54 = .ok (.aload_n 0, 1) := by decide +kernel
theorem dX5_step_55 : decode cX5_step 55 = .ok (.getfield 56, 3) := by decide +kernel
theorem dX5_step_58 : decode cX5_step 58 = .ok (.iload_n 1, 1) := by decide +kernel
theorem dX5_step_59 : decode cX5_step 59 = .ok (.iaload, 1) := by decide +kernel
theorem dX5_step_60 : decode cX5_step 60 = .ok (.ldc 163, 2) := by decide +kernel
theorem dX5_step_62 : decode cX5_step 62 = .ok (.imul, 1) := by decide +kernel
theorem dX5_step_63 : decode cX5_step 63 = .ok (.sipush 12345, 3) := by decide +kernel
theorem dX5_step_66 : decode cX5_step 66 = .ok (.iadd, 1) := by decide +kernel
theorem dX5_step_67 : decode cX5_step 67 = .ok (.iastore, 1) := by decide +kernel
theorem dX5_step_68 : decode cX5_step 68 = .ok (.aload_n 0, 1) := by decide +kernel
theorem dX5_step_69 : decode cX5_step 69 = .ok (.iload_n 1, 1) := by decide +kernel
theorem dX5_step_70 : decode cX5_step 70 = .ok (.invokevirtual 164, 3) := by decide +kernel
theorem dX5_step_73 : decode cX5_step 73 = .ok (.aload_n 0, 1) := by decide +kernel
theorem dX5_step_74 : decode cX5_step 74 = .ok (.iload_n 1, 1) := by decide +kernel
theorem dX5_step_75 : decode cX5_step 75 = .ok (.iload_n 1, 1) := by decide +kernel
theorem dX5_step_76 : decode cX5_step 76 = .ok (.iload_n 1, 1) := by decide +kernel
theorem dX5_step_77 : decode cX5_step 77 = .ok (.invokevirtual 135, 3) := by decide +kernel
theorem dX5_step_80 : decode cX5_step 80 = .ok (.bipush 8, 2) := by decide +kernel
theorem dX5_step_82 : decode cX5_step 82 = .ok (.iload_n 1, 1) := by decide +kernel
theorem dX5_step_83 : decode cX5_step 83 = .ok (.imul, 1) := by decide +kernel
theorem dX5_step_84 : decode cX5_step 84 = .ok (.aload_n 0, 1) := by decide +kernel
theorem dX5_step_85 : decode cX5_step 85 = .ok (.getfield 53, 3) := by decide +kernel
theorem dX5_step_88 : decode cX5_step 88 = .ok (.iload_n 1, 1) := by decide +kernel
theorem dX5_step_89 : decode cX5_step 89 = .ok (.iaload, 1) := by decide +kernel
theorem dX5_step_90 : decode cX5_step 90 = .ok (.aload_n 0, 1) := by decide +kernel
theorem dX5_step_91 : decode cX5_step 91 = .ok (.getfield 59, 3) := by decide +kernel
theorem dX5_step_94 : decode cX5_step 94 = .ok (.iload_n 1, 1) := by decide +kernel
theorem dX5_step_95 : decode cX5_step 95 = .ok (.iaload, 1) := by decide +kernel
theorem dX5_step_96 : decode cX5_step 96 = .ok (.irem, 1) := by decide +kernel
theorem dX5_step_97 : decode cX5_step 97 = .ok (.iadd, 1) := by decide +kernel
theorem dX5_step_98 : decode cX5_step 98 = .ok (.istore 6, 2) := by decide +kernel
theorem dX5_step_100 : decode cX5_step 100 = .ok (.aload_n 0, 1) := by decide +kernel
theorem dX5_step_101 : decode cX5_step 101 = .ok (.getfield 62, 3) := by decide +kernel
theorem dX5_step_104 : decode cX5_step 104 = .ok (.iload 6, 2) := by decide +kernel
theorem dX5_step_106 : decode cX5_step 106 = .ok (.aload_n 0, 1) := by decide +kernel
theorem dX5_step_107 : decode cX5_step 107 = .ok (.getfield 119, 3) := by decide +kernel
theorem dX5_step_110 : decode cX5_step 110 = .ok (.iastore, 1) := by decide +kernel
theorem dX5_step_111 : decode cX5_step 111 = .ok (.aload_n 0, 1) := by decide +kernel
theorem dX5_step_112 : decode cX5_step 112 = .ok (.getfield 65, 3) := by decide +kernel
theorem dX5_step_115 : decode cX5_step 115 = .ok (.iload 6, 2) := by decide +kernel
theorem dX5_step_117 : decode cX5_step 117 = .ok (.aload_n 0, 1) := by decide +kernel
theorem dX5_step_118 : decode cX5_step 118 = .ok (.getfield 122, 3) := by decide +kernel
theorem dX5_step_121 : decode cX5_step 121 = .ok (.iastore, 1) := by decide +kernel
theorem dX5_step_122 : decode cX5_step 122 = .ok (.aload_n 0, 1) := by decide +kernel
theorem dX5_step_123 : decode cX5_step 123 = .ok (.iload_n 1, 1) := by decide +kernel
theorem dX5_step_124 : decode cX5_step 124 = .ok (.invokevirtual 146, 3) := by decide +kernel
theorem dX5_step_127 : decode cX5_step 127 = .ok (.aload_n 0, 1) := by decide +kernel
theorem dX5_step_128 : decode cX5_step 128 = .ok (.getfield 53, 3) := by decide +kernel
theorem dX5_step_131 : decode cX5_step 131 = .ok (.iload_n 1, 1) := by decide +kernel
theorem dX5_step_132 : decode cX5_step 132 = .ok (.dup2, 1) := by decide +kernel
theorem dX5_step_133 : decode cX5_step 133 = .ok (.iaload, 1) := by decide +kernel
theorem dX5_step_134 : decode cX5_step 134 = .ok (.iconst 1, 1) := by decide +kernel
theorem dX5_step_135 : decode cX5_step 135 = .ok (.iadd, 1) := by decide +kernel
theorem dX5_step_136 : decode cX5_step 136 = .ok (.iastore, 1) := by decide +kernel
theorem dX5_step_137 : decode cX5_step 137 = .ok (.iinc 5 1, 3) := by decide +kernel
theorem dX5_step_140 : decode cX5_step 140 = .ok (.goto (-97), 3) := by decide +kernel
theorem dX5_step_143 : decode cX5_step 143 = .ok (.aload_n 0, 1) := by decide +kernel
theorem dX5_step_144 : decode cX5_step 144 = .ok (.getfield 68, 3) := by decide +kernel
theorem dX5_step_147 : decode cX5_step 147 = .ok (.iload_n 1, 1) := by decide +kernel
theorem dX5_step_148 : decode cX5_step 148 = .ok (.iaload, 1) := by decide +kernel
theorem dX5_step_149 : decode cX5_step 149 = .ok (.iload 4, 2) := by decide +kernel
theorem dX5_step_151 : decode cX5_step 151 = .ok (.isub, 1) := by decide +kernel
theorem dX5_step_152 : decode cX5_step 152 = .ok (.ireturn, 1) := by decide +kernel
theorem dX5_mark_0 : decode cX5_mark 0 = .ok (.aload_n 0, 1) := by decide +kernel
theorem dX5_mark_1 : decode cX5_mark 1 = .ok (.iload_n 1, 1) := by decide +kernel
theorem dX5_mark_2 : decode cX5_mark 2 = .ok (.invokevirtual 149, 3) := by decide +kernel
theorem dX5_mark_5 : decode cX5_mark 5 = .ok (.ifCond .eq 12, 3) := by decide +kernel
theorem dX5_mark_8 : decode cX5_mark 8 = .ok (.iload_n 2, 1) := by decide +kernel
theorem dX5_mark_9 : decode cX5_mark 9 = .ok (.iconst 0, 1) := by decide +kernel
theorem dX5_mark_10 : decode cX5_mark 10 = .ok (.iconst 1, 1) := by decide +kernel
theorem dX5_mark_11 : decode cX5_mark 11 = .ok (.invokestatic 101, 3) := by decide +kernel
theorem dX5_mark_14 : decode cX5_mark 14 = .ok (.ifCond .ne 6, 3) := by decide +kernel
theorem dX5_mark_17 : decode cX5_mark 17 = .ok (.bipush (-2), 2) := by decide +kernel
theorem dX5_mark_19 : decode cX5_mark 19 = .ok (.ireturn, 1) := by decide +kernel
theorem dX5_mark_20 : decode cX5_mark 20 = .ok (.iconst 2, 1) := by decide +kernel
theorem dX5_mark_21 : decode cX5_mark 21 = .ok (.iload_n 1, 1) := by decide +kernel
theorem dX5_mark_22 : decode cX5_mark 22 = .ok (.imul, 1) := by decide +kernel
theorem dX5_mark_23 : decode cX5_mark 23 = .ok (.iload_n 2, 1) := by decide +kernel
theorem dX5_mark_24 : decode cX5_mark 24 = .ok (.iadd, 1) := by decide +kernel
theorem dX5_mark_25 : decode cX5_mark 25 = .ok (.istore_n 3, 1) := by decide +kernel
theorem dX5_mark_26 : decode cX5_mark 26 = .ok (.aload_n 0, 1) := by decide +kernel
theorem dX5_mark_27 : decode cX5_mark 27 = .ok (.getfield 74, 3) := by decide +kernel
theorem dX5_mark_30 : decode cX5_mark 30 = .ok (.iload_n 3, 1) := by decide +kernel
theorem dX5_mark_31 : decode cX5_mark 31 = .ok (.iconst 1, 1) := by decide +kernel
theorem dX5_mark_32 : decode cX5_mark 32 = .ok (.bastore, 1) := by decide +kernel
theorem dX5_mark_33 : decode cX5_mark 33 = .ok (.aload_n 0, 1) := by decide +kernel
theorem dX5_mark_34 : decode cX5_mark 34 = .ok (.getfield 77, 3) := by decide +kernel
theorem dX5_mark_37 : decode cX5_mark 37 = .ok (.iload_n 3, 1) := by decide +kernel
theorem dX5_mark_38 : decode cX5_mark 38 = .ok (.aload_n 0, 1) := by decide +kernel
theorem dX5_mark_39 : decode cX5_mark 39 = .ok (.getfield 50, 3) := by decide +kernel
theorem dX5_mark_42 : decode cX5_mark 42 = .ok (.iload_n 1, 1) := by decide +kernel
theorem dX5_mark_43 : decode cX5_mark 43 = .ok (.iaload, 1) := by decide +kernel
theorem dX5_mark_44 : decode cX5_mark 44 = .ok (.iastore, 1) := by decide +kernel
theorem dX5_mark_45 : decode cX5_mark 45 = .ok (.aload_n 0, 1) := by decide +kernel
theorem dX5_mark_46 : decode cX5_mark 46 = .ok (.iload_n 1, 1) := by decide +kernel
theorem dX5_mark_47 : decode cX5_mark 47 = .ok (.bipush 7, 2) := by decide +kernel
theorem dX5_mark_49 : decode cX5_mark 49 = .ok (.iconst 2, 1) := by decide +kernel
theorem dX5_mark_50 : decode cX5_mark 50 = .ok (.iload_n 3, 1) := by decide +kernel
theorem dX5_mark_51 : decode cX5_mark 51 = .ok (.imul, 1) := by decide +kernel
theorem dX5_mark_52 : decode cX5_mark 52 = .ok (.iadd, 1) := by decide +kernel
theorem dX5_mark_53 : decode cX5_mark 53 = .ok (.invokevirtual 143, 3) := by decide +kernel
theorem dX5_mark_56 : decode cX5_mark 56 = .ok (.aload_n 0, 1) := by decide +kernel
theorem dX5_mark_57 : decode cX5_mark 57 = .ok (.iconst 3, 1) := by decide +kernel
theorem dX5_mark_58 : decode cX5_mark 58 = .ok (.iload_n 1, 1) := by decide +kernel
theorem dX5_mark_59 : decode cX5_mark 59 = .ok (.iadd, 1) := by decide +kernel
theorem dX5_mark_60 : decode cX5_mark 60 = .ok (.bipush 8, 2) := by decide +kernel
theorem dX5_mark_62 : decode cX5_mark 62 = .ok (.iconst 2, 1) := by decide +kernel
theorem dX5_mark_63 : decode cX5_mark 63 = .ok (.iload_n 3, 1) := by decide +kernel
theorem dX5_mark_64 : decode cX5_mark 64 = .ok (.imul, 1) := by decide +kernel
theorem dX5_mark_65 : decode cX5_mark 65 = .ok (.iadd, 1) := by decide +kernel
theorem dX5_mark_66 : decode cX5_mark 66 = .ok (.invokevirtual 143, 3) := by decide +kernel
theorem dX5_mark_69 : decode cX5_mark 69 = .ok (.iconst 0, 1) := by decide +kernel
theorem dX5_mark_70 : decode cX5_mark 70 = .ok (.istore 4, 2) := by decide +kernel
theorem dX5_mark_72 : decode cX5_mark 72 = .ok (.iload 4, 2) := by decide +kernel
theorem dX5_mark_74 : decode cX5_mark 74 = .ok (.bipush 8, 2) := by decide +kernel
theorem dX5_mark_76 : decode cX5_mark 76 = .ok (.if_icmp .ge 57, 3) := by decide +kernel
theorem dX5_mark_79 : decode cX5_mark 79 = .ok (.aload_n 0, 1) := by decide +kernel
theorem dX5_mark_80 : decode cX5_mark 80 = .ok (.getfield 80, 3) := by decide +kernel
theorem dX5_mark_83 : decode cX5_mark 83 = .ok (.bipush 8, 2) := by decide +kernel
theorem dX5_mark_85 : decode cX5_mark 85 = .ok (.iload_n 3, 1) := by decide +kernel
theorem dX5_mark_86 : decode cX5_mark 86 = .ok (.imul, 1) := by decide +kernel
theorem dX5_mark_87 : decode cX5_mark 87 = .ok (.iload 4, 2) := by decide +kernel
theorem dX5_mark_89 : decode cX5_mark 89 = .ok (.iadd, 1) := by decide +kernel
theorem dX5_mark_90 : decode cX5_mark 90 = .ok (.aload_n 0, 1) := by decide +kernel
theorem dX5_mark_91 : decode cX5_mark 91 = .ok (.getfield 62, 3) := by decide +kernel
theorem dX5_mark_94 : decode cX5_mark 94 = .ok (.bipush 8, 2) := by decide +kernel
theorem dX5_mark_96 : decode cX5_mark 96 = .ok (.iload_n 1, 1) := by decide +kernel
theorem dX5_mark_97 : decode cX5_mark 97 = .ok (.imul, 1) := by decide +kernel
theorem dX5_mark_98 : decode cX5_mark 98 = .ok (.iload 4, 2) := by decide +kernel
theorem dX5_mark_100 : decode cX5_mark 100 = .ok (.iadd, 1) := by decide +kernel
theorem dX5_mark_101 : decode cX5_mark 101 = .ok (.iaload, 1) := by decide +kernel
theorem dX5_mark_102 : decode cX5_mark 102 = .ok (.iastore, 1) := by decide +kernel
theorem dX5_mark_103 : decode cX5_mark 103 = .ok (.aload_n 0, 1) := by decide +kernel
theorem dX5_mark_104 : decode cX5_mark 104 = .ok (.getfield 83, 3) := by decide +kernel
theorem dX5_mark_107 : decode cX5_mark 107 = .ok (.bipush 8, 2) := by decide +kernel
theorem dX5_mark_109 : decode cX5_mark 109 = .ok (.iload_n 3, 1) := by decide +kernel
theorem dX5_mark_110 : decode cX5_mark 110 = .ok (.imul, 1) := by decide +kernel
theorem dX5_mark_111 : decode cX5_mark 111 = .ok (.iload 4, 2) := by decide +kernel
theorem dX5_mark_113 : decode cX5_mark 113 = .ok (.iadd, 1) := by decide +kernel
theorem dX5_mark_114 : decode cX5_mark 114 = .ok (.aload_n 0, 1) := by decide +kernel
theorem dX5_mark_115 : decode cX5_mark 115 = .ok (.getfield 65, 3) := by decide +kernel
theorem dX5_mark_118 : decode cX5_mark 118 = .ok (.bipush 8, 2) := by decide +kernel
theorem dX5_mark_120 : decode cX5_mark 120 = .ok (.iload_n 1, 1) := by decide +kernel
theorem dX5_mark_121 : decode cX5_mark 121 = .ok (.imul, 1) := by decide +kernel
theorem dX5_mark_122 : decode cX5_mark 122 = .ok (.iload 4, 2) := by decide +kernel
theorem dX5_mark_124 : decode cX5_mark 124 = .ok (.iadd, 1) := by decide +kernel
theorem dX5_mark_125 : decode cX5_mark 125 = .ok (.iaload, 1) := by decide +kernel
theorem dX5_mark_126 : decode cX5_mark 126 = .ok (.iastore, 1) := by decide +kernel
theorem dX5_mark_127 : decode cX5_mark 127 = .ok (.iinc 4 1, 3) := by decide +kernel
theorem dX5_mark_130 : decode cX5_mark 130 = .ok (.goto (-58), 3) := by decide +kernel
theorem dX5_mark_133 : decode cX5_mark 133 = .ok (.aload_n 0, 1) := by decide +kernel
theorem dX5_mark_134 : decode cX5_mark 134 = .ok (.getfield 50, 3) := by decide +kernel
theorem dX5_mark_137 : decode cX5_mark 137 = .ok (.iload_n 1, 1) := by decide +kernel
theorem dX5_mark_138 : decode cX5_mark 138 = .ok (.iaload, 1) := by decide +kernel
theorem dX5_mark_139 : decode cX5_mark 139 = .ok (.ireturn, 1) := by decide +kernel
theorem dX5_back_0 : decode cX5_back 0 = .ok (.aload_n 0, 1) := by decide +kernel
theorem dX5_back_1 : decode cX5_back 1 = .ok (.iload_n 1, 1) := by decide +kernel
theorem dX5_back_2 : decode cX5_back 2 = .ok (.invokevirtual 149, 3) := by decide +kernel
theorem dX5_back_5 : decode cX5_back 5 = .ok (.ifCond .eq 12, 3) := by decide +kernel
theorem dX5_back_8 : decode cX5_back 8 = .ok (.iload_n 2, 1) := by decide +kernel
theorem dX5_back_9 : decode cX5_back 9 = .ok (.iconst 0, 1) := by decide +kernel
theorem dX5_back_10 : decode cX5_back 10 = .ok (.iconst 1, 1) := by decide +kernel
theorem dX5_back_11 : decode cX5_back 11 = .ok (.invokestatic 101, 3) := by decide +kernel
theorem dX5_back_14 : decode cX5_back 14 = .ok (.ifCond .ne 6, 3) := by decide +kernel
theorem dX5_back_17 : decode cX5_back 17 = .ok (.bipush (-2), 2) := by decide +kernel
theorem dX5_back_19 : decode cX5_back 19 = .ok (.ireturn, 1) := by decide +kernel
theorem dX5_back_20 : decode cX5_back 20 = .ok (.iconst 2, 1) := by decide +kernel
theorem dX5_back_21 : decode cX5_back 21 = .ok (.iload_n 1, 1) := by decide +kernel
theorem dX5_back_22 : decode cX5_back 22 = .ok (.imul, 1) := by decide +kernel
theorem dX5_back_23 : decode cX5_back 23 = .ok (.iload_n 2, 1) := by decide +kernel
theorem dX5_back_24 : decode cX5_back 24 = .ok (.iadd, 1) := by decide +kernel
theorem dX5_back_25 : decode cX5_back 25 = .ok (.istore_n 3, 1) := by decide +kernel
theorem dX5_back_26 : decode cX5_back 26 = .ok (.aload_n 0, 1) := by decide +kernel
theorem dX5_back_27 : decode cX5_back 27 = .ok (.getfield 74, 3) := by decide +kernel
theorem dX5_back_30 : decode cX5_back 30 = .ok (.iload_n 3, 1) := by decide +kernel
theorem dX5_back_31 : decode cX5_back 31 = .ok (.baload, 1) := by decide +kernel
theorem dX5_back_32 : decode cX5_back 32 = .ok (.ifCond .ne 6, 3) := by decide +kernel
theorem dX5_back_35 : decode cX5_back 35 = .ok (.bipush (-3), 2) := by decide +kernel
theorem dX5_back_37 : decode cX5_back 37 = .ok (.ireturn, 1) := by decide +kernel
theorem dX5_back_38 : decode cX5_back 38 = .ok (.aload_n 0, 1) := by decide +kernel
theorem dX5_back_39 : decode cX5_back 39 = .ok (.getfield 50, 3) := by decide +kernel
theorem dX5_back_42 : decode cX5_back 42 = .ok (.iload_n 1, 1) := by decide +kernel
theorem dX5_back_43 : decode cX5_back 43 = .ok (.iaload, 1) := by decide +kernel
theorem dX5_back_44 : decode cX5_back 44 = .ok (.istore 4, 2) := by decide +kernel
theorem dX5_back_46 : decode cX5_back 46 = .ok (.aload_n 0, 1) := by decide +kernel
theorem dX5_back_47 : decode cX5_back 47 = .ok (.getfield 50, 3) := by decide +kernel
theorem dX5_back_50 : decode cX5_back 50 = .ok (.iload_n 1, 1) := by decide +kernel
theorem dX5_back_51 : decode cX5_back 51 = .ok (.aload_n 0, 1) := by decide +kernel
theorem dX5_back_52 : decode cX5_back 52 = .ok (.getfield 77, 3) := by decide +kernel
theorem dX5_back_55 : decode cX5_back 55 = .ok (.iload_n 3, 1) := by decide +kernel
theorem dX5_back_56 : decode cX5_back 56 = .ok (.iaload, 1) := by decide +kernel
theorem dX5_back_57 : decode cX5_back 57 = .ok (.iastore, 1) := by decide +kernel
theorem dX5_back_58 : decode cX5_back 58 = .ok (.aload_n 0, 1) := by decide +kernel
theorem dX5_back_59 : decode cX5_back 59 = .ok (.iload_n 1, 1) := by decide +kernel
theorem dX5_back_60 : decode cX5_back 60 = .ok (.aload_n 0, 1) := by decide +kernel
theorem dX5_back_61 : decode cX5_back 61 = .ok (.getfield 50, 3) := by decide +kernel
theorem dX5_back_64 : decode cX5_back 64 = .ok (.iload_n 1, 1) := by decide +kernel
theorem dX5_back_65 : decode cX5_back 65 = .ok (.iaload, 1) := by decide +kernel
theorem dX5_back_66 : decode cX5_back 66 = .ok (.invokevirtual 167, 3) := by decide +kernel
theorem dX5_back_69 : decode cX5_back 69 = .ok (.aload_n 0, 1) := by decide +kernel
theorem dX5_back_70 : decode cX5_back 70 = .ok (.bipush 7, 2) := by decide +kernel
theorem dX5_back_72 : decode cX5_back 72 = .ok (.iconst 2, 1) := by decide +kernel
theorem dX5_back_73 : decode cX5_back 73 = .ok (.iload_n 3, 1) := by decide +kernel
theorem dX5_back_74 : decode cX5_back 74 = .ok (.imul, 1) := by decide +kernel
theorem dX5_back_75 : decode cX5_back 75 = .ok (.iadd, 1) := by decide +kernel
theorem dX5_back_76 : decode cX5_back 76 = .ok (.iload_n 1, 1) := by decide +kernel
theorem dX5_back_77 : decode cX5_back 77 = .ok (.invokevirtual 143, 3) := by decide +kernel
theorem dX5_back_80 : decode cX5_back 80 = .ok (.aload_n 0, 1) := by decide +kernel
theorem dX5_back_81 : decode cX5_back 81 = .ok (.bipush 8, 2) := by decide +kernel
theorem dX5_back_83 : decode cX5_back 83 = .ok (.iconst 2, 1) := by decide +kernel
theorem dX5_back_84 : decode cX5_back 84 = .ok (.iload_n 3, 1) := by decide +kernel
theorem dX5_back_85 : decode cX5_back 85 = .ok (.imul, 1) := by decide +kernel
theorem dX5_back_86 : decode cX5_back 86 = .ok (.iadd, 1) := by decide +kernel
theorem dX5_back_87 : decode cX5_back 87 = .ok (.iconst 3, 1) := by decide +kernel
theorem dX5_back_88 : decode cX5_back 88 = .ok (.iload_n 1, 1) := by decide +kernel
theorem dX5_back_89 : decode cX5_back 89 = .ok (.iadd, 1) := by decide +kernel
theorem dX5_back_90 : decode cX5_back 90 = .ok (.invokevirtual 143, 3) := by decide +kernel
theorem dX5_back_93 : decode cX5_back 93 = .ok (.iconst 0, 1) := by decide +kernel
theorem dX5_back_94 : decode cX5_back 94 = .ok (.istore 5, 2) := by decide +kernel
theorem dX5_back_96 : decode cX5_back 96 = .ok (.iload 5, 2) := by decide +kernel
theorem dX5_back_98 : decode cX5_back 98 = .ok (.bipush 8, 2) := by decide +kernel
theorem dX5_back_100 : decode cX5_back 100 = .ok (.if_icmp .ge 57, 3) := by decide +kernel
theorem dX5_back_103 : decode cX5_back 103 = .ok (.aload_n 0, 1) := by decide +kernel
theorem dX5_back_104 : decode cX5_back 104 = .ok (.getfield 62, 3) := by decide +kernel
theorem dX5_back_107 : decode cX5_back 107 = .ok (.bipush 8, 2) := by decide +kernel
theorem dX5_back_109 : decode cX5_back 109 = .ok (.iload_n 1, 1) := by decide +kernel
