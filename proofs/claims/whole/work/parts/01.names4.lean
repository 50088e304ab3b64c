theorem dX5_back_110 : decode cX5_back 110 = .ok (.imul, 1) := by decide +kernel
theorem dX5_back_111 : decode cX5_back 111 = .ok (.iload 5, 2) := by decide +kernel
theorem dX5_back_113 : decode cX5_back 113 = .ok (.iadd, 1) := by decide +kernel
theorem dX5_back_114 : decode cX5_back 114 = .ok (.aload_n 0, 1) := by decide +kernel
theorem dX5_back_115 : decode cX5_back 115 = .ok (.getfield 80, 3) := by decide +kernel
theorem dX5_back_118 : decode cX5_back 118 = .ok (.bipush 8, 2) := by decide +kernel
theorem dX5_back_120 : decode cX5_back 120 = .ok (.iload_n 3, 1) := by decide +kernel
theorem dX5_back_121 : decode cX5_back 121 = .ok (.imul, 1) := by decide +kernel
theorem dX5_back_122 : decode cX5_back 122 = .ok (.iload 5, 2) := by decide +kernel
theorem dX5_back_124 : decode cX5_back 124 = .ok (.iadd, 1) := by decide +kernel
theorem dX5_back_125 : decode cX5_back 125 = .ok (.iaload, 1) := by decide +kernel
theorem dX5_back_126 : decode cX5_back 126 = .ok (.iastore, 1) := by decide +kernel
theorem dX5_back_127 : decode cX5_back 127 = .ok (.aload_n 0, 1) := by decide +kernel
theorem dX5_back_128 : decode cX5_back 128 = .ok (.getfield 65, 3) := by decide +kernel
theorem dX5_back_131 : decode cX5_back 131 = .ok (.bipush 8, 2) := by decide +kernel
theorem dX5_back_133 : decode cX5_back 133 = .ok (.iload_n 1, 1) := by decide +kernel
theorem dX5_back_134 : decode cX5_back 134 = .ok (.imul, 1) := by decide +kernel
theorem dX5_back_135 : decode cX5_back 135 = .ok (.iload 5, 2) := by decide +kernel
theorem dX5_back_137 : decode cX5_back 137 = .ok (.iadd, 1) := by decide +kernel
theorem dX5_back_138 : decode cX5_back 138 = .ok (.aload_n 0, 1) := by decide +kernel
theorem dX5_back_139 : decode cX5_back 139 = .ok (.getfield 83, 3) := by decide +kernel
theorem dX5_back_142 : decode cX5_back 142 = .ok (.bipush 8, 2) := by decide +kernel
theorem dX5_back_144 : decode cX5_back 144 = .ok (.iload_n 3, 1) := by decide +kernel
theorem dX5_back_145 : decode cX5_back 145 = .ok (.imul, 1) := by decide +kernel
theorem dX5_back_146 : decode cX5_back 146 = .ok (.iload 5, 2) := by decide +kernel
theorem dX5_back_148 : decode cX5_back 148 = .ok (.iadd, 1) := by decide +kernel
theorem dX5_back_149 : decode cX5_back 149 = .ok (.iaload, 1) := by decide +kernel
theorem dX5_back_150 : decode cX5_back 150 = .ok (.iastore, 1) := by decide +kernel
theorem dX5_back_151 : decode cX5_back 151 = .ok (.iinc 5 1, 3) := by decide +kernel
theorem dX5_back_154 : decode cX5_back 154 = .ok (.goto (-58), 3) := by decide +kernel
theorem dX5_back_157 : decode cX5_back 157 = .ok (.aload_n 0, 1) := by decide +kernel
theorem dX5_back_158 : decode cX5_back 158 = .ok (.iload_n 1, 1) := by decide +kernel
theorem dX5_back_159 : decode cX5_back 159 = .ok (.iload 4, 2) := by decide +kernel
theorem dX5_back_161 : decode cX5_back 161 = .ok (.invokevirtual 152, 3) := by decide +kernel
theorem dX5_back_164 : decode cX5_back 164 = .ok (.istore 5, 2) := by decide +kernel
theorem dX5_back_166 : decode cX5_back 166 = .ok (.aload_n 0, 1) := by decide +kernel
theorem dX5_back_167 : decode cX5_back 167 = .ok (.getfield 77, 3) := by decide +kernel
theorem dX5_back_170 : decode cX5_back 170 = .ok (.iload_n 3, 1) := by decide +kernel
theorem dX5_back_171 : decode cX5_back 171 = .ok (.iaload, 1) := by decide +kernel
theorem dX5_back_172 : decode cX5_back 172 = .ok (.ireturn, 1) := by decide +kernel
theorem dX5_room_0 : decode cX5_room 0 = .ok (.aload_n 0, 1) := by decide +kernel
theorem dX5_room_1 : decode cX5_room 1 = .ok (.iload_n 1, 1) := by decide +kernel
theorem dX5_room_2 : decode cX5_room 2 = .ok (.invokevirtual 149, 3) := by decide +kernel
theorem dX5_room_5 : decode cX5_room 5 = .ok (.ifCond .eq 13, 3) := by decide +kernel
theorem dX5_room_8 : decode cX5_room 8 = .ok (.iload_n 3, 1) := by decide +kernel
theorem dX5_room_9 : decode cX5_room 9 = .ok (.iconst 0, 1) := by decide +kernel
theorem dX5_room_10 : decode cX5_room 10 = .ok (.bipush 15, 2) := by decide +kernel
theorem dX5_room_12 : decode cX5_room 12 = .ok (.invokestatic 101, 3) := by decide +kernel
theorem dX5_room_15 : decode cX5_room 15 = .ok (.ifCond .ne 6, 3) := by decide +kernel
theorem dX5_room_18 : decode cX5_room 18 = .ok (.bipush (-2), 2) := by decide +kernel
theorem dX5_room_20 : decode cX5_room 20 = .ok (.ireturn, 1) := by decide +kernel
theorem dX5_room_21 : decode cX5_room 21 = .ok (.aload_n 0, 1) := by decide +kernel
theorem dX5_room_22 : decode cX5_room 22 = .ok (.getfield 25, 3) := by decide +kernel
theorem dX5_room_25 : decode cX5_room 25 = .ok (.bipush 16, 2) := by decide +kernel
theorem dX5_room_27 : decode cX5_room 27 = .ok (.iload_n 1, 1) := by decide +kernel
theorem dX5_room_28 : decode cX5_room 28 = .ok (.imul, 1) := by decide +kernel
theorem dX5_room_29 : decode cX5_room 29 = .ok (.iload_n 3, 1) := by decide +kernel
theorem dX5_room_30 : decode cX5_room 30 = .ok (.iadd, 1) := by decide +kernel
theorem dX5_room_31 : decode cX5_room 31 = .ok (.baload, 1) := by decide +kernel
theorem dX5_room_32 : decode cX5_room 32 = .ok (.ifCond .eq 27, 3) := by decide +kernel
theorem dX5_room_35 : decode cX5_room 35 = .ok (.aload_n 0, 1) := by decide +kernel
theorem dX5_room_36 : decode cX5_room 36 = .ok (.getfield 47, 3) := by decide +kernel
theorem dX5_room_39 : decode cX5_room 39 = .ok (.bipush 16, 2) := by decide +kernel
theorem dX5_room_41 : decode cX5_room 41 = .ok (.iload_n 2, 1) := by decide +kernel
theorem dX5_room_42 : decode cX5_room 42 = .ok (.ifCond .eq 9, 3) := by decide +kernel
theorem dX5_room_45 : decode cX5_room 45 = .ok (.iconst 3, 1) := by decide +kernel
theorem dX5_room_46 : decode cX5_room 46 = .ok (.iload_n 1, 1) := by decide +kernel
theorem dX5_room_47 : decode cX5_room 47 = .ok (.iadd, 1) := by decide +kernel
theorem dX5_room_48 : decode cX5_room 48 = .ok (.goto 4, 3) := by decide +kernel
theorem dX5_room_51 : decode cX5_room 51 = .ok (.iload_n 1, 1) := by decide +kernel
theorem dX5_room_52 : decode cX5_room 52 = .ok (.imul, 1) := by decide +kernel
theorem dX5_room_53 : decode cX5_room 53 = .ok (.iload_n 3, 1) := by decide +kernel
theorem dX5_room_54 : decode cX5_room 54 = .ok (.iadd, 1) := by decide +kernel
theorem dX5_room_55 : decode cX5_room 55 = .ok (.iaload, 1) := by decide +kernel
theorem dX5_room_56 : decode cX5_room 56 = .ok (.goto 5, 3) := by decide +kernel
theorem dX5_room_59 : decode cX5_room 59 = .ok (.bipush (-3), 2) := by decide +kernel
theorem dX5_room_61 : decode cX5_room 61 = .ok (.ireturn, 1) := by decide +kernel
theorem dX5_score_0 : decode cX5_score 0 = .ok (.aload_n 0, 1) := by decide +kernel
theorem dX5_score_1 : decode cX5_score 1 = .ok (.iload_n 1, 1) := by decide +kernel
theorem dX5_score_2 : decode cX5_score 2 = .ok (.invokevirtual 149, 3) := by decide +kernel
theorem dX5_score_5 : decode cX5_score 5 = .ok (.ifCond .ne 6, 3) := by decide +kernel
theorem dX5_score_8 : decode cX5_score 8 = .ok (.bipush (-2), 2) := by decide +kernel
theorem dX5_score_10 : decode cX5_score 10 = .ok (.ireturn, 1) := by decide +kernel
theorem dX5_score_11 : decode cX5_score 11 = .ok (.aload_n 0, 1) := by decide +kernel
theorem dX5_score_12 : decode cX5_score 12 = .ok (.iload_n 2, 1) := by decide +kernel
theorem dX5_score_13 : decode cX5_score 13 = .ok (.ifCond .eq 9, 3) := by decide +kernel
theorem dX5_score_16 : decode cX5_score 16 = .ok (.iconst 3, 1) := by decide +kernel
theorem dX5_score_17 : decode cX5_score 17 = .ok (.iload_n 1, 1) := by decide +kernel
theorem dX5_score_18 : decode cX5_score 18 = .ok (.iadd, 1) := by decide +kernel
theorem dX5_score_19 : decode cX5_score 19 = .ok (.goto 4, 3) := by decide +kernel
theorem dX5_score_22 : decode cX5_score 22 = .ok (.iload_n 1, 1) := by decide +kernel
theorem dX5_score_23 : decode cX5_score 23 = .ok (.iload_n 1, 1) := by decide +kernel
theorem dX5_score_24 : decode cX5_score 24 = .ok (.iload_n 1, 1) := by decide +kernel
theorem dX5_score_25 : decode cX5_score 25 = .ok (.invokevirtual 135, 3) := by decide +kernel
theorem dX5_score_28 : decode cX5_score 28 = .ok (.iload_n 3, 1) := by decide +kernel
theorem dX5_score_29 : decode cX5_score 29 = .ok (.ifCond .eq 10, 3) := by decide +kernel
theorem dX5_score_32 : decode cX5_score 32 = .ok (.aload_n 0, 1) := by decide +kernel
theorem dX5_score_33 : decode cX5_score 33 = .ok (.getfield 119, 3) := by decide +kernel
theorem dX5_score_36 : decode cX5_score 36 = .ok (.goto 7, 3) := by decide +kernel
theorem dX5_score_39 : decode cX5_score 39 = .ok (.aload_n 0, 1) := by decide +kernel
theorem dX5_score_40 : decode cX5_score 40 = .ok (.getfield 122, 3) := by decide +kernel
theorem dX5_score_43 : decode cX5_score 43 = .ok (.ireturn, 1) := by decide +kernel
theorem dX5_scoreBy_0 : decode cX5_scoreBy 0 = .ok (.aload_n 0, 1) := by decide +kernel
theorem dX5_scoreBy_1 : decode cX5_scoreBy 1 = .ok (.iload_n 1, 1) := by decide +kernel
theorem dX5_scoreBy_2 : decode cX5_scoreBy 2 = .ok (.invokevirtual 149, 3) := by decide +kernel
theorem dX5_scoreBy_5 : decode cX5_scoreBy 5 = .ok (.ifCond .eq 16, 3) := by decide +kernel
theorem dX5_scoreBy_8 : decode cX5_scoreBy 8 = .ok (.iload 4, 2) := by decide +kernel
theorem dX5_scoreBy_10 : decode cX5_scoreBy 10 = .ok (.iconst 0, 1) := by decide +kernel
theorem dX5_scoreBy_11 : decode cX5_scoreBy 11 = .ok (.aload_n 0, 1) := by decide +kernel
theorem dX5_scoreBy_12 : decode cX5_scoreBy 12 = .ok (.getfield 97, 3) := by decide +kernel
theorem dX5_scoreBy_15 : decode cX5_scoreBy 15 = .ok (.invokestatic 101, 3) := by decide +kernel
theorem dX5_scoreBy_18 : decode cX5_scoreBy 18 = .ok (.ifCond .ne 6, 3) := by decide +kernel
theorem dX5_scoreBy_21 : decode cX5_scoreBy 21 = .ok (.bipush (-2), 2) := by decide +kernel
theorem dX5_scoreBy_23 : decode cX5_scoreBy 23 = .ok (.ireturn, 1) := by decide +kernel
theorem dX5_scoreBy_24 : decode cX5_scoreBy 24 = .ok (.aload_n 0, 1) := by decide +kernel
theorem dX5_scoreBy_25 : decode cX5_scoreBy 25 = .ok (.iconst 3, 1) := by decide +kernel
theorem dX5_scoreBy_26 : decode cX5_scoreBy 26 = .ok (.iload 4, 2) := by decide +kernel
theorem dX5_scoreBy_28 : decode cX5_scoreBy 28 = .ok (.invokevirtual 167, 3) := by decide +kernel
theorem dX5_scoreBy_31 : decode cX5_scoreBy 31 = .ok (.aload_n 0, 1) := by decide +kernel
theorem dX5_scoreBy_32 : decode cX5_scoreBy 32 = .ok (.iload_n 2, 1) := by decide +kernel
theorem dX5_scoreBy_33 : decode cX5_scoreBy 33 = .ok (.ifCond .eq 9, 3) := by decide +kernel
theorem dX5_scoreBy_36 : decode cX5_scoreBy 36 = .ok (.iconst 3, 1) := by decide +kernel
theorem dX5_scoreBy_37 : decode cX5_scoreBy 37 = .ok (.iload_n 1, 1) := by decide +kernel
theorem dX5_scoreBy_38 : decode cX5_scoreBy 38 = .ok (.iadd, 1) := by decide +kernel
theorem dX5_scoreBy_39 : decode cX5_scoreBy 39 = .ok (.goto 4, 3) := by decide +kernel
theorem dX5_scoreBy_42 : decode cX5_scoreBy 42 = .ok (.iload_n 1, 1) := by decide +kernel
theorem dX5_scoreBy_43 : decode cX5_scoreBy 43 = .ok (.iconst 3, 1) := by decide +kernel
theorem dX5_scoreBy_44 : decode cX5_scoreBy 44 = .ok (.iload_n 1, 1) := by decide +kernel
theorem dX5_scoreBy_45 : decode cX5_scoreBy 45 = .ok (.invokevirtual 135, 3) := by decide +kernel
theorem dX5_scoreBy_48 : decode cX5_scoreBy 48 = .ok (.iload_n 3, 1) := by decide +kernel
theorem dX5_scoreBy_49 : decode cX5_scoreBy 49 = .ok (.ifCond .eq 10, 3) := by decide +kernel
theorem dX5_scoreBy_52 : decode cX5_scoreBy 52 = .ok (.aload_n 0, 1) := by decide +kernel
theorem dX5_scoreBy_53 : decode cX5_scoreBy 53 = .ok (.getfield 119, 3) := by decide +kernel
theorem dX5_scoreBy_56 : decode cX5_scoreBy 56 = .ok (.goto 7, 3) := by decide +kernel
theorem dX5_scoreBy_59 : decode cX5_scoreBy 59 = .ok (.aload_n 0, 1) := by decide +kernel
theorem dX5_scoreBy_60 : decode cX5_scoreBy 60 = .ok (.getfield 122, 3) := by decide +kernel
theorem dX5_scoreBy_63 : decode cX5_scoreBy 63 = .ok (.ireturn, 1) := by decide +kernel
theorem dX5_same_0 : decode cX5_same 0 = .ok (.aload_n 0, 1) := by decide +kernel
theorem dX5_same_1 : decode cX5_same 1 = .ok (.iload_n 1, 1) := by decide +kernel
theorem dX5_same_2 : decode cX5_same 2 = .ok (.invokevirtual 149, 3) := by decide +kernel
theorem dX5_same_5 : decode cX5_same 5 = .ok (.ifCond .eq 11, 3) := by decide +kernel
theorem dX5_same_8 : decode cX5_same 8 = .ok (.aload_n 0, 1) := by decide +kernel
theorem dX5_same_9 : decode cX5_same 9 = .ok (.iload_n 2, 1) := by decide +kernel
theorem dX5_same_10 : decode cX5_same 10 = .ok (.invokevirtual 149, 3) := by decide +kernel
theorem dX5_same_13 : decode cX5_same 13 = .ok (.ifCond .ne 6, 3) := by decide +kernel
theorem dX5_same_16 : decode cX5_same 16 = .ok (.bipush (-2), 2) := by decide +kernel
theorem dX5_same_18 : decode cX5_same 18 = .ok (.ireturn, 1) := by decide +kernel
theorem dX5_same_19 : decode cX5_same 19 = .ok (.aload_n 0, 1) := by decide +kernel
theorem dX5_same_20 : decode cX5_same 20 = .ok (.getfield 50, 3) := by decide +kernel
theorem dX5_same_23 : decode cX5_same 23 = .ok (.iload_n 1, 1) := by decide +kernel
theorem dX5_same_24 : decode cX5_same 24 = .ok (.iaload, 1) := by decide +kernel
theorem dX5_same_25 : decode cX5_same 25 = .ok (.aload_n 0, 1) := by decide +kernel
theorem dX5_same_26 : decode cX5_same 26 = .ok (.getfield 50, 3) := by decide +kernel
theorem dX5_same_29 : decode cX5_same 29 = .ok (.iload_n 2, 1) := by decide +kernel
theorem dX5_same_30 : decode cX5_same 30 = .ok (.iaload, 1) := by decide +kernel
theorem dX5_same_31 : decode cX5_same 31 = .ok (.if_icmp .ne 7, 3) := by decide +kernel
theorem dX5_same_34 : decode cX5_same 34 = .ok (.iconst 1, 1) := by decide +kernel
theorem dX5_same_35 : decode cX5_same 35 = .ok (.goto 4, 3) := by decide +kernel
theorem dX5_same_38 : decode cX5_same 38 = .ok (.iconst 0, 1) := by decide +kernel
theorem dX5_same_39 : decode cX5_same 39 = .ok (.istore_n 3, 1) := by decide +kernel
theorem dX5_same_40 : decode cX5_same 40 = .ok (.iconst 0, 1) := by decide +kernel
theorem dX5_same_41 : decode cX5_same 41 = .ok (.istore 4, 2) := by decide +kernel
theorem dX5_same_43 : decode cX5_same 43 = .ok (.iload 4, 2) := by decide +kernel
theorem dX5_same_45 : decode cX5_same 45 = .ok (.bipush 16, 2) := by decide +kernel
theorem dX5_same_47 : decode cX5_same 47 = .ok (.if_icmp .ge 92, 3) := by decide +kernel
theorem dX5_same_50 : decode cX5_same 50 = .ok (.iload_n 3, 1) := by decide +kernel
theorem dX5_same_51 : decode cX5_same 51 = .ok (.ifCond .eq 88, 3) := by decide +kernel
theorem dX5_same_54 : decode cX5_same 54 = .ok (.aload_n 0, 1) := by decide +kernel
theorem dX5_same_55 : decode cX5_same 55 = .ok (.getfield 25, 3) := by decide +kernel
theorem dX5_same_58 : decode cX5_same 58 = .ok (.bipush 16, 2) := by decide +kernel
theorem dX5_same_60 : decode cX5_same 60 = .ok (.iload_n 1, 1) := by decide +kernel
theorem dX5_same_61 : decode cX5_same 61 = .ok (.imul, 1) := by decide +kernel
theorem dX5_same_62 : decode cX5_same 62 = .ok (.iload 4, 2) := by decide +kernel
theorem dX5_same_64 : decode cX5_same 64 = .ok (.iadd, 1) := by decide +kernel
theorem dX5_same_65 : decode cX5_same 65 = .ok (.baload, 1) := by decide +kernel
theorem dX5_same_66 : decode cX5_same 66 = .ok (.ifCond .eq 61, 3) := by decide +kernel
theorem dX5_same_69 : decode cX5_same 69 = .ok (.aload_n 0, 1) := by decide +kernel
theorem dX5_same_70 : decode cX5_same 70 = .ok (.getfield 47, 3) := by decide +kernel
theorem dX5_same_73 : decode cX5_same 73 = .ok (.bipush 16, 2) := by decide +kernel
theorem dX5_same_75 : decode cX5_same 75 = .ok (.iload_n 1, 1) := by decide +kernel
theorem dX5_same_76 : decode cX5_same 76 = .ok (.imul, 1) := by decide +kernel
theorem dX5_same_77 : decode cX5_same 77 = .ok (.iload 4, 2) := by decide +kernel
theorem dX5_same_79 : decode cX5_same 79 = .ok (.iadd, 1) := by decide +kernel
theorem dX5_same_80 : decode cX5_same 80 = .ok (.iaload, 1) := by decide +kernel
theorem dX5_same_81 : decode cX5_same 81 = .ok (.aload_n 0, 1) := by decide +kernel
theorem dX5_same_82 : decode cX5_same 82 = .ok (.getfield 47, 3) := by decide +kernel
theorem dX5_same_85 : decode cX5_same 85 = .ok (.bipush 16, 2) := by decide +kernel
theorem dX5_same_87 : decode cX5_same 87 = .ok (.iload_n 2, 1) := by decide +kernel
theorem dX5_same_88 : decode cX5_same 88 = .ok (.imul, 1) := by decide +kernel
theorem dX5_same_89 : decode cX5_same 89 = .ok (.iload 4, 2) := by decide +kernel
theorem dX5_same_91 : decode cX5_same 91 = .ok (.iadd, 1) := by decide +kernel
theorem dX5_same_92 : decode cX5_same 92 = .ok (.iaload, 1) := by decide +kernel
theorem dX5_same_93 : decode cX5_same 93 = .ok (.if_icmp .ne 38, 3) := by decide +kernel
theorem dX5_same_96 : decode cX5_same 96 = .ok (.aload_n 0, 1) := by decide +kernel
theorem dX5_same_97 : decode cX5_same 97 = .ok (.getfield 47, 3) := by decide +kernel
theorem dX5_same_100 : decode cX5_same 100 = .ok (.bipush 16, 2) := by decide +kernel
theorem dX5_same_102 : decode cX5_same 102 = .ok (.iconst 3, 1) := by decide +kernel
theorem dX5_same_103 : decode cX5_same 103 = .ok (.iload_n 1, 1) := by decide +kernel
theorem dX5_same_104 : decode cX5_same 104 = .ok (.iadd, 1) := by decide +kernel
theorem dX5_same_105 : decode cX5_same 105 = .ok (.imul, 1) := by decide +kernel
theorem dX5_same_106 : decode cX5_same 106 = .ok (.iload 4, 2) := by decide +kernel
theorem dX5_same_108 : decode cX5_same 108 = .ok (.iadd, 1) := by decide +kernel
theorem dX5_same_109 : decode cX5_same 109 = .ok (.iaload, 1) := by decide +kernel
theorem dX5_same_110 : decode cX5_same 110 = .ok (.aload_n 0, 1) := by decide +kernel
theorem dX5_same_111 : decode cX5_same 111 = .ok (.getfield 47, 3) := by decide +kernel
theorem dX5_same_114 : decode cX5_same 114 = .ok (.bipush 16, 2) := by decide +kernel
theorem dX5_same_116 : decode cX5_same 116 = .ok (.iconst 3, 1) := by decide +kernel
theorem dX5_same_117 : decode cX5_same 117 = .ok (.iload_n 2, 1) := by decide +kernel
theorem dX5_same_118 : decode cX5_same 118 = .ok (.iadd, 1) := by decide +kernel
theorem dX5_same_119 : decode cX5_same 119 = .ok (.imul, 1) := by decide +kernel
theorem dX5_same_120 : decode cX5_same 120 = .ok (.iload 4, 2) := by decide +kernel
theorem dX5_same_122 : decode cX5_same 122 = .ok (.iadd, 1) := by decide +kernel
theorem dX5_same_123 : decode cX5_same 123 = .ok (.iaload, 1) := by decide +kernel
theorem dX5_same_124 : decode cX5_same 124 = .ok (.if_icmp .ne 7, 3) := by decide +kernel
theorem dX5_same_127 : decode cX5_same 127 = .ok (.iconst 1, 1) := by decide +kernel
theorem dX5_same_128 : decode cX5_same 128 = .ok (.goto 4, 3) := by decide +kernel
theorem dX5_same_131 : decode cX5_same 131 = .ok (.iconst 0, 1) := by decide +kernel
theorem dX5_same_132 : decode cX5_same 132 = .ok (.istore_n 3, 1) := by decide +kernel
theorem dX5_same_133 : decode cX5_same 133 = .ok (.iinc 4 1, 3) := by decide +kernel
theorem dX5_same_136 : decode cX5_same 136 = .ok (.goto (-93), 3) := by decide +kernel
theorem dX5_same_139 : decode cX5_same 139 = .ok (.iload_n 3, 1) := by decide +kernel
theorem dX5_same_140 : decode cX5_same 140 = .ok (.ifCond .eq 7, 3) := by decide +kernel
theorem dX5_same_143 : decode cX5_same 143 = .ok (.iconst 1, 1) := by decide +kernel
theorem dX5_same_144 : decode cX5_same 144 = .ok (.goto 4, 3) := by decide +kernel
theorem dX5_same_147 : decode cX5_same 147 = .ok (.iconst 0, 1) := by decide +kernel
theorem dX5_same_148 : decode cX5_same 148 = .ok (.ireturn, 1) := by decide +kernel
theorem dX5_told_0 : decode cX5_told 0 = .ok (.aload_n 0, 1) := by decide +kernel
theorem dX5_told_1 : decode cX5_told 1 = .ok (.iload_n 1, 1) := by decide +kernel
theorem dX5_told_2 : decode cX5_told 2 = .ok (.invokevirtual 149, 3) := by decide +kernel
theorem dX5_told_5 : decode cX5_told 5 = .ok (.ifCond .eq 13, 3) := by decide +kernel
theorem dX5_told_8 : decode cX5_told 8 = .ok (.iload_n 2, 1) := by decide +kernel
theorem dX5_told_9 : decode cX5_told 9 = .ok (.iconst 0, 1) := by decide +kernel
theorem dX5_told_10 : decode cX5_told 10 = .ok (.bipush 6, 2) := by decide +kernel
theorem dX5_told_12 : decode cX5_told 12 = .ok (.invokestatic 101, 3) := by decide +kernel
theorem dX5_told_15 : decode cX5_told 15 = .ok (.ifCond .ne 6, 3) := by decide +kernel
theorem dX5_told_18 : decode cX5_told 18 = .ok (.ldc 170, 2) := by decide +kernel
theorem dX5_told_20 : decode cX5_told 20 = .ok (.ireturn, 1) := by decide +kernel
theorem dX5_told_21 : decode cX5_told 21 = .ok (.bipush 8, 2) := by decide +kernel
theorem dX5_told_23 : decode cX5_told 23 = .ok (.iload_n 1, 1) := by decide +kernel
theorem dX5_told_24 : decode cX5_told 24 = .ok (.imul, 1) := by decide +kernel
theorem dX5_told_25 : decode cX5_told 25 = .ok (.aload_n 0, 1) := by decide +kernel
theorem dX5_told_26 : decode cX5_told 26 = .ok (.getfield 53, 3) := by decide +kernel
theorem dX5_told_29 : decode cX5_told 29 = .ok (.iload_n 1, 1) := by decide +kernel
theorem dX5_told_30 : decode cX5_told 30 = .ok (.iaload, 1) := by decide +kernel
theorem dX5_told_31 : decode cX5_told 31 = .ok (.aload_n 0, 1) := by decide +kernel
theorem dX5_told_32 : decode cX5_told 32 = .ok (.getfield 59, 3) := by decide +kernel
theorem dX5_told_35 : decode cX5_told 35 = .ok (.iload_n 1, 1) := by decide +kernel
theorem dX5_told_36 : decode cX5_told 36 = .ok (.iaload, 1) := by decide +kernel
theorem dX5_told_37 : decode cX5_told 37 = .ok (.irem, 1) := by decide +kernel
theorem dX5_told_38 : decode cX5_told 38 = .ok (.iadd, 1) := by decide +kernel
theorem dX5_told_39 : decode cX5_told 39 = .ok (.istore_n 3, 1) := by decide +kernel
theorem dX5_told_40 : decode cX5_told 40 = .ok (.iload_n 2, 1) := by decide +kernel
theorem dX5_told_41 : decode cX5_told 41 = .ok (.tableswitch 81 0 5 #[39, 46, 53, 60, 67, 74], 39) := by decide +kernel
theorem dX5_told_80 : decode cX5_told 80 = .ok (.aload_n 0, 1) := by decide +kernel
theorem dX5_told_81 : decode cX5_told 81 = .ok (.getfield 53, 3) := by decide +kernel
theorem dX5_told_84 : decode cX5_told 84 = .ok (.iload_n 1, 1) := by decide +kernel
theorem dX5_told_85 : decode cX5_told 85 = .ok (.iaload, 1) := by decide +kernel
theorem dX5_told_86 : decode cX5_told 86 = .ok (.ireturn, 1) := by decide +kernel
theorem dX5_told_87 : decode cX5_told 87 = .ok (.aload_n 0, 1) := by decide +kernel
theorem dX5_told_88 : decode cX5_told 88 = .ok (.getfield 50, 3) := by decide +kernel
theorem dX5_told_91 : decode cX5_told 91 = .ok (.iload_n 1, 1) := by decide +kernel
theorem dX5_told_92 : decode cX5_told 92 = .ok (.iaload, 1) := by decide +kernel
theorem dX5_told_93 : decode cX5_told 93 = .ok (.ireturn, 1) := by decide +kernel
theorem dX5_told_94 : decode cX5_told 94 = .ok (.aload_n 0, 1) := by decide +kernel
theorem dX5_told_95 : decode cX5_told 95 = .ok (.getfield 68, 3) := by decide +kernel
theorem dX5_told_98 : decode cX5_told 98 = .ok (.iload_n 1, 1) := by decide +kernel
theorem dX5_told_99 : decode cX5_told 99 = .ok (.iaload, 1) := by decide +kernel
theorem dX5_told_100 : decode cX5_told 100 = .ok (.ireturn, 1) := by decide +kernel
theorem dX5_told_101 : decode cX5_told 101 = .ok (.aload_n 0, 1) := by decide +kernel
theorem dX5_told_102 : decode cX5_told 102 = .ok (.getfield 71, 3) := by decide +kernel
theorem dX5_told_105 : decode cX5_told 105 = .ok (.iload_n 1, 1) := by decide +kernel
theorem dX5_told_106 : decode cX5_told 106 = .ok (.iaload, 1) := by decide +kernel
theorem dX5_told_107 : decode cX5_told 107 = .ok (.ireturn, 1) := by decide +kernel
theorem dX5_told_108 : decode cX5_told 108 = .ok (.aload_n 0, 1) := by decide +kernel
theorem dX5_told_109 : decode cX5_told 109 = .ok (.getfield 56, 3) := by decide +kernel
theorem dX5_told_112 : decode cX5_told 112 = .ok (.iload_n 1, 1) := by decide +kernel
theorem dX5_told_113 : decode cX5_told 113 = .ok (.iaload, 1) := by decide +kernel
theorem dX5_told_114 : decode cX5_told 114 = .ok (.ireturn, 1) := by decide +kernel
theorem dX5_told_115 : decode cX5_told 115 = .ok (.aload_n 0, 1) := by decide +kernel
theorem dX5_told_116 : decode cX5_told 116 = .ok (.getfield 62, 3) := by decide +kernel
theorem dX5_told_119 : decode cX5_told 119 = .ok (.iload_n 3, 1) := by decide +kernel
theorem dX5_told_120 : decode cX5_told 120 = .ok (.iaload, 1) := by decide +kernel
theorem dX5_told_121 : decode cX5_told 121 = .ok (.ireturn, 1) := by decide +kernel
theorem dX5_told_122 : decode cX5_told 122 = .ok (.aload_n 0, 1) := by decide +kernel
theorem dX5_told_123 : decode cX5_told 123 = .ok (.getfield 65, 3) := by decide +kernel
theorem dX5_told_126 : decode cX5_told 126 = .ok (.iload_n 3, 1) := by decide +kernel
theorem dX5_told_127 : decode cX5_told 127 = .ok (.iaload, 1) := by decide +kernel
theorem dX5_told_128 : decode cX5_told 128 = .ok (.ireturn, 1) := by decide +kernel
theorem dX5_ofAll_0 : decode cX5_ofAll 0 = .ok (.iconst 0, 1) := by decide +kernel
theorem dX5_ofAll_1 : decode cX5_ofAll 1 = .ok (.istore_n 2, 1) := by decide +kernel
theorem dX5_ofAll_2 : decode cX5_ofAll 2 = .ok (.iconst 0, 1) := by decide +kernel
theorem dX5_ofAll_3 : decode cX5_ofAll 3 = .ok (.istore_n 3, 1) := by decide +kernel
theorem dX5_ofAll_4 : decode cX5_ofAll 4 = .ok (.iload_n 3, 1) := by decide +kernel
theorem dX5_ofAll_5 : decode cX5_ofAll 5 = .ok (.bipush 16, 2) := by decide +kernel
theorem dX5_ofAll_7 : decode cX5_ofAll 7 = .ok (.if_icmp .ge 29, 3) := by decide +kernel
theorem dX5_ofAll_10 : decode cX5_ofAll 10 = .ok (.iload_n 2, 1) := by decide +kernel
theorem dX5_ofAll_11 : decode cX5_ofAll 11 = .ok (.aload_n 0, 1) := by decide +kernel
theorem dX5_ofAll_12 : decode cX5_ofAll 12 = .ok (.getfield 25, 3) := by decide +kernel
theorem dX5_ofAll_15 : decode cX5_ofAll 15 = .ok (.bipush 64, 2) := by decide +kernel
theorem dX5_ofAll_17 : decode cX5_ofAll 17 = .ok (.iload_n 3, 1) := by decide +kernel
theorem dX5_ofAll_18 : decode cX5_ofAll 18 = .ok (.iadd, 1) := by decide +kernel
theorem dX5_ofAll_19 : decode cX5_ofAll 19 = .ok (.baload, 1) := by decide +kernel
theorem dX5_ofAll_20 : decode cX5_ofAll 20 = .ok (.ifCond .eq 7, 3) := by decide +kernel
theorem dX5_ofAll_23 : decode cX5_ofAll 23 = .ok (.iconst 1, 1) := by decide +kernel
theorem dX5_ofAll_24 : decode cX5_ofAll 24 = .ok (.goto 4, 3) := by decide +kernel
theorem dX5_ofAll_27 : decode cX5_ofAll 27 = .ok (.iconst 0, 1) := by decide +kernel
theorem dX5_ofAll_28 : decode cX5_ofAll 28 = .ok (.iadd, 1) := by decide +kernel
theorem dX5_ofAll_29 : decode cX5_ofAll 29 = .ok (.istore_n 2, 1) := by decide +kernel
theorem dX5_ofAll_30 : decode cX5_ofAll 30 = .ok (.iinc 3 1, 3) := by decide +kernel
theorem dX5_ofAll_33 : decode cX5_ofAll 33 = .ok (.goto (-29), 3) := by decide +kernel
theorem dX5_ofAll_36 : decode cX5_ofAll 36 = .ok (.iload_n 1, 1) := by decide +kernel
theorem dX5_ofAll_37 : decode cX5_ofAll 37 = .ok (.ifCond .ne 7, 3) := by decide +kernel
theorem dX5_ofAll_40 : decode cX5_ofAll 40 = .ok (.iload_n 2, 1) := by decide +kernel
theorem dX5_ofAll_41 : decode cX5_ofAll 41 = .ok (.goto 31, 3) := by decide +kernel
theorem dX5_ofAll_44 : decode cX5_ofAll 44 = .ok (.iload_n 1, 1) := by decide +kernel
theorem dX5_ofAll_45 : decode cX5_ofAll 45 = .ok (.iconst 1, 1) := by decide +kernel
theorem dX5_ofAll_46 : decode cX5_ofAll 46 = .ok (.if_icmp .ne 10, 3) := by decide +kernel
theorem dX5_ofAll_49 : decode cX5_ofAll 49 = .ok (.aload_n 0, 1) := by decide +kernel
theorem dX5_ofAll_50 : decode cX5_ofAll 50 = .ok (.getfield 108, 3) := by decide +kernel
theorem dX5_ofAll_53 : decode cX5_ofAll 53 = .ok (.goto 19, 3) := by decide +kernel
theorem dX5_ofAll_56 : decode cX5_ofAll 56 = .ok (.iload_n 1, 1) := by decide +kernel
theorem dX5_ofAll_57 : decode cX5_ofAll 57 = .ok (.iconst 2, 1) := by decide +kernel
theorem dX5_ofAll_58 : decode cX5_ofAll 58 = .ok (.if_icmp .ne 10, 3) := by decide +kernel
theorem dX5_ofAll_61 : decode cX5_ofAll 61 = .ok (.aload_n 0, 1) := by decide +kernel
theorem dX5_ofAll_62 : decode cX5_ofAll 62 = .ok (.getfield 97, 3) := by decide +kernel
theorem dX5_ofAll_65 : decode cX5_ofAll 65 = .ok (.goto 7, 3) := by decide +kernel
theorem dX5_ofAll_68 : decode cX5_ofAll 68 = .ok (.aload_n 0, 1) := by decide +kernel
theorem dX5_ofAll_69 : decode cX5_ofAll 69 = .ok (.getfield 129, 3) := by decide +kernel
theorem dX5_ofAll_72 : decode cX5_ofAll 72 = .ok (.ireturn, 1) := by decide +kernel
theorem dX5_fact_0 : decode cX5_fact 0 = .ok (.iload_n 1, 1) := by decide +kernel
theorem dX5_fact_1 : decode cX5_fact 1 = .ok (.iconst 0, 1) := by decide +kernel
theorem dX5_fact_2 : decode cX5_fact 2 = .ok (.iconst 3, 1) := by decide +kernel
theorem dX5_fact_3 : decode cX5_fact 3 = .ok (.invokestatic 101, 3) := by decide +kernel
theorem dX5_fact_6 : decode cX5_fact 6 = .ok (.ifCond .eq 9, 3) := by decide +kernel
theorem dX5_fact_9 : decode cX5_fact 9 = .ok (.aload_n 0, 1) := by decide +kernel
theorem dX5_fact_10 : decode cX5_fact 10 = .ok (.iload_n 1, 1) := by decide +kernel
theorem dX5_fact_11 : decode cX5_fact 11 = .ok (.invokevirtual 171, 3) := by decide +kernel
theorem dX5_fact_14 : decode cX5_fact 14 = .ok (.ireturn, 1) := by decide +kernel
theorem dX5_fact_15 : decode cX5_fact 15 = .ok (.iload_n 1, 1) := by decide +kernel
theorem dX5_fact_16 : decode cX5_fact 16 = .ok (.sipush 600, 3) := by decide +kernel
theorem dX5_fact_19 : decode cX5_fact 19 = .ok (.sipush 605, 3) := by decide +kernel
theorem dX5_fact_22 : decode cX5_fact 22 = .ok (.invokestatic 101, 3) := by decide +kernel
theorem dX5_fact_25 : decode cX5_fact 25 = .ok (.ifCond .eq 17, 3) := by decide +kernel
theorem dX5_fact_28 : decode cX5_fact 28 = .ok (.aload_n 0, 1) := by decide +kernel
theorem dX5_fact_29 : decode cX5_fact 29 = .ok (.getfield 44, 3) := by decide +kernel
theorem dX5_fact_32 : decode cX5_fact 32 = .ok (.bipush 24, 2) := by decide +kernel
theorem dX5_fact_34 : decode cX5_fact 34 = .ok (.iload_n 1, 1) := by decide +kernel
theorem dX5_fact_35 : decode cX5_fact 35 = .ok (.iadd, 1) := by decide +kernel
theorem dX5_fact_36 : decode cX5_fact 36 = .ok (.sipush 600, 3) := by decide +kernel
theorem dX5_fact_39 : decode cX5_fact 39 = .ok (.isub, 1) := by decide +kernel
theorem dX5_fact_40 : decode cX5_fact 40 = .ok (.iaload, 1) := by decide +kernel
theorem dX5_fact_41 : decode cX5_fact 41 = .ok (.ireturn, 1) := by decide +kernel
theorem dX5_fact_42 : decode cX5_fact 42 = .ok (.iload_n 1, 1) := by decide +kernel
theorem dX5_fact_43 : decode cX5_fact 43 = .ok (.bipush 100, 2) := by decide +kernel
theorem dX5_fact_45 : decode cX5_fact 45 = .ok (.irem, 1) := by decide +kernel
theorem dX5_fact_46 : decode cX5_fact 46 = .ok (.istore_n 2, 1) := by decide +kernel
theorem dX5_fact_47 : decode cX5_fact 47 = .ok (.iload_n 1, 1) := by decide +kernel
theorem dX5_fact_48 : decode cX5_fact 48 = .ok (.bipush 100, 2) := by decide +kernel
theorem dX5_fact_50 : decode cX5_fact 50 = .ok (.sipush 599, 3) := by decide +kernel
theorem dX5_fact_53 : decode cX5_fact 53 = .ok (.invokestatic 101, 3) := by decide +kernel
theorem dX5_fact_56 : decode cX5_fact 56 = .ok (.ifCond .eq 17, 3) := by decide +kernel
theorem dX5_fact_59 : decode cX5_fact 59 = .ok (.iload_n 2, 1) := by decide +kernel
theorem dX5_fact_60 : decode cX5_fact 60 = .ok (.bipush 15, 2) := by decide +kernel
theorem dX5_fact_62 : decode cX5_fact 62 = .ok (.if_icmp .gt 11, 3) := by decide +kernel
theorem dX5_fact_65 : decode cX5_fact 65 = .ok (.iload_n 2, 1) := by decide +kernel
theorem dX5_fact_66 : decode cX5_fact 66 = .ok (.aload_n 0, 1) := by decide +kernel
theorem dX5_fact_67 : decode cX5_fact 67 = .ok (.getfield 108, 3) := by decide +kernel
theorem dX5_fact_70 : decode cX5_fact 70 = .ok (.if_icmp .lt 6, 3) := by decide +kernel
theorem dX5_fact_73 : decode cX5_fact 73 = .ok (.bipush (-2), 2) := by decide +kernel
theorem dX5_fact_75 : decode cX5_fact 75 = .ok (.ireturn, 1) := by decide +kernel
theorem dX5_fact_76 : decode cX5_fact 76 = .ok (.bipush 64, 2) := by decide +kernel
theorem dX5_fact_78 : decode cX5_fact 78 = .ok (.iload_n 2, 1) := by decide +kernel
theorem dX5_fact_79 : decode cX5_fact 79 = .ok (.iadd, 1) := by decide +kernel
theorem dX5_fact_80 : decode cX5_fact 80 = .ok (.istore_n 3, 1) := by decide +kernel
theorem dX5_fact_81 : decode cX5_fact 81 = .ok (.iload_n 1, 1) := by decide +kernel
theorem dX5_fact_82 : decode cX5_fact 82 = .ok (.sipush 200, 3) := by decide +kernel
theorem dX5_fact_85 : decode cX5_fact 85 = .ok (.if_icmp .ge 18, 3) := by decide +kernel
theorem dX5_fact_88 : decode cX5_fact 88 = .ok (.aload_n 0, 1) := by decide +kernel
theorem dX5_fact_89 : decode cX5_fact 89 = .ok (.getfield 25, 3) := by decide +kernel
theorem dX5_fact_92 : decode cX5_fact 92 = .ok (.iload_n 3, 1) := by decide +kernel
theorem dX5_fact_93 : decode cX5_fact 93 = .ok (.baload, 1) := by decide +kernel
theorem dX5_fact_94 : decode cX5_fact 94 = .ok (.ifCond .eq 7, 3) := by decide +kernel
theorem dX5_fact_97 : decode cX5_fact 97 = .ok (.iconst 1, 1) := by decide +kernel
theorem dX5_fact_98 : decode cX5_fact 98 = .ok (.goto 4, 3) := by decide +kernel
theorem dX5_fact_101 : decode cX5_fact 101 = .ok (.iconst 0, 1) := by decide +kernel
theorem dX5_fact_102 : decode cX5_fact 102 = .ok (.ireturn, 1) := by decide +kernel
theorem dX5_fact_103 : decode cX5_fact 103 = .ok (.aload_n 0, 1) := by decide +kernel
theorem dX5_fact_104 : decode cX5_fact 104 = .ok (.getfield 25, 3) := by decide +kernel
theorem dX5_fact_107 : decode cX5_fact 107 = .ok (.iload_n 3, 1) := by decide +kernel
theorem dX5_fact_108 : decode cX5_fact 108 = .ok (.baload, 1) := by decide +kernel
theorem dX5_fact_109 : decode cX5_fact 109 = .ok (.ifCond .ne 6, 3) := by decide +kernel
theorem dX5_fact_112 : decode cX5_fact 112 = .ok (.bipush (-2), 2) := by decide +kernel
theorem dX5_fact_114 : decode cX5_fact 114 = .ok (.ireturn, 1) := by decide +kernel
theorem dX5_fact_115 : decode cX5_fact 115 = .ok (.iload_n 1, 1) := by decide +kernel
theorem dX5_fact_116 : decode cX5_fact 116 = .ok (.sipush 500, 3) := by decide +kernel
theorem dX5_fact_119 : decode cX5_fact 119 = .ok (.if_icmp .ge 42, 3) := by decide +kernel
theorem dX5_fact_122 : decode cX5_fact 122 = .ok (.iload_n 1, 1) := by decide +kernel
theorem dX5_fact_123 : decode cX5_fact 123 = .ok (.sipush 300, 3) := by decide +kernel
theorem dX5_fact_126 : decode cX5_fact 126 = .ok (.if_icmp .ge 12, 3) := by decide +kernel
theorem dX5_fact_129 : decode cX5_fact 129 = .ok (.aload_n 0, 1) := by decide +kernel
theorem dX5_fact_130 : decode cX5_fact 130 = .ok (.getfield 29, 3) := by decide +kernel
theorem dX5_fact_133 : decode cX5_fact 133 = .ok (.iload_n 3, 1) := by decide +kernel
theorem dX5_fact_134 : decode cX5_fact 134 = .ok (.iaload, 1) := by decide +kernel
theorem dX5_fact_135 : decode cX5_fact 135 = .ok (.goto 25, 3) := by decide +kernel
theorem dX5_fact_138 : decode cX5_fact 138 = .ok (.iload_n 1, 1) := by decide +kernel
theorem dX5_fact_139 : decode cX5_fact 139 = .ok (.sipush 400, 3) := by decide +kernel
theorem dX5_fact_142 : decode cX5_fact 142 = .ok (.if_icmp .ge 12, 3) := by decide +kernel
theorem dX5_fact_145 : decode cX5_fact 145 = .ok (.aload_n 0, 1) := by decide +kernel
theorem dX5_fact_146 : decode cX5_fact 146 = .ok (.getfield 32, 3) := by decide +kernel
theorem dX5_fact_149 : decode cX5_fact 149 = .ok (.iload_n 3, 1) := by decide +kernel
theorem dX5_fact_150 : decode cX5_fact 150 = .ok (.iaload, 1) := by decide +kernel
theorem dX5_fact_151 : decode cX5_fact 151 = .ok (.goto 9, 3) := by decide +kernel
theorem dX5_fact_154 : decode cX5_fact 154 = .ok (.aload_n 0, 1) := by decide +kernel
theorem dX5_fact_155 : decode cX5_fact 155 = .ok (.getfield 35, 3) := by decide +kernel
theorem dX5_fact_158 : decode cX5_fact 158 = .ok (.iload_n 3, 1) := by decide +kernel
theorem dX5_fact_159 : decode cX5_fact 159 = .ok (.iaload, 1) := by decide +kernel
theorem dX5_fact_160 : decode cX5_fact 160 = .ok (.ireturn, 1) := by decide +kernel
theorem dX5_fact_161 : decode cX5_fact 161 = .ok (.aload_n 0, 1) := by decide +kernel
theorem dX5_fact_162 : decode cX5_fact 162 = .ok (.getfield 38, 3) := by decide +kernel
theorem dX5_fact_165 : decode cX5_fact 165 = .ok (.iload_n 3, 1) := by decide +kernel
theorem dX5_fact_166 : decode cX5_fact 166 = .ok (.iaload, 1) := by decide +kernel
theorem dX5_fact_167 : decode cX5_fact 167 = .ok (.bipush (-2), 2) := by decide +kernel
theorem dX5_fact_169 : decode cX5_fact 169 = .ok (.if_icmp .ne 8, 3) := by decide +kernel
theorem dX5_fact_172 : decode cX5_fact 172 = .ok (.bipush (-3), 2) := by decide +kernel
theorem dX5_fact_174 : decode cX5_fact 174 = .ok (.goto 11, 3) := by decide +kernel
theorem dX5_fact_177 : decode cX5_fact 177 = .ok (.aload_n 0, 1) := by decide +kernel
theorem dX5_fact_178 : decode cX5_fact 178 = .ok (.getfield 38, 3) := by decide +kernel
theorem dX5_fact_181 : decode cX5_fact 181 = .ok (.iload_n 3, 1) := by decide +kernel
theorem dX5_fact_182 : decode cX5_fact 182 = .ok (.iaload, 1) := by decide +kernel
theorem dX5_fact_183 : decode cX5_fact 183 = .ok (.iconst 1, 1) := by decide +kernel
theorem dX5_fact_184 : decode cX5_fact 184 = .ok (.iadd, 1) := by decide +kernel
theorem dX5_fact_185 : decode cX5_fact 185 = .ok (.ireturn, 1) := by decide +kernel
theorem dX5_change_0 : decode cX5_change 0 = .ok (.iload_n 1, 1) := by decide +kernel
theorem dX5_change_1 : decode cX5_change 1 = .ok (.iconst 1, 1) := by decide +kernel
theorem dX5_change_2 : decode cX5_change 2 = .ok (.aload_n 0, 1) := by decide +kernel
theorem dX5_change_3 : decode cX5_change 3 = .ok (.getfield 97, 3) := by decide +kernel
theorem dX5_change_6 : decode cX5_change 6 = .ok (.invokestatic 101, 3) := by decide +kernel
theorem dX5_change_9 : decode cX5_change 9 = .ok (.ifCond .eq 14, 3) := by decide +kernel
theorem dX5_change_12 : decode cX5_change 12 = .ok (.aload_n 0, 1) := by decide +kernel
theorem dX5_change_13 : decode cX5_change 13 = .ok (.getfield 7, 3) := by decide +kernel
theorem dX5_change_16 : decode cX5_change 16 = .ok (.iload_n 1, 1) := by decide +kernel
theorem dX5_change_17 : decode cX5_change 17 = .ok (.iconst 1, 1) := by decide +kernel
theorem dX5_change_18 : decode cX5_change 18 = .ok (.isub, 1) := by decide +kernel
theorem dX5_change_19 : decode cX5_change 19 = .ok (.iaload, 1) := by decide +kernel
theorem dX5_change_20 : decode cX5_change 20 = .ok (.goto 5, 3) := by decide +kernel
theorem dX5_change_23 : decode cX5_change 23 = .ok (.bipush (-2), 2) := by decide +kernel
theorem dX5_change_25 : decode cX5_change 25 = .ok (.ireturn, 1) := by decide +kernel
theorem dJ6_bitCount_0f7a4_0 : decode cJ6_bitCount_0f7a4 0 = .ok (.iload_n 0, 1) := by decide +kernel
theorem dJ6_bitCount_0f7a4_1 : decode cJ6_bitCount_0f7a4 1 = .ok (.iload_n 0, 1) := by decide +kernel
theorem dJ6_bitCount_0f7a4_2 : decode cJ6_bitCount_0f7a4 2 = .ok (.iconst 1, 1) := by decide +kernel
theorem dJ6_bitCount_0f7a4_3 : decode cJ6_bitCount_0f7a4 3 = .ok (.iushr, 1) := by decide +kernel
theorem dJ6_bitCount_0f7a4_4 : decode cJ6_bitCount_0f7a4 4 = .ok (.ldc_w 265, 3) := by decide +kernel
theorem dJ6_bitCount_0f7a4_7 : decode cJ6_bitCount_0f7a4 7 = .ok (.iand, 1) := by decide +kernel
theorem dJ6_bitCount_0f7a4_8 : decode cJ6_bitCount_0f7a4 8 = .ok (.isub, 1) := by decide +kernel
theorem dJ6_bitCount_0f7a4_9 : decode cJ6_bitCount_0f7a4 9 = .ok (.istore_n 0, 1) := by decide +kernel
theorem dJ6_bitCount_0f7a4_10 : decode cJ6_bitCount_0f7a4 10 = .ok (.iload_n 0, 1) := by decide +kernel
theorem dJ6_bitCount_0f7a4_11 : decode cJ6_bitCount_0f7a4 11 = .ok (.ldc_w 266, 3) := by decide +kernel
theorem dJ6_bitCount_0f7a4_14 : decode cJ6_bitCount_0f7a4 14 = .ok (.iand, 1) := by decide +kernel
theorem dJ6_bitCount_0f7a4_15 : decode cJ6_bitCount_0f7a4 15 = .ok (.iload_n 0, 1) := by decide +kernel
theorem dJ6_bitCount_0f7a4_16 : decode cJ6_bitCount_0f7a4 16 = .ok (.iconst 2, 1) := by decide +kernel
theorem dJ6_bitCount_0f7a4_17 : decode cJ6_bitCount_0f7a4 17 = .ok (.iushr, 1) := by decide +kernel
theorem dJ6_bitCount_0f7a4_18 : decode cJ6_bitCount_0f7a4 18 = .ok (.ldc_w 266, 3) := by decide +kernel
theorem dJ6_bitCount_0f7a4_21 : decode cJ6_bitCount_0f7a4 21 = .ok (.iand, 1) := by decide +kernel
theorem dJ6_bitCount_0f7a4_22 : decode cJ6_bitCount_0f7a4 22 = .ok (.iadd, 1) := by decide +kernel
theorem dJ6_bitCount_0f7a4_23 : decode cJ6_bitCount_0f7a4 23 = .ok (.istore_n 0, 1) := by decide +kernel
theorem dJ6_bitCount_0f7a4_24 : decode cJ6_bitCount_0f7a4 24 = .ok (.iload_n 0, 1) := by decide +kernel
theorem dJ6_bitCount_0f7a4_25 : decode cJ6_bitCount_0f7a4 25 = .ok (.iload_n 0, 1) := by decide +kernel
theorem dJ6_bitCount_0f7a4_26 : decode cJ6_bitCount_0f7a4 26 = .ok (.iconst 4, 1) := by decide +kernel
theorem dJ6_bitCount_0f7a4_27 : decode cJ6_bitCount_0f7a4 27 = .ok (.iushr, 1) := by decide +kernel
theorem dJ6_bitCount_0f7a4_28 : decode cJ6_bitCount_0f7a4 28 = .ok (.iadd, 1) := by decide +kernel
theorem dJ6_bitCount_0f7a4_29 : decode cJ6_bitCount_0f7a4 29 = .ok (.ldc_w 267, 3) := by decide +kernel
theorem dJ6_bitCount_0f7a4_32 : decode cJ6_bitCount_0f7a4 32 = .ok (.iand, 1) := by decide +kernel
theorem dJ6_bitCount_0f7a4_33 : decode cJ6_bitCount_0f7a4 33 = .ok (.istore_n 0, 1) := by decide +kernel
theorem dJ6_bitCount_0f7a4_34 : decode cJ6_bitCount_0f7a4 34 = .ok (.iload_n 0, 1) := by decide +kernel
theorem dJ6_bitCount_0f7a4_35 : decode cJ6_bitCount_0f7a4 35 = .ok (.iload_n 0, 1) := by decide +kernel
theorem dJ6_bitCount_0f7a4_36 : decode cJ6_bitCount_0f7a4 36 = .ok (.bipush 8, 2) := by decide +kernel
theorem dJ6_bitCount_0f7a4_38 : decode cJ6_bitCount_0f7a4 38 = .ok (.iushr, 1) := by decide +kernel
theorem dJ6_bitCount_0f7a4_39 : decode cJ6_bitCount_0f7a4 39 = .ok (.iadd, 1) := by decide +kernel
theorem dJ6_bitCount_0f7a4_40 : decode cJ6_bitCount_0f7a4 40 = .ok (.istore_n 0, 1) := by decide +kernel
theorem dJ6_bitCount_0f7a4_41 : decode cJ6_bitCount_0f7a4 41 = .ok (.iload_n 0, 1) := by decide +kernel
theorem dJ6_bitCount_0f7a4_42 : decode cJ6_bitCount_0f7a4 42 = .ok (.iload_n 0, 1) := by decide +kernel
theorem dJ6_bitCount_0f7a4_43 : decode cJ6_bitCount_0f7a4 43 = .ok (.bipush 16, 2) := by decide +kernel
theorem dJ6_bitCount_0f7a4_45 : decode cJ6_bitCount_0f7a4 45 = .ok (.iushr, 1) := by decide +kernel
theorem dJ6_bitCount_0f7a4_46 : decode cJ6_bitCount_0f7a4 46 = .ok (.iadd, 1) := by decide +kernel
theorem dJ6_bitCount_0f7a4_47 : decode cJ6_bitCount_0f7a4 47 = .ok (.istore_n 0, 1) := by decide +kernel
theorem dJ6_bitCount_0f7a4_48 : decode cJ6_bitCount_0f7a4 48 = .ok (.iload_n 0, 1) := by decide +kernel
theorem dJ6_bitCount_0f7a4_49 : decode cJ6_bitCount_0f7a4 49 = .ok (.bipush 63, 2) := by decide +kernel
theorem dJ6_bitCount_0f7a4_51 : decode cJ6_bitCount_0f7a4 51 = .ok (.iand, 1) := by decide +kernel
theorem dJ6_bitCount_0f7a4_52 : decode cJ6_bitCount_0f7a4 52 = .ok (.ireturn, 1) := by decide +kernel
theorem dJ9_floorMod_7cf53_0 : decode cJ9_floorMod_7cf53 0 = .ok (.iload_n 0, 1) := by decide +kernel
theorem dJ9_floorMod_7cf53_1 : decode cJ9_floorMod_7cf53 1 = .ok (.iload_n 1, 1) := by decide +kernel
theorem dJ9_floorMod_7cf53_2 : decode cJ9_floorMod_7cf53 2 = .ok (.irem, 1) := by decide +kernel
theorem dJ9_floorMod_7cf53_3 : decode cJ9_floorMod_7cf53 3 = .ok (.istore_n 2, 1) := by decide +kernel
theorem dJ9_floorMod_7cf53_4 : decode cJ9_floorMod_7cf53 4 = .ok (.iload_n 0, 1) := by decide +kernel
theorem dJ9_floorMod_7cf53_5 : decode cJ9_floorMod_7cf53 5 = .ok (.iload_n 1, 1) := by decide +kernel
theorem dJ9_floorMod_7cf53_6 : decode cJ9_floorMod_7cf53 6 = .ok (.ixor, 1) := by decide +kernel
theorem dJ9_floorMod_7cf53_7 : decode cJ9_floorMod_7cf53 7 = .ok (.ifCond .ge 11, 3) := by decide +kernel
theorem dJ9_floorMod_7cf53_10 : decode cJ9_floorMod_7cf53 10 = .ok (.iload_n 2, 1) := by decide +kernel
theorem dJ9_floorMod_7cf53_11 : decode cJ9_floorMod_7cf53 11 = .ok (.ifCond .eq 7, 3) := by decide +kernel
theorem dJ9_floorMod_7cf53_14 : decode cJ9_floorMod_7cf53 14 = .ok (.iload_n 2, 1) := by decide +kernel
theorem dJ9_floorMod_7cf53_15 : decode cJ9_floorMod_7cf53 15 = .ok (.iload_n 1, 1) := by decide +kernel
theorem dJ9_floorMod_7cf53_16 : decode cJ9_floorMod_7cf53 16 = .ok (.iadd, 1) := by decide +kernel
theorem dJ9_floorMod_7cf53_17 : decode cJ9_floorMod_7cf53 17 = .ok (.ireturn, 1) := by decide +kernel
theorem dJ9_floorMod_7cf53_18 : decode cJ9_floorMod_7cf53 18 = .ok (.iload_n 2, 1) := by decide +kernel
theorem dJ9_floorMod_7cf53_19 : decode cJ9_floorMod_7cf53 19 = .ok (.ireturn, 1) := by decide +kernel
theorem dJ9_abs_0f7a4_0 : decode cJ9_abs_0f7a4 0 = .ok (.iload_n 0, 1) := by decide +kernel
theorem dJ9_abs_0f7a4_1 : decode cJ9_abs_0f7a4 1 = .ok (.ifCond .ge 8, 3) := by decide +kernel
theorem dJ9_abs_0f7a4_4 : decode cJ9_abs_0f7a4 4 = .ok (.iload_n 0, 1) := by decide +kernel
theorem dJ9_abs_0f7a4_5 : decode cJ9_abs_0f7a4 5 = .ok (.ineg, 1) := by decide +kernel
theorem dJ9_abs_0f7a4_6 : decode cJ9_abs_0f7a4 6 = .ok (.goto 4, 3) := by decide +kernel
theorem dJ9_abs_0f7a4_9 : decode cJ9_abs_0f7a4 9 = .ok (.iload_n 0, 1) := by decide +kernel
theorem dJ9_abs_0f7a4_10 : decode cJ9_abs_0f7a4 10 = .ok (.ireturn, 1) := by decide +kernel
theorem dJ9_max_7cf53_0 : decode cJ9_max_7cf53 0 = .ok (.iload_n 0, 1) := by decide +kernel
theorem dJ9_max_7cf53_1 : decode cJ9_max_7cf53 1 = .ok (.iload_n 1, 1) := by decide +kernel
theorem dJ9_max_7cf53_2 : decode cJ9_max_7cf53 2 = .ok (.if_icmp .lt 7, 3) := by decide +kernel
theorem dJ9_max_7cf53_5 : decode cJ9_max_7cf53 5 = .ok (.iload_n 0, 1) := by decide +kernel
theorem dJ9_max_7cf53_6 : decode cJ9_max_7cf53 6 = .ok (.goto 4, 3) := by decide +kernel
theorem dJ9_max_7cf53_9 : decode cJ9_max_7cf53 9 = .ok (.iload_n 1, 1) := by decide +kernel
theorem dJ9_max_7cf53_10 : decode cJ9_max_7cf53 10 = .ok (.ireturn, 1) := by decide +kernel
theorem dJ9_min_7cf53_0 : decode cJ9_min_7cf53 0 = .ok (.iload_n 0, 1) := by decide +kernel
theorem dJ9_min_7cf53_1 : decode cJ9_min_7cf53 1 = .ok (.iload_n 1, 1) := by decide +kernel
theorem dJ9_min_7cf53_2 : decode cJ9_min_7cf53 2 = .ok (.if_icmp .gt 7, 3) := by decide +kernel
theorem dJ9_min_7cf53_5 : decode cJ9_min_7cf53 5 = .ok (.iload_n 0, 1) := by decide +kernel
theorem dJ9_min_7cf53_6 : decode cJ9_min_7cf53 6 = .ok (.goto 4, 3) := by decide +kernel
theorem dJ9_min_7cf53_9 : decode cJ9_min_7cf53 9 = .ok (.iload_n 1, 1) := by decide +kernel
theorem dJ9_min_7cf53_10 : decode cJ9_min_7cf53 10 = .ok (.ireturn, 1) := by decide +kernel
theorem dJ7_fill_d0a16_0 : decode cJ7_fill_d0a16 0 = .ok (.iconst 0, 1) := by decide +kernel
theorem dJ7_fill_d0a16_1 : decode cJ7_fill_d0a16 1 = .ok (.istore_n 3, 1) := by decide +kernel
theorem dJ7_fill_d0a16_2 : decode cJ7_fill_d0a16 2 = .ok (.aload_n 0, 1) := by decide +kernel
theorem dJ7_fill_d0a16_3 : decode cJ7_fill_d0a16 3 = .ok (.arraylength, 1) := by decide +kernel
theorem dJ7_fill_d0a16_4 : decode cJ7_fill_d0a16 4 = .ok (.istore 4, 2) := by decide +kernel
theorem dJ7_fill_d0a16_6 : decode cJ7_fill_d0a16 6 = .ok (.iload_n 3, 1) := by decide +kernel
theorem dJ7_fill_d0a16_7 : decode cJ7_fill_d0a16 7 = .ok (.iload 4, 2) := by decide +kernel
theorem dJ7_fill_d0a16_9 : decode cJ7_fill_d0a16 9 = .ok (.if_icmp .ge 13, 3) := by decide +kernel
theorem dJ7_fill_d0a16_12 : decode cJ7_fill_d0a16 12 = .ok (.aload_n 0, 1) := by decide +kernel
theorem dJ7_fill_d0a16_13 : decode cJ7_fill_d0a16 13 = .ok (.iload_n 3, 1) := by decide +kernel
theorem dJ7_fill_d0a16_14 : decode cJ7_fill_d0a16 14 = .ok (.lload_n 1, 1) := by decide +kernel
theorem dJ7_fill_d0a16_15 : decode cJ7_fill_d0a16 15 = .ok (.lastore, 1) := by decide +kernel
theorem dJ7_fill_d0a16_16 : decode cJ7_fill_d0a16 16 = .ok (.iinc 3 1, 3) := by decide +kernel
theorem dJ7_fill_d0a16_19 : decode cJ7_fill_d0a16 19 = .ok (.goto (-13), 3) := by decide +kernel
theorem dJ7_fill_d0a16_22 : decode cJ7_fill_d0a16 22 = .ok (.return_, 1) := by decide +kernel
theorem dJ7_fill_53178_0 : decode cJ7_fill_53178 0 = .ok (.iconst 0, 1) := by decide +kernel
theorem dJ7_fill_53178_1 : decode cJ7_fill_53178 1 = .ok (.istore_n 2, 1) := by decide +kernel
theorem dJ7_fill_53178_2 : decode cJ7_fill_53178 2 = .ok (.aload_n 0, 1) := by decide +kernel
theorem dJ7_fill_53178_3 : decode cJ7_fill_53178 3 = .ok (.arraylength, 1) := by decide +kernel
theorem dJ7_fill_53178_4 : decode cJ7_fill_53178 4 = .ok (.istore_n 3, 1) := by decide +kernel
theorem dJ7_fill_53178_5 : decode cJ7_fill_53178 5 = .ok (.iload_n 2, 1) := by decide +kernel
theorem dJ7_fill_53178_6 : decode cJ7_fill_53178 6 = .ok (.iload_n 3, 1) := by decide +kernel
theorem dJ7_fill_53178_7 : decode cJ7_fill_53178 7 = .ok (.if_icmp .ge 13, 3) := by decide +kernel
theorem dJ7_fill_53178_10 : decode cJ7_fill_53178 10 = .ok (.aload_n 0, 1) := by decide +kernel
theorem dJ7_fill_53178_11 : decode cJ7_fill_53178 11 = .ok (.iload_n 2, 1) := by decide +kernel
theorem dJ7_fill_53178_12 : decode cJ7_fill_53178 12 = .ok (.iload_n 1, 1) := by decide +kernel
theorem dJ7_fill_53178_13 : decode cJ7_fill_53178 13 = .ok (.iastore, 1) := by decide +kernel
theorem dJ7_fill_53178_14 : decode cJ7_fill_53178 14 = .ok (.iinc 2 1, 3) := by decide +kernel
theorem dJ7_fill_53178_17 : decode cJ7_fill_53178 17 = .ok (.goto (-12), 3) := by decide +kernel
theorem dJ7_fill_53178_20 : decode cJ7_fill_53178 20 = .ok (.return_, 1) := by decide +kernel
theorem dL_law_0 : decode cL_law 0 = .ok (.new 7, 3) := by decide +kernel
theorem dL_law_3 : decode cL_law 3 = .ok (.dup, 1) := by decide +kernel
theorem dL_law_4 : decode cL_law 4 = .ok (.invokespecial 9, 3) := by decide +kernel
theorem dL_law_7 : decode cL_law 7 = .ok (.astore_n 1, 1) := by decide +kernel
theorem dL_law_8 : decode cL_law 8 = .ok (.new 10, 3) := by decide +kernel
theorem dL_law_11 : decode cL_law 11 = .ok (.dup, 1) := by decide +kernel
theorem dL_law_12 : decode cL_law 12 = .ok (.invokespecial 12, 3) := by decide +kernel
theorem dL_law_15 : decode cL_law 15 = .ok (.astore_n 2, 1) := by decide +kernel
theorem dL_law_16 : decode cL_law 16 = .ok (.iconst 0, 1) := by decide +kernel
theorem dL_law_17 : decode cL_law 17 = .ok (.istore_n 3, 1) := by decide +kernel
theorem dL_law_18 : decode cL_law 18 = .ok (.iload_n 3, 1) := by decide +kernel
theorem dL_law_19 : decode cL_law 19 = .ok (.aload_n 0, 1) := by decide +kernel
theorem dL_law_20 : decode cL_law 20 = .ok (.arraylength, 1) := by decide +kernel
theorem dL_law_21 : decode cL_law 21 = .ok (.iconst 5, 1) := by decide +kernel
theorem dL_law_22 : decode cL_law 22 = .ok (.isub, 1) := by decide +kernel
theorem dL_law_23 : decode cL_law 23 = .ok (.if_icmp .gt 870, 3) := by decide +kernel
theorem dL_law_26 : decode cL_law 26 = .ok (.aload_n 0, 1) := by decide +kernel
theorem dL_law_27 : decode cL_law 27 = .ok (.iload_n 3, 1) := by decide +kernel
theorem dL_law_28 : decode cL_law 28 = .ok (.iaload, 1) := by decide +kernel
theorem dL_law_29 : decode cL_law 29 = .ok (.bipush 31, 2) := by decide +kernel
theorem dL_law_31 : decode cL_law 31 = .ok (.iand, 1) := by decide +kernel
theorem dL_law_32 : decode cL_law 32 = .ok (.tableswitch 855 0 18 #[92, 135, 158, 211, 244, 303, 336, 359, 392, 425, 458, 491, 524, 583, 658, 743, 776, 809, 832], 92) := by decide +kernel
theorem dL_law_124 : decode cL_law 124 = .ok (.aload_n 1, 1) := by decide +kernel
theorem dL_law_125 : decode cL_law 125 = .ok (.aload_n 0, 1) := by decide +kernel
theorem dL_law_126 : decode cL_law 126 = .ok (.iload_n 3, 1) := by decide +kernel
theorem dL_law_127 : decode cL_law 127 = .ok (.iconst 1, 1) := by decide +kernel
theorem dL_law_128 : decode cL_law 128 = .ok (.iadd, 1) := by decide +kernel
theorem dL_law_129 : decode cL_law 129 = .ok (.iaload, 1) := by decide +kernel
theorem dL_law_130 : decode cL_law 130 = .ok (.aload_n 0, 1) := by decide +kernel
theorem dL_law_131 : decode cL_law 131 = .ok (.iload_n 3, 1) := by decide +kernel
theorem dL_law_132 : decode cL_law 132 = .ok (.iconst 2, 1) := by decide +kernel
theorem dL_law_133 : decode cL_law 133 = .ok (.iadd, 1) := by decide +kernel
theorem dL_law_134 : decode cL_law 134 = .ok (.iaload, 1) := by decide +kernel
theorem dL_law_135 : decode cL_law 135 = .ok (.aload_n 0, 1) := by decide +kernel
theorem dL_law_136 : decode cL_law 136 = .ok (.iload_n 3, 1) := by decide +kernel
theorem dL_law_137 : decode cL_law 137 = .ok (.iconst 3, 1) := by decide +kernel
theorem dL_law_138 : decode cL_law 138 = .ok (.iadd, 1) := by decide +kernel
theorem dL_law_139 : decode cL_law 139 = .ok (.iaload, 1) := by decide +kernel
theorem dL_law_140 : decode cL_law 140 = .ok (.invokevirtual 13, 3) := by decide +kernel
theorem dL_law_143 : decode cL_law 143 = .ok (.aload_n 2, 1) := by decide +kernel
theorem dL_law_144 : decode cL_law 144 = .ok (.aload_n 0, 1) := by decide +kernel
theorem dL_law_145 : decode cL_law 145 = .ok (.iload_n 3, 1) := by decide +kernel
theorem dL_law_146 : decode cL_law 146 = .ok (.iconst 1, 1) := by decide +kernel
theorem dL_law_147 : decode cL_law 147 = .ok (.iadd, 1) := by decide +kernel
theorem dL_law_148 : decode cL_law 148 = .ok (.iaload, 1) := by decide +kernel
theorem dL_law_149 : decode cL_law 149 = .ok (.aload_n 0, 1) := by decide +kernel
theorem dL_law_150 : decode cL_law 150 = .ok (.iload_n 3, 1) := by decide +kernel
theorem dL_law_151 : decode cL_law 151 = .ok (.iconst 2, 1) := by decide +kernel
theorem dL_law_152 : decode cL_law 152 = .ok (.iadd, 1) := by decide +kernel
theorem dL_law_153 : decode cL_law 153 = .ok (.iaload, 1) := by decide +kernel
theorem dL_law_154 : decode cL_law 154 = .ok (.aload_n 0, 1) := by decide +kernel
theorem dL_law_155 : decode cL_law 155 = .ok (.iload_n 3, 1) := by decide +kernel
theorem dL_law_156 : decode cL_law 156 = .ok (.iconst 3, 1) := by decide +kernel
theorem dL_law_157 : decode cL_law 157 = .ok (.iadd, 1) := by decide +kernel
theorem dL_law_158 : decode cL_law 158 = .ok (.iaload, 1) := by decide +kernel
theorem dL_law_159 : decode cL_law 159 = .ok (.invokevirtual 17, 3) := by decide +kernel
theorem dL_law_162 : decode cL_law 162 = .ok (.if_icmp .eq 725, 3) := by decide +kernel
theorem dL_law_165 : decode cL_law 165 = .ok (.iconst 0, 1) := by decide +kernel
theorem dL_law_166 : decode cL_law 166 = .ok (.ireturn, 1) := by decide +kernel
theorem dL_law_167 : decode cL_law 167 = .ok (.aload_n 1, 1) := by decide +kernel
theorem dL_law_168 : decode cL_law 168 = .ok (.aload_n 0, 1) := by decide +kernel
theorem dL_law_169 : decode cL_law 169 = .ok (.iload_n 3, 1) := by decide +kernel
theorem dL_law_170 : decode cL_law 170 = .ok (.iconst 1, 1) := by decide +kernel
theorem dL_law_171 : decode cL_law 171 = .ok (.iadd, 1) := by decide +kernel
theorem dL_law_172 : decode cL_law 172 = .ok (.iaload, 1) := by decide +kernel
theorem dL_law_173 : decode cL_law 173 = .ok (.invokevirtual 18, 3) := by decide +kernel
theorem dL_law_176 : decode cL_law 176 = .ok (.aload_n 2, 1) := by decide +kernel
theorem dL_law_177 : decode cL_law 177 = .ok (.aload_n 0, 1) := by decide +kernel
theorem dL_law_178 : decode cL_law 178 = .ok (.iload_n 3, 1) := by decide +kernel
theorem dL_law_179 : decode cL_law 179 = .ok (.iconst 1, 1) := by decide +kernel
theorem dL_law_180 : decode cL_law 180 = .ok (.iadd, 1) := by decide +kernel
theorem dL_law_181 : decode cL_law 181 = .ok (.iaload, 1) := by decide +kernel
theorem dL_law_182 : decode cL_law 182 = .ok (.invokevirtual 22, 3) := by decide +kernel
theorem dL_law_185 : decode cL_law 185 = .ok (.if_icmp .eq 702, 3) := by decide +kernel
theorem dL_law_188 : decode cL_law 188 = .ok (.iconst 0, 1) := by decide +kernel
theorem dL_law_189 : decode cL_law 189 = .ok (.ireturn, 1) := by decide +kernel
theorem dL_law_190 : decode cL_law 190 = .ok (.aload_n 1, 1) := by decide +kernel
theorem dL_law_191 : decode cL_law 191 = .ok (.aload_n 0, 1) := by decide +kernel
theorem dL_law_192 : decode cL_law 192 = .ok (.iload_n 3, 1) := by decide +kernel
theorem dL_law_193 : decode cL_law 193 = .ok (.iconst 1, 1) := by decide +kernel
theorem dL_law_194 : decode cL_law 194 = .ok (.iadd, 1) := by decide +kernel
theorem dL_law_195 : decode cL_law 195 = .ok (.iaload, 1) := by decide +kernel
theorem dL_law_196 : decode cL_law 196 = .ok (.aload_n 0, 1) := by decide +kernel
theorem dL_law_197 : decode cL_law 197 = .ok (.iload_n 3, 1) := by decide +kernel
theorem dL_law_198 : decode cL_law 198 = .ok (.iconst 2, 1) := by decide +kernel
theorem dL_law_199 : decode cL_law 199 = .ok (.iadd, 1) := by decide +kernel
theorem dL_law_200 : decode cL_law 200 = .ok (.iaload, 1) := by decide +kernel
theorem dL_law_201 : decode cL_law 201 = .ok (.aload_n 0, 1) := by decide +kernel
theorem dL_law_202 : decode cL_law 202 = .ok (.iload_n 3, 1) := by decide +kernel
theorem dL_law_203 : decode cL_law 203 = .ok (.iconst 3, 1) := by decide +kernel
theorem dL_law_204 : decode cL_law 204 = .ok (.iadd, 1) := by decide +kernel
theorem dL_law_205 : decode cL_law 205 = .ok (.iaload, 1) := by decide +kernel
theorem dL_law_206 : decode cL_law 206 = .ok (.aload_n 0, 1) := by decide +kernel
theorem dL_law_207 : decode cL_law 207 = .ok (.iload_n 3, 1) := by decide +kernel
theorem dL_law_208 : decode cL_law 208 = .ok (.iconst 4, 1) := by decide +kernel
theorem dL_law_209 : decode cL_law 209 = .ok (.iadd, 1) := by decide +kernel
theorem dL_law_210 : decode cL_law 210 = .ok (.iaload, 1) := by decide +kernel
theorem dL_law_211 : decode cL_law 211 = .ok (.invokevirtual 23, 3) := by decide +kernel
theorem dL_law_214 : decode cL_law 214 = .ok (.aload_n 2, 1) := by decide +kernel
theorem dL_law_215 : decode cL_law 215 = .ok (.aload_n 0, 1) := by decide +kernel
theorem dL_law_216 : decode cL_law 216 = .ok (.iload_n 3, 1) := by decide +kernel
theorem dL_law_217 : decode cL_law 217 = .ok (.iconst 1, 1) := by decide +kernel
theorem dL_law_218 : decode cL_law 218 = .ok (.iadd, 1) := by decide +kernel
theorem dL_law_219 : decode cL_law 219 = .ok (.iaload, 1) := by decide +kernel
theorem dL_law_220 : decode cL_law 220 = .ok (.aload_n 0, 1) := by decide +kernel
theorem dL_law_221 : decode cL_law 221 = .ok (.iload_n 3, 1) := by decide +kernel
theorem dL_law_222 : decode cL_law 222 = .ok (.iconst 2, 1) := by decide +kernel
theorem dL_law_223 : decode cL_law 223 = .ok (.iadd, 1) := by decide +kernel
theorem dL_law_224 : decode cL_law 224 = .ok (.iaload, 1) := by decide +kernel
theorem dL_law_225 : decode cL_law 225 = .ok (.aload_n 0, 1) := by decide +kernel
theorem dL_law_226 : decode cL_law 226 = .ok (.iload_n 3, 1) := by decide +kernel
theorem dL_law_227 : decode cL_law 227 = .ok (.iconst 3, 1) := by decide +kernel
theorem dL_law_228 : decode cL_law 228 = .ok (.iadd, 1) := by decide +kernel
theorem dL_law_229 : decode cL_law 229 = .ok (.iaload, 1) := by decide +kernel
theorem dL_law_230 : decode cL_law 230 = .ok (.aload_n 0, 1) := by decide +kernel
theorem dL_law_231 : decode cL_law 231 = .ok (.iload_n 3, 1) := by decide +kernel
theorem dL_law_232 : decode cL_law 232 = .ok (.iconst 4, 1) := by decide +kernel
theorem dL_law_233 : decode cL_law 233 = .ok (.iadd, 1) := by decide +kernel
theorem dL_law_234 : decode cL_law 234 = .ok (.iaload, 1) := by decide +kernel
theorem dL_law_235 : decode cL_law 235 = .ok (.invokevirtual 27, 3) := by decide +kernel
theorem dL_law_238 : decode cL_law 238 = .ok (.if_icmp .eq 649, 3) := by decide +kernel
theorem dL_law_241 : decode cL_law 241 = .ok (.iconst 0, 1) := by decide +kernel
theorem dL_law_242 : decode cL_law 242 = .ok (.ireturn, 1) := by decide +kernel
theorem dL_law_243 : decode cL_law 243 = .ok (.aload_n 1, 1) := by decide +kernel
theorem dL_law_244 : decode cL_law 244 = .ok (.aload_n 0, 1) := by decide +kernel
theorem dL_law_245 : decode cL_law 245 = .ok (.iload_n 3, 1) := by decide +kernel
theorem dL_law_246 : decode cL_law 246 = .ok (.iconst 1, 1) := by decide +kernel
theorem dL_law_247 : decode cL_law 247 = .ok (.iadd, 1) := by decide +kernel
theorem dL_law_248 : decode cL_law 248 = .ok (.iaload, 1) := by decide +kernel
theorem dL_law_249 : decode cL_law 249 = .ok (.aload_n 0, 1) := by decide +kernel
theorem dL_law_250 : decode cL_law 250 = .ok (.iload_n 3, 1) := by decide +kernel
theorem dL_law_251 : decode cL_law 251 = .ok (.iconst 2, 1) := by decide +kernel
theorem dL_law_252 : decode cL_law 252 = .ok (.iadd, 1) := by decide +kernel
theorem dL_law_253 : decode cL_law 253 = .ok (.iaload, 1) := by decide +kernel
theorem dL_law_254 : decode cL_law 254 = .ok (.invokevirtual 28, 3) := by decide +kernel
theorem dL_law_257 : decode cL_law 257 = .ok (.aload_n 2, 1) := by decide +kernel
theorem dL_law_258 : decode cL_law 258 = .ok (.aload_n 0, 1) := by decide +kernel
theorem dL_law_259 : decode cL_law 259 = .ok (.iload_n 3, 1) := by decide +kernel
theorem dL_law_260 : decode cL_law 260 = .ok (.iconst 1, 1) := by decide +kernel
theorem dL_law_261 : decode cL_law 261 = .ok (.iadd, 1) := by decide +kernel
theorem dL_law_262 : decode cL_law 262 = .ok (.iaload, 1) := by decide +kernel
theorem dL_law_263 : decode cL_law 263 = .ok (.aload_n 0, 1) := by decide +kernel
theorem dL_law_264 : decode cL_law 264 = .ok (.iload_n 3, 1) := by decide +kernel
theorem dL_law_265 : decode cL_law 265 = .ok (.iconst 2, 1) := by decide +kernel
theorem dL_law_266 : decode cL_law 266 = .ok (.iadd, 1) := by decide +kernel
theorem dL_law_267 : decode cL_law 267 = .ok (.iaload, 1) := by decide +kernel
theorem dL_law_268 : decode cL_law 268 = .ok (.invokevirtual 32, 3) := by decide +kernel
theorem dL_law_271 : decode cL_law 271 = .ok (.if_icmp .eq 616, 3) := by decide +kernel
theorem dL_law_274 : decode cL_law 274 = .ok (.iconst 0, 1) := by decide +kernel
theorem dL_law_275 : decode cL_law 275 = .ok (.ireturn, 1) := by decide +kernel
theorem dL_law_276 : decode cL_law 276 = .ok (.aload_n 1, 1) := by decide +kernel
theorem dL_law_277 : decode cL_law 277 = .ok (.aload_n 0, 1) := by decide +kernel
theorem dL_law_278 : decode cL_law 278 = .ok (.iload_n 3, 1) := by decide +kernel
theorem dL_law_279 : decode cL_law 279 = .ok (.iconst 1, 1) := by decide +kernel
theorem dL_law_280 : decode cL_law 280 = .ok (.iadd, 1) := by decide +kernel
theorem dL_law_281 : decode cL_law 281 = .ok (.iaload, 1) := by decide +kernel
theorem dL_law_282 : decode cL_law 282 = .ok (.aload_n 0, 1) := by decide +kernel
theorem dL_law_283 : decode cL_law 283 = .ok (.iload_n 3, 1) := by decide +kernel
theorem dL_law_284 : decode cL_law 284 = .ok (.iconst 2, 1) := by decide +kernel
theorem dL_law_285 : decode cL_law 285 = .ok (.iadd, 1) := by decide +kernel
theorem dL_law_286 : decode cL_law 286 = .ok (.iaload, 1) := by decide +kernel
theorem dL_law_287 : decode cL_law 287 = .ok (.aload_n 0, 1) := by decide +kernel
theorem dL_law_288 : decode cL_law 288 = .ok (.iload_n 3, 1) := by decide +kernel
theorem dL_law_289 : decode cL_law 289 = .ok (.iconst 3, 1) := by decide +kernel
theorem dL_law_290 : decode cL_law 290 = .ok (.iadd, 1) := by decide +kernel
theorem dL_law_291 : decode cL_law 291 = .ok (.iaload, 1) := by decide +kernel
theorem dL_law_292 : decode cL_law 292 = .ok (.ifCond .eq 7, 3) := by decide +kernel
theorem dL_law_295 : decode cL_law 295 = .ok (.iconst 1, 1) := by decide +kernel
theorem dL_law_296 : decode cL_law 296 = .ok (.goto 4, 3) := by decide +kernel
theorem dL_law_299 : decode cL_law 299 = .ok (.iconst 0, 1) := by decide +kernel
theorem dL_law_300 : decode cL_law 300 = .ok (.invokevirtual 33, 3) := by decide +kernel
theorem dL_law_303 : decode cL_law 303 = .ok (.aload_n 2, 1) := by decide +kernel
theorem dL_law_304 : decode cL_law 304 = .ok (.aload_n 0, 1) := by decide +kernel
theorem dL_law_305 : decode cL_law 305 = .ok (.iload_n 3, 1) := by decide +kernel
theorem dL_law_306 : decode cL_law 306 = .ok (.iconst 1, 1) := by decide +kernel
theorem dL_law_307 : decode cL_law 307 = .ok (.iadd, 1) := by decide +kernel
theorem dL_law_308 : decode cL_law 308 = .ok (.iaload, 1) := by decide +kernel
theorem dL_law_309 : decode cL_law 309 = .ok (.aload_n 0, 1) := by decide +kernel
theorem dL_law_310 : decode cL_law 310 = .ok (.iload_n 3, 1) := by decide +kernel
theorem dL_law_311 : decode cL_law 311 = .ok (.iconst 2, 1) := by decide +kernel
theorem dL_law_312 : decode cL_law 312 = .ok (.iadd, 1) := by decide +kernel
theorem dL_law_313 : decode cL_law 313 = .ok (.iaload, 1) := by decide +kernel
theorem dL_law_314 : decode cL_law 314 = .ok (.aload_n 0, 1) := by decide +kernel
theorem dL_law_315 : decode cL_law 315 = .ok (.iload_n 3, 1) := by decide +kernel
theorem dL_law_316 : decode cL_law 316 = .ok (.iconst 3, 1) := by decide +kernel
theorem dL_law_317 : decode cL_law 317 = .ok (.iadd, 1) := by decide +kernel
theorem dL_law_318 : decode cL_law 318 = .ok (.iaload, 1) := by decide +kernel
theorem dL_law_319 : decode cL_law 319 = .ok (.ifCond .eq 7, 3) := by decide +kernel
theorem dL_law_322 : decode cL_law 322 = .ok (.iconst 1, 1) := by decide +kernel
theorem dL_law_323 : decode cL_law 323 = .ok (.goto 4, 3) := by decide +kernel
theorem dL_law_326 : decode cL_law 326 = .ok (.iconst 0, 1) := by decide +kernel
theorem dL_law_327 : decode cL_law 327 = .ok (.invokevirtual 37, 3) := by decide +kernel
theorem dL_law_330 : decode cL_law 330 = .ok (.if_icmp .eq 557, 3) := by decide +kernel
theorem dL_law_333 : decode cL_law 333 = .ok (.iconst 0, 1) := by decide +kernel
theorem dL_law_334 : decode cL_law 334 = .ok (.ireturn, 1) := by decide +kernel
theorem dL_law_335 : decode cL_law 335 = .ok (.aload_n 1, 1) := by decide +kernel
theorem dL_law_336 : decode cL_law 336 = .ok (.aload_n 0, 1) := by decide +kernel
theorem dL_law_337 : decode cL_law 337 = .ok (.iload_n 3, 1) := by decide +kernel
theorem dL_law_338 : decode cL_law 338 = .ok (.iconst 1, 1) := by decide +kernel
theorem dL_law_339 : decode cL_law 339 = .ok (.iadd, 1) := by decide +kernel
theorem dL_law_340 : decode cL_law 340 = .ok (.iaload, 1) := by decide +kernel
theorem dL_law_341 : decode cL_law 341 = .ok (.aload_n 0, 1) := by decide +kernel
theorem dL_law_342 : decode cL_law 342 = .ok (.iload_n 3, 1) := by decide +kernel
theorem dL_law_343 : decode cL_law 343 = .ok (.iconst 2, 1) := by decide +kernel
theorem dL_law_344 : decode cL_law 344 = .ok (.iadd, 1) := by decide +kernel
theorem dL_law_345 : decode cL_law 345 = .ok (.iaload, 1) := by decide +kernel
theorem dL_law_346 : decode cL_law 346 = .ok (.invokevirtual 38, 3) := by decide +kernel
theorem dL_law_349 : decode cL_law 349 = .ok (.aload_n 2, 1) := by decide +kernel
theorem dL_law_350 : decode cL_law 350 = .ok (.aload_n 0, 1) := by decide +kernel
theorem dL_law_351 : decode cL_law 351 = .ok (.iload_n 3, 1) := by decide +kernel
theorem dL_law_352 : decode cL_law 352 = .ok (.iconst 1, 1) := by decide +kernel
theorem dL_law_353 : decode cL_law 353 = .ok (.iadd, 1) := by decide +kernel
theorem dL_law_354 : decode cL_law 354 = .ok (.iaload, 1) := by decide +kernel
theorem dL_law_355 : decode cL_law 355 = .ok (.aload_n 0, 1) := by decide +kernel
theorem dL_law_356 : decode cL_law 356 = .ok (.iload_n 3, 1) := by decide +kernel
theorem dL_law_357 : decode cL_law 357 = .ok (.iconst 2, 1) := by decide +kernel
theorem dL_law_358 : decode cL_law 358 = .ok (.iadd, 1) := by decide +kernel
theorem dL_law_359 : decode cL_law 359 = .ok (.iaload, 1) := by decide +kernel
theorem dL_law_360 : decode cL_law 360 = .ok (.invokevirtual 41, 3) := by decide +kernel
theorem dL_law_363 : decode cL_law 363 = .ok (.if_icmp .eq 524, 3) := by decide +kernel
theorem dL_law_366 : decode cL_law 366 = .ok (.iconst 0, 1) := by decide +kernel
theorem dL_law_367 : decode cL_law 367 = .ok (.ireturn, 1) := by decide +kernel
theorem dL_law_368 : decode cL_law 368 = .ok (.aload_n 1, 1) := by decide +kernel
theorem dL_law_369 : decode cL_law 369 = .ok (.aload_n 0, 1) := by decide +kernel
theorem dL_law_370 : decode cL_law 370 = .ok (.iload_n 3, 1) := by decide +kernel
theorem dL_law_371 : decode cL_law 371 = .ok (.iconst 1, 1) := by decide +kernel
theorem dL_law_372 : decode cL_law 372 = .ok (.iadd, 1) := by decide +kernel
theorem dL_law_373 : decode cL_law 373 = .ok (.iaload, 1) := by decide +kernel
theorem dL_law_374 : decode cL_law 374 = .ok (.invokevirtual 42, 3) := by decide +kernel
theorem dL_law_377 : decode cL_law 377 = .ok (.aload_n 2, 1) := by decide +kernel
theorem dL_law_378 : decode cL_law 378 = .ok (.aload_n 0, 1) := by decide +kernel
theorem dL_law_379 : decode cL_law 379 = .ok (.iload_n 3, 1) := by decide +kernel
theorem dL_law_380 : decode cL_law 380 = .ok (.iconst 1, 1) := by decide +kernel
theorem dL_law_381 : decode cL_law 381 = .ok (.iadd, 1) := by decide +kernel
theorem dL_law_382 : decode cL_law 382 = .ok (.iaload, 1) := by decide +kernel
theorem dL_law_383 : decode cL_law 383 = .ok (.invokevirtual 45, 3) := by decide +kernel
theorem dL_law_386 : decode cL_law 386 = .ok (.if_icmp .eq 501, 3) := by decide +kernel
theorem dL_law_389 : decode cL_law 389 = .ok (.iconst 0, 1) := by decide +kernel
theorem dL_law_390 : decode cL_law 390 = .ok (.ireturn, 1) := by decide +kernel
theorem dL_law_391 : decode cL_law 391 = .ok (.aload_n 1, 1) := by decide +kernel
theorem dL_law_392 : decode cL_law 392 = .ok (.aload_n 0, 1) := by decide +kernel
theorem dL_law_393 : decode cL_law 393 = .ok (.iload_n 3, 1) := by decide +kernel
theorem dL_law_394 : decode cL_law 394 = .ok (.iconst 1, 1) := by decide +kernel
theorem dL_law_395 : decode cL_law 395 = .ok (.iadd, 1) := by decide +kernel
theorem dL_law_396 : decode cL_law 396 = .ok (.iaload, 1) := by decide +kernel
theorem dL_law_397 : decode cL_law 397 = .ok (.aload_n 0, 1) := by decide +kernel
theorem dL_law_398 : decode cL_law 398 = .ok (.iload_n 3, 1) := by decide +kernel
theorem dL_law_399 : decode cL_law 399 = .ok (.iconst 2, 1) := by decide +kernel
theorem dL_law_400 : decode cL_law 400 = .ok (.iadd, 1) := by decide +kernel
theorem dL_law_401 : decode cL_law 401 = .ok (.iaload, 1) := by decide +kernel
theorem dL_law_402 : decode cL_law 402 = .ok (.invokevirtual 46, 3) := by decide +kernel
theorem dL_law_405 : decode cL_law 405 = .ok (.aload_n 2, 1) := by decide +kernel
theorem dL_law_406 : decode cL_law 406 = .ok (.aload_n 0, 1) := by decide +kernel
theorem dL_law_407 : decode cL_law 407 = .ok (.iload_n 3, 1) := by decide +kernel
theorem dL_law_408 : decode cL_law 408 = .ok (.iconst 1, 1) := by decide +kernel
theorem dL_law_409 : decode cL_law 409 = .ok (.iadd, 1) := by decide +kernel
theorem dL_law_410 : decode cL_law 410 = .ok (.iaload, 1) := by decide +kernel
theorem dL_law_411 : decode cL_law 411 = .ok (.aload_n 0, 1) := by decide +kernel
theorem dL_law_412 : decode cL_law 412 = .ok (.iload_n 3, 1) := by decide +kernel
theorem dL_law_413 : decode cL_law 413 = .ok (.iconst 2, 1) := by decide +kernel
theorem dL_law_414 : decode cL_law 414 = .ok (.iadd, 1) := by decide +kernel
theorem dL_law_415 : decode cL_law 415 = .ok (.iaload, 1) := by decide +kernel
theorem dL_law_416 : decode cL_law 416 = .ok (.invokevirtual 49, 3) := by decide +kernel
theorem dL_law_419 : decode cL_law 419 = .ok (.if_icmp .eq 468, 3) := by decide +kernel
theorem dL_law_422 : decode cL_law 422 = .ok (.iconst 0, 1) := by decide +kernel
theorem dL_law_423 : decode cL_law 423 = .ok (.ireturn, 1) := by decide +kernel
theorem dL_law_424 : decode cL_law 424 = .ok (.aload_n 1, 1) := by decide +kernel
theorem dL_law_425 : decode cL_law 425 = .ok (.aload_n 0, 1) := by decide +kernel
theorem dL_law_426 : decode cL_law 426 = .ok (.iload_n 3, 1) := by decide +kernel
theorem dL_law_427 : decode cL_law 427 = .ok (.iconst 1, 1) := by decide +kernel
theorem dL_law_428 : decode cL_law 428 = .ok (.iadd, 1) := by decide +kernel
theorem dL_law_429 : decode cL_law 429 = .ok (.iaload, 1) := by decide +kernel
theorem dL_law_430 : decode cL_law 430 = .ok (.aload_n 0, 1) := by decide +kernel
theorem dL_law_431 : decode cL_law 431 = .ok (.iload_n 3, 1) := by decide +kernel
theorem dL_law_432 : decode cL_law 432 = .ok (.iconst 2, 1) := by decide +kernel
theorem dL_law_433 : decode cL_law 433 = .ok (.iadd, 1) := by decide +kernel
theorem dL_law_434 : decode cL_law 434 = .ok (.iaload, 1) := by decide +kernel
theorem dL_law_435 : decode cL_law 435 = .ok (.invokevirtual 50, 3) := by decide +kernel
theorem dL_law_438 : decode cL_law 438 = .ok (.aload_n 2, 1) := by decide +kernel
theorem dL_law_439 : decode cL_law 439 = .ok (.aload_n 0, 1) := by decide +kernel
theorem dL_law_440 : decode cL_law 440 = .ok (.iload_n 3, 1) := by decide +kernel
theorem dL_law_441 : decode cL_law 441 = .ok (.iconst 1, 1) := by decide +kernel
theorem dL_law_442 : decode cL_law 442 = .ok (.iadd, 1) := by decide +kernel
theorem dL_law_443 : decode cL_law 443 = .ok (.iaload, 1) := by decide +kernel
theorem dL_law_444 : decode cL_law 444 = .ok (.aload_n 0, 1) := by decide +kernel
theorem dL_law_445 : decode cL_law 445 = .ok (.iload_n 3, 1) := by decide +kernel
theorem dL_law_446 : decode cL_law 446 = .ok (.iconst 2, 1) := by decide +kernel
theorem dL_law_447 : decode cL_law 447 = .ok (.iadd, 1) := by decide +kernel
theorem dL_law_448 : decode cL_law 448 = .ok (.iaload, 1) := by decide +kernel
theorem dL_law_449 : decode cL_law 449 = .ok (.invokevirtual 53, 3) := by decide +kernel
theorem dL_law_452 : decode cL_law 452 = .ok (.if_icmp .eq 435, 3) := by decide +kernel
theorem dL_law_455 : decode cL_law 455 = .ok (.iconst 0, 1) := by decide +kernel
theorem dL_law_456 : decode cL_law 456 = .ok (.ireturn, 1) := by decide +kernel
theorem dL_law_457 : decode cL_law 457 = .ok (.aload_n 1, 1) := by decide +kernel
theorem dL_law_458 : decode cL_law 458 = .ok (.aload_n 0, 1) := by decide +kernel
theorem dL_law_459 : decode cL_law 459 = .ok (.iload_n 3, 1) := by decide +kernel
theorem dL_law_460 : decode cL_law 460 = .ok (.iconst 1, 1) := by decide +kernel
theorem dL_law_461 : decode cL_law 461 = .ok (.iadd, 1) := by decide +kernel
theorem dL_law_462 : decode cL_law 462 = .ok (.iaload, 1) := by decide +kernel
theorem dL_law_463 : decode cL_law 463 = .ok (.aload_n 0, 1) := by decide +kernel
theorem dL_law_464 : decode cL_law 464 = .ok (.iload_n 3, 1) := by decide +kernel
theorem dL_law_465 : decode cL_law 465 = .ok (.iconst 2, 1) := by decide +kernel
theorem dL_law_466 : decode cL_law 466 = .ok (.iadd, 1) := by decide +kernel
theorem dL_law_467 : decode cL_law 467 = .ok (.iaload, 1) := by decide +kernel
theorem dL_law_468 : decode cL_law 468 = .ok (.invokevirtual 54, 3) := by decide +kernel
theorem dL_law_471 : decode cL_law 471 = .ok (.aload_n 2, 1) := by decide +kernel
theorem dL_law_472 : decode cL_law 472 = .ok (.aload_n 0, 1) := by decide +kernel
theorem dL_law_473 : decode cL_law 473 = .ok (.iload_n 3, 1) := by decide +kernel
theorem dL_law_474 : decode cL_law 474 = .ok (.iconst 1, 1) := by decide +kernel
theorem dL_law_475 : decode cL_law 475 = .ok (.iadd, 1) := by decide +kernel
theorem dL_law_476 : decode cL_law 476 = .ok (.iaload, 1) := by decide +kernel
theorem dL_law_477 : decode cL_law 477 = .ok (.aload_n 0, 1) := by decide +kernel
theorem dL_law_478 : decode cL_law 478 = .ok (.iload_n 3, 1) := by decide +kernel
theorem dL_law_479 : decode cL_law 479 = .ok (.iconst 2, 1) := by decide +kernel
theorem dL_law_480 : decode cL_law 480 = .ok (.iadd, 1) := by decide +kernel
theorem dL_law_481 : decode cL_law 481 = .ok (.iaload, 1) := by decide +kernel
theorem dL_law_482 : decode cL_law 482 = .ok (.invokevirtual 57, 3) := by decide +kernel
theorem dL_law_485 : decode cL_law 485 = .ok (.if_icmp .eq 402, 3) := by decide +kernel
theorem dL_law_488 : decode cL_law 488 = .ok (.iconst 0, 1) := by decide +kernel
theorem dL_law_489 : decode cL_law 489 = .ok (.ireturn, 1) := by decide +kernel
theorem dL_law_490 : decode cL_law 490 = .ok (.aload_n 1, 1) := by decide +kernel
theorem dL_law_491 : decode cL_law 491 = .ok (.aload_n 0, 1) := by decide +kernel
theorem dL_law_492 : decode cL_law 492 = .ok (.iload_n 3, 1) := by decide +kernel
theorem dL_law_493 : decode cL_law 493 = .ok (.iconst 1, 1) := by decide +kernel
theorem dL_law_494 : decode cL_law 494 = .ok (.iadd, 1) := by decide +kernel
theorem dL_law_495 : decode cL_law 495 = .ok (.iaload, 1) := by decide +kernel
theorem dL_law_496 : decode cL_law 496 = .ok (.aload_n 0, 1) := by decide +kernel
theorem dL_law_497 : decode cL_law 497 = .ok (.iload_n 3, 1) := by decide +kernel
theorem dL_law_498 : decode cL_law 498 = .ok (.iconst 2, 1) := by decide +kernel
theorem dL_law_499 : decode cL_law 499 = .ok (.iadd, 1) := by decide +kernel
theorem dL_law_500 : decode cL_law 500 = .ok (.iaload, 1) := by decide +kernel
theorem dL_law_501 : decode cL_law 501 = .ok (.invokevirtual 58, 3) := by decide +kernel
theorem dL_law_504 : decode cL_law 504 = .ok (.aload_n 2, 1) := by decide +kernel
theorem dL_law_505 : decode cL_law 505 = .ok (.aload_n 0, 1) := by decide +kernel
theorem dL_law_506 : decode cL_law 506 = .ok (.iload_n 3, 1) := by decide +kernel
theorem dL_law_507 : decode cL_law 507 = .ok (.iconst 1, 1) := by decide +kernel
theorem dL_law_508 : decode cL_law 508 = .ok (.iadd, 1) := by decide +kernel
theorem dL_law_509 : decode cL_law 509 = .ok (.iaload, 1) := by decide +kernel
theorem dL_law_510 : decode cL_law 510 = .ok (.aload_n 0, 1) := by decide +kernel
theorem dL_law_511 : decode cL_law 511 = .ok (.iload_n 3, 1) := by decide +kernel
theorem dL_law_512 : decode cL_law 512 = .ok (.iconst 2, 1) := by decide +kernel
theorem dL_law_513 : decode cL_law 513 = .ok (.iadd, 1) := by decide +kernel
theorem dL_law_514 : decode cL_law 514 = .ok (.iaload, 1) := by decide +kernel
theorem dL_law_515 : decode cL_law 515 = .ok (.invokevirtual 61, 3) := by decide +kernel
theorem dL_law_518 : decode cL_law 518 = .ok (.if_icmp .eq 369, 3) := by decide +kernel
theorem dL_law_521 : decode cL_law 521 = .ok (.iconst 0, 1) := by decide +kernel
theorem dL_law_522 : decode cL_law 522 = .ok (.ireturn, 1) := by decide +kernel
theorem dL_law_523 : decode cL_law 523 = .ok (.aload_n 1, 1) := by decide +kernel
theorem dL_law_524 : decode cL_law 524 = .ok (.aload_n 0, 1) := by decide +kernel
theorem dL_law_525 : decode cL_law 525 = .ok (.iload_n 3, 1) := by decide +kernel
theorem dL_law_526 : decode cL_law 526 = .ok (.iconst 1, 1) := by decide +kernel
theorem dL_law_527 : decode cL_law 527 = .ok (.iadd, 1) := by decide +kernel
theorem dL_law_528 : decode cL_law 528 = .ok (.iaload, 1) := by decide +kernel
theorem dL_law_529 : decode cL_law 529 = .ok (.aload_n 0, 1) := by decide +kernel
theorem dL_law_530 : decode cL_law 530 = .ok (.iload_n 3, 1) := by decide +kernel
theorem dL_law_531 : decode cL_law 531 = .ok (.iconst 2, 1) := by decide +kernel
theorem dL_law_532 : decode cL_law 532 = .ok (.iadd, 1) := by decide +kernel
theorem dL_law_533 : decode cL_law 533 = .ok (.iaload, 1) := by decide +kernel
theorem dL_law_534 : decode cL_law 534 = .ok (.invokevirtual 62, 3) := by decide +kernel
theorem dL_law_537 : decode cL_law 537 = .ok (.aload_n 2, 1) := by decide +kernel
theorem dL_law_538 : decode cL_law 538 = .ok (.aload_n 0, 1) := by decide +kernel
theorem dL_law_539 : decode cL_law 539 = .ok (.iload_n 3, 1) := by decide +kernel
theorem dL_law_540 : decode cL_law 540 = .ok (.iconst 1, 1) := by decide +kernel
theorem dL_law_541 : decode cL_law 541 = .ok (.iadd, 1) := by decide +kernel
theorem dL_law_542 : decode cL_law 542 = .ok (.iaload, 1) := by decide +kernel
theorem dL_law_543 : decode cL_law 543 = .ok (.aload_n 0, 1) := by decide +kernel
theorem dL_law_544 : decode cL_law 544 = .ok (.iload_n 3, 1) := by decide +kernel
theorem dL_law_545 : decode cL_law 545 = .ok (.iconst 2, 1) := by decide +kernel
theorem dL_law_546 : decode cL_law 546 = .ok (.iadd, 1) := by decide +kernel
theorem dL_law_547 : decode cL_law 547 = .ok (.iaload, 1) := by decide +kernel
theorem dL_law_548 : decode cL_law 548 = .ok (.invokevirtual 65, 3) := by decide +kernel
theorem dL_law_551 : decode cL_law 551 = .ok (.if_icmp .eq 336, 3) := by decide +kernel
theorem dL_law_554 : decode cL_law 554 = .ok (.iconst 0, 1) := by decide +kernel
theorem dL_law_555 : decode cL_law 555 = .ok (.ireturn, 1) := by decide +kernel
theorem dL_law_556 : decode cL_law 556 = .ok (.aload_n 1, 1) := by decide +kernel
theorem dL_law_557 : decode cL_law 557 = .ok (.aload_n 0, 1) := by decide +kernel
theorem dL_law_558 : decode cL_law 558 = .ok (.iload_n 3, 1) := by decide +kernel
theorem dL_law_559 : decode cL_law 559 = .ok (.iconst 1, 1) := by decide +kernel
theorem dL_law_560 : decode cL_law 560 = .ok (.iadd, 1) := by decide +kernel
theorem dL_law_561 : decode cL_law 561 = .ok (.iaload, 1) := by decide +kernel
theorem dL_law_562 : decode cL_law 562 = .ok (.aload_n 0, 1) := by decide +kernel
theorem dL_law_563 : decode cL_law 563 = .ok (.iload_n 3, 1) := by decide +kernel
theorem dL_law_564 : decode cL_law 564 = .ok (.iconst 2, 1) := by decide +kernel
theorem dL_law_565 : decode cL_law 565 = .ok (.iadd, 1) := by decide +kernel
theorem dL_law_566 : decode cL_law 566 = .ok (.iaload, 1) := by decide +kernel
theorem dL_law_567 : decode cL_law 567 = .ok (.ifCond .eq 7, 3) := by decide +kernel
theorem dL_law_570 : decode cL_law 570 = .ok (.iconst 1, 1) := by decide +kernel
theorem dL_law_571 : decode cL_law 571 = .ok (.goto 4, 3) := by decide +kernel
theorem dL_law_574 : decode cL_law 574 = .ok (.iconst 0, 1) := by decide +kernel
theorem dL_law_575 : decode cL_law 575 = .ok (.aload_n 0, 1) := by decide +kernel
theorem dL_law_576 : decode cL_law 576 = .ok (.iload_n 3, 1) := by decide +kernel
theorem dL_law_577 : decode cL_law 577 = .ok (.iconst 3, 1) := by decide +kernel
theorem dL_law_578 : decode cL_law 578 = .ok (.iadd, 1) := by decide +kernel
theorem dL_law_579 : decode cL_law 579 = .ok (.iaload, 1) := by decide +kernel
theorem dL_law_580 : decode cL_law 580 = .ok (.invokevirtual 66, 3) := by decide +kernel
theorem dL_law_583 : decode cL_law 583 = .ok (.aload_n 2, 1) := by decide +kernel
theorem dL_law_584 : decode cL_law 584 = .ok (.aload_n 0, 1) := by decide +kernel
theorem dL_law_585 : decode cL_law 585 = .ok (.iload_n 3, 1) := by decide +kernel
theorem dL_law_586 : decode cL_law 586 = .ok (.iconst 1, 1) := by decide +kernel
theorem dL_law_587 : decode cL_law 587 = .ok (.iadd, 1) := by decide +kernel
theorem dL_law_588 : decode cL_law 588 = .ok (.iaload, 1) := by decide +kernel
theorem dL_law_589 : decode cL_law 589 = .ok (.aload_n 0, 1) := by decide +kernel
theorem dL_law_590 : decode cL_law 590 = .ok (.iload_n 3, 1) := by decide +kernel
theorem dL_law_591 : decode cL_law 591 = .ok (.iconst 2, 1) := by decide +kernel
theorem dL_law_592 : decode cL_law 592 = .ok (.iadd, 1) := by decide +kernel
theorem dL_law_593 : decode cL_law 593 = .ok (.iaload, 1) := by decide +kernel
theorem dL_law_594 : decode cL_law 594 = .ok (.ifCond .eq 7, 3) := by decide +kernel
theorem dL_law_597 : decode cL_law 597 = .ok (.iconst 1, 1) := by decide +kernel
theorem dL_law_598 : decode cL_law 598 = .ok (.goto 4, 3) := by decide +kernel
theorem dL_law_601 : decode cL_law 601 = .ok (.iconst 0, 1) := by decide +kernel
theorem dL_law_602 : decode cL_law 602 = .ok (.aload_n 0, 1) := by decide +kernel
theorem dL_law_603 : decode cL_law 603 = .ok (.iload_n 3, 1) := by decide +kernel
theorem dL_law_604 : decode cL_law 604 = .ok (.iconst 3, 1) := by decide +kernel
theorem dL_law_605 : decode cL_law 605 = .ok (.iadd, 1) := by decide +kernel
theorem dL_law_606 : decode cL_law 606 = .ok (.iaload, 1) := by decide +kernel
theorem dL_law_607 : decode cL_law 607 = .ok (.invokevirtual 70, 3) := by decide +kernel
theorem dL_law_610 : decode cL_law 610 = .ok (.if_icmp .eq 277, 3) := by decide +kernel
theorem dL_law_613 : decode cL_law 613 = .ok (.iconst 0, 1) := by decide +kernel
theorem dL_law_614 : decode cL_law 614 = .ok (.ireturn, 1) := by decide +kernel
theorem dL_law_615 : decode cL_law 615 = .ok (.aload_n 1, 1) := by decide +kernel
theorem dL_law_616 : decode cL_law 616 = .ok (.aload_n 0, 1) := by decide +kernel
theorem dL_law_617 : decode cL_law 617 = .ok (.iload_n 3, 1) := by decide +kernel
theorem dL_law_618 : decode cL_law 618 = .ok (.iconst 1, 1) := by decide +kernel
theorem dL_law_619 : decode cL_law 619 = .ok (.iadd, 1) := by decide +kernel
theorem dL_law_620 : decode cL_law 620 = .ok (.iaload, 1) := by decide +kernel
theorem dL_law_621 : decode cL_law 621 = .ok (.aload_n 0, 1) := by decide +kernel
theorem dL_law_622 : decode cL_law 622 = .ok (.iload_n 3, 1) := by decide +kernel
theorem dL_law_623 : decode cL_law 623 = .ok (.iconst 2, 1) := by decide +kernel
theorem dL_law_624 : decode cL_law 624 = .ok (.iadd, 1) := by decide +kernel
theorem dL_law_625 : decode cL_law 625 = .ok (.iaload, 1) := by decide +kernel
theorem dL_law_626 : decode cL_law 626 = .ok (.ifCond .eq 7, 3) := by decide +kernel
theorem dL_law_629 : decode cL_law 629 = .ok (.iconst 1, 1) := by decide +kernel
theorem dL_law_630 : decode cL_law 630 = .ok (.goto 4, 3) := by decide +kernel
theorem dL_law_633 : decode cL_law 633 = .ok (.iconst 0, 1) := by decide +kernel
theorem dL_law_634 : decode cL_law 634 = .ok (.aload_n 0, 1) := by decide +kernel
theorem dL_law_635 : decode cL_law 635 = .ok (.iload_n 3, 1) := by decide +kernel
theorem dL_law_636 : decode cL_law 636 = .ok (.iconst 3, 1) := by decide +kernel
theorem dL_law_637 : decode cL_law 637 = .ok (.iadd, 1) := by decide +kernel
theorem dL_law_638 : decode cL_law 638 = .ok (.iaload, 1) := by decide +kernel
theorem dL_law_639 : decode cL_law 639 = .ok (.ifCond .eq 7, 3) := by decide +kernel
theorem dL_law_642 : decode cL_law 642 = .ok (.iconst 1, 1) := by decide +kernel
theorem dL_law_643 : decode cL_law 643 = .ok (.goto 4, 3) := by decide +kernel
theorem dL_law_646 : decode cL_law 646 = .ok (.iconst 0, 1) := by decide +kernel
theorem dL_law_647 : decode cL_law 647 = .ok (.invokevirtual 71, 3) := by decide +kernel
theorem dL_law_650 : decode cL_law 650 = .ok (.aload_n 2, 1) := by decide +kernel
theorem dL_law_651 : decode cL_law 651 = .ok (.aload_n 0, 1) := by decide +kernel
theorem dL_law_652 : decode cL_law 652 = .ok (.iload_n 3, 1) := by decide +kernel
theorem dL_law_653 : decode cL_law 653 = .ok (.iconst 1, 1) := by decide +kernel
theorem dL_law_654 : decode cL_law 654 = .ok (.iadd, 1) := by decide +kernel
theorem dL_law_655 : decode cL_law 655 = .ok (.iaload, 1) := by decide +kernel
theorem dL_law_656 : decode cL_law 656 = .ok (.aload_n 0, 1) := by decide +kernel
theorem dL_law_657 : decode cL_law 657 = .ok (.iload_n 3, 1) := by decide +kernel
theorem dL_law_658 : decode cL_law 658 = .ok (.iconst 2, 1) := by decide +kernel
theorem dL_law_659 : decode cL_law 659 = .ok (.iadd, 1) := by decide +kernel
theorem dL_law_660 : decode cL_law 660 = .ok (.iaload, 1) := by decide +kernel
theorem dL_law_661 : decode cL_law 661 = .ok (.ifCond .eq 7, 3) := by decide +kernel
theorem dL_law_664 : decode cL_law 664 = .ok (.iconst 1, 1) := by decide +kernel
theorem dL_law_665 : decode cL_law 665 = .ok (.goto 4, 3) := by decide +kernel
theorem dL_law_668 : decode cL_law 668 = .ok (.iconst 0, 1) := by decide +kernel
theorem dL_law_669 : decode cL_law 669 = .ok (.aload_n 0, 1) := by decide +kernel
theorem dL_law_670 : decode cL_law 670 = .ok (.iload_n 3, 1) := by decide +kernel
theorem dL_law_671 : decode cL_law 671 = .ok (.iconst 3, 1) := by decide +kernel
theorem dL_law_672 : decode cL_law 672 = .ok (.iadd, 1) := by decide +kernel
theorem dL_law_673 : decode cL_law 673 = .ok (.iaload, 1) := by decide +kernel
theorem dL_law_674 : decode cL_law 674 = .ok (.ifCond .eq 7, 3) := by decide +kernel
theorem dL_law_677 : decode cL_law 677 = .ok (.iconst 1, 1) := by decide +kernel
theorem dL_law_678 : decode cL_law 678 = .ok (.goto 4, 3) := by decide +kernel
theorem dL_law_681 : decode cL_law 681 = .ok (.iconst 0, 1) := by decide +kernel
theorem dL_law_682 : decode cL_law 682 = .ok (.invokevirtual 75, 3) := by decide +kernel
theorem dL_law_685 : decode cL_law 685 = .ok (.if_icmp .eq 202, 3) := by decide +kernel
theorem dL_law_688 : decode cL_law 688 = .ok (.iconst 0, 1) := by decide +kernel
theorem dL_law_689 : decode cL_law 689 = .ok (.ireturn, 1) := by decide +kernel
theorem dL_law_690 : decode cL_law 690 = .ok (.aload_n 1, 1) := by decide +kernel
theorem dL_law_691 : decode cL_law 691 = .ok (.aload_n 0, 1) := by decide +kernel
theorem dL_law_692 : decode cL_law 692 = .ok (.iload_n 3, 1) := by decide +kernel
theorem dL_law_693 : decode cL_law 693 = .ok (.iconst 1, 1) := by decide +kernel
theorem dL_law_694 : decode cL_law 694 = .ok (.iadd, 1) := by decide +kernel
theorem dL_law_695 : decode cL_law 695 = .ok (.iaload, 1) := by decide +kernel
theorem dL_law_696 : decode cL_law 696 = .ok (.aload_n 0, 1) := by decide +kernel
theorem dL_law_697 : decode cL_law 697 = .ok (.iload_n 3, 1) := by decide +kernel
theorem dL_law_698 : decode cL_law 698 = .ok (.iconst 2, 1) := by decide +kernel
theorem dL_law_699 : decode cL_law 699 = .ok (.iadd, 1) := by decide +kernel
theorem dL_law_700 : decode cL_law 700 = .ok (.iaload, 1) := by decide +kernel
theorem dL_law_701 : decode cL_law 701 = .ok (.ifCond .eq 7, 3) := by decide +kernel
theorem dL_law_704 : decode cL_law 704 = .ok (.iconst 1, 1) := by decide +kernel
theorem dL_law_705 : decode cL_law 705 = .ok (.goto 4, 3) := by decide +kernel
theorem dL_law_708 : decode cL_law 708 = .ok (.iconst 0, 1) := by decide +kernel
theorem dL_law_709 : decode cL_law 709 = .ok (.aload_n 0, 1) := by decide +kernel
theorem dL_law_710 : decode cL_law 710 = .ok (.iload_n 3, 1) := by decide +kernel
theorem dL_law_711 : decode cL_law 711 = .ok (.iconst 3, 1) := by decide +kernel
theorem dL_law_712 : decode cL_law 712 = .ok (.iadd, 1) := by decide +kernel
theorem dL_law_713 : decode cL_law 713 = .ok (.iaload, 1) := by decide +kernel
theorem dL_law_714 : decode cL_law 714 = .ok (.ifCond .eq 7, 3) := by decide +kernel
theorem dL_law_717 : decode cL_law 717 = .ok (.iconst 1, 1) := by decide +kernel
theorem dL_law_718 : decode cL_law 718 = .ok (.goto 4, 3) := by decide +kernel
theorem dL_law_721 : decode cL_law 721 = .ok (.iconst 0, 1) := by decide +kernel
theorem dL_law_722 : decode cL_law 722 = .ok (.aload_n 0, 1) := by decide +kernel
theorem dL_law_723 : decode cL_law 723 = .ok (.iload_n 3, 1) := by decide +kernel
theorem dL_law_724 : decode cL_law 724 = .ok (.iconst 4, 1) := by decide +kernel
theorem dL_law_725 : decode cL_law 725 = .ok (.iadd, 1) := by decide +kernel
theorem dL_law_726 : decode cL_law 726 = .ok (.iaload, 1) := by decide +kernel
theorem dL_law_727 : decode cL_law 727 = .ok (.invokevirtual 76, 3) := by decide +kernel
theorem dL_law_730 : decode cL_law 730 = .ok (.aload_n 2, 1) := by decide +kernel
theorem dL_law_731 : decode cL_law 731 = .ok (.aload_n 0, 1) := by decide +kernel
theorem dL_law_732 : decode cL_law 732 = .ok (.iload_n 3, 1) := by decide +kernel
theorem dL_law_733 : decode cL_law 733 = .ok (.iconst 1, 1) := by decide +kernel
theorem dL_law_734 : decode cL_law 734 = .ok (.iadd, 1) := by decide +kernel
theorem dL_law_735 : decode cL_law 735 = .ok (.iaload, 1) := by decide +kernel
theorem dL_law_736 : decode cL_law 736 = .ok (.aload_n 0, 1) := by decide +kernel
theorem dL_law_737 : decode cL_law 737 = .ok (.iload_n 3, 1) := by decide +kernel
theorem dL_law_738 : decode cL_law 738 = .ok (.iconst 2, 1) := by decide +kernel
theorem dL_law_739 : decode cL_law 739 = .ok (.iadd, 1) := by decide +kernel
theorem dL_law_740 : decode cL_law 740 = .ok (.iaload, 1) := by decide +kernel
theorem dL_law_741 : decode cL_law 741 = .ok (.ifCond .eq 7, 3) := by decide +kernel
theorem dL_law_744 : decode cL_law 744 = .ok (.iconst 1, 1) := by decide +kernel
theorem dL_law_745 : decode cL_law 745 = .ok (.goto 4, 3) := by decide +kernel
theorem dL_law_748 : decode cL_law 748 = .ok (.iconst 0, 1) := by decide +kernel
theorem dL_law_749 : decode cL_law 749 = .ok (.aload_n 0, 1) := by decide +kernel
theorem dL_law_750 : decode cL_law 750 = .ok (.iload_n 3, 1) := by decide +kernel
theorem dL_law_751 : decode cL_law 751 = .ok (.iconst 3, 1) := by decide +kernel
theorem dL_law_752 : decode cL_law 752 = .ok (.iadd, 1) := by decide +kernel
theorem dL_law_753 : decode cL_law 753 = .ok (.iaload, 1) := by decide +kernel
theorem dL_law_754 : decode cL_law 754 = .ok (.ifCond .eq 7, 3) := by decide +kernel
theorem dL_law_757 : decode cL_law 757 = .ok (.iconst 1, 1) := by decide +kernel
theorem dL_law_758 : decode cL_law 758 = .ok (.goto 4, 3) := by decide +kernel
theorem dL_law_761 : decode cL_law 761 = .ok (.iconst 0, 1) := by decide +kernel
theorem dL_law_762 : decode cL_law 762 = .ok (.aload_n 0, 1) := by decide +kernel
theorem dL_law_763 : decode cL_law 763 = .ok (.iload_n 3, 1) := by decide +kernel
theorem dL_law_764 : decode cL_law 764 = .ok (.iconst 4, 1) := by decide +kernel
theorem dL_law_765 : decode cL_law 765 = .ok (.iadd, 1) := by decide +kernel
theorem dL_law_766 : decode cL_law 766 = .ok (.iaload, 1) := by decide +kernel
theorem dL_law_767 : decode cL_law 767 = .ok (.invokevirtual 80, 3) := by decide +kernel
theorem dL_law_770 : decode cL_law 770 = .ok (.if_icmp .eq 117, 3) := by decide +kernel
theorem dL_law_773 : decode cL_law 773 = .ok (.iconst 0, 1) := by decide +kernel
theorem dL_law_774 : decode cL_law 774 = .ok (.ireturn, 1) := by decide +kernel
theorem dL_law_775 : decode cL_law 775 = .ok (.aload_n 1, 1) := by decide +kernel
theorem dL_law_776 : decode cL_law 776 = .ok (.aload_n 0, 1) := by decide +kernel
theorem dL_law_777 : decode cL_law 777 = .ok (.iload_n 3, 1) := by decide +kernel
theorem dL_law_778 : decode cL_law 778 = .ok (.iconst 1, 1) := by decide +kernel
theorem dL_law_779 : decode cL_law 779 = .ok (.iadd, 1) := by decide +kernel
theorem dL_law_780 : decode cL_law 780 = .ok (.iaload, 1) := by decide +kernel
theorem dL_law_781 : decode cL_law 781 = .ok (.aload_n 0, 1) := by decide +kernel
theorem dL_law_782 : decode cL_law 782 = .ok (.iload_n 3, 1) := by decide +kernel
theorem dL_law_783 : decode cL_law 783 = .ok (.iconst 2, 1) := by decide +kernel
theorem dL_law_784 : decode cL_law 784 = .ok (.iadd, 1) := by decide +kernel
theorem dL_law_785 : decode cL_law 785 = .ok (.iaload, 1) := by decide +kernel
theorem dL_law_786 : decode cL_law 786 = .ok (.invokevirtual 81, 3) := by decide +kernel
theorem dL_law_789 : decode cL_law 789 = .ok (.aload_n 2, 1) := by decide +kernel
theorem dL_law_790 : decode cL_law 790 = .ok (.aload_n 0, 1) := by decide +kernel
theorem dL_law_791 : decode cL_law 791 = .ok (.iload_n 3, 1) := by decide +kernel
theorem dL_law_792 : decode cL_law 792 = .ok (.iconst 1, 1) := by decide +kernel
theorem dL_law_793 : decode cL_law 793 = .ok (.iadd, 1) := by decide +kernel
theorem dL_law_794 : decode cL_law 794 = .ok (.iaload, 1) := by decide +kernel
theorem dL_law_795 : decode cL_law 795 = .ok (.aload_n 0, 1) := by decide +kernel
theorem dL_law_796 : decode cL_law 796 = .ok (.iload_n 3, 1) := by decide +kernel
theorem dL_law_797 : decode cL_law 797 = .ok (.iconst 2, 1) := by decide +kernel
theorem dL_law_798 : decode cL_law 798 = .ok (.iadd, 1) := by decide +kernel
theorem dL_law_799 : decode cL_law 799 = .ok (.iaload, 1) := by decide +kernel
theorem dL_law_800 : decode cL_law 800 = .ok (.invokevirtual 84, 3) := by decide +kernel
theorem dL_law_803 : decode cL_law 803 = .ok (.if_icmp .eq 84, 3) := by decide +kernel
theorem dL_law_806 : decode cL_law 806 = .ok (.iconst 0, 1) := by decide +kernel
theorem dL_law_807 : decode cL_law 807 = .ok (.ireturn, 1) := by decide +kernel
theorem dL_law_808 : decode cL_law 808 = .ok (.aload_n 1, 1) := by decide +kernel
theorem dL_law_809 : decode cL_law 809 = .ok (.aload_n 0, 1) := by decide +kernel
theorem dL_law_810 : decode cL_law 810 = .ok (.iload_n 3, 1) := by decide +kernel
theorem dL_law_811 : decode cL_law 811 = .ok (.iconst 1, 1) := by decide +kernel
theorem dL_law_812 : decode cL_law 812 = .ok (.iadd, 1) := by decide +kernel
theorem dL_law_813 : decode cL_law 813 = .ok (.iaload, 1) := by decide +kernel
theorem dL_law_814 : decode cL_law 814 = .ok (.aload_n 0, 1) := by decide +kernel
theorem dL_law_815 : decode cL_law 815 = .ok (.iload_n 3, 1) := by decide +kernel
theorem dL_law_816 : decode cL_law 816 = .ok (.iconst 2, 1) := by decide +kernel
theorem dL_law_817 : decode cL_law 817 = .ok (.iadd, 1) := by decide +kernel
theorem dL_law_818 : decode cL_law 818 = .ok (.iaload, 1) := by decide +kernel
theorem dL_law_819 : decode cL_law 819 = .ok (.invokevirtual 85, 3) := by decide +kernel
theorem dL_law_822 : decode cL_law 822 = .ok (.aload_n 2, 1) := by decide +kernel
theorem dL_law_823 : decode cL_law 823 = .ok (.aload_n 0, 1) := by decide +kernel
theorem dL_law_824 : decode cL_law 824 = .ok (.iload_n 3, 1) := by decide +kernel
theorem dL_law_825 : decode cL_law 825 = .ok (.iconst 1, 1) := by decide +kernel
theorem dL_law_826 : decode cL_law 826 = .ok (.iadd, 1) := by decide +kernel
theorem dL_law_827 : decode cL_law 827 = .ok (.iaload, 1) := by decide +kernel
theorem dL_law_828 : decode cL_law 828 = .ok (.aload_n 0, 1) := by decide +kernel
theorem dL_law_829 : decode cL_law 829 = .ok (.iload_n 3, 1) := by decide +kernel
theorem dL_law_830 : decode cL_law 830 = .ok (.iconst 2, 1) := by decide +kernel
theorem dL_law_831 : decode cL_law 831 = .ok (.iadd, 1) := by decide +kernel
theorem dL_law_832 : decode cL_law 832 = .ok (.iaload, 1) := by decide +kernel
theorem dL_law_833 : decode cL_law 833 = .ok (.invokevirtual 88, 3) := by decide +kernel
theorem dL_law_836 : decode cL_law 836 = .ok (.if_icmp .eq 51, 3) := by decide +kernel
theorem dL_law_839 : decode cL_law 839 = .ok (.iconst 0, 1) := by decide +kernel
theorem dL_law_840 : decode cL_law 840 = .ok (.ireturn, 1) := by decide +kernel
theorem dL_law_841 : decode cL_law 841 = .ok (.aload_n 1, 1) := by decide +kernel
theorem dL_law_842 : decode cL_law 842 = .ok (.aload_n 0, 1) := by decide +kernel
theorem dL_law_843 : decode cL_law 843 = .ok (.iload_n 3, 1) := by decide +kernel
theorem dL_law_844 : decode cL_law 844 = .ok (.iconst 1, 1) := by decide +kernel
theorem dL_law_845 : decode cL_law 845 = .ok (.iadd, 1) := by decide +kernel
