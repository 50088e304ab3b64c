theorem dX0_init_0 : decode cX0_init 0 = .ok (.aload_n 0, 1) := by decide +kernel
theorem dX0_init_1 : decode cX0_init 1 = .ok (.invokespecial 3, 3) := by decide +kernel
theorem dX0_init_4 : decode cX0_init 4 = .ok (.aload_n 0, 1) := by decide +kernel
theorem dX0_init_5 : decode cX0_init 5 = .ok (.bipush 16, 2) := by decide +kernel
theorem dX0_init_7 : decode cX0_init 7 = .ok (.newarray .boolean, 2) := by decide +kernel
theorem dX0_init_9 : decode cX0_init 9 = .ok (.putfield 9, 3) := by decide +kernel
theorem dX0_init_12 : decode cX0_init 12 = .ok (.aload_n 0, 1) := by decide +kernel
theorem dX0_init_13 : decode cX0_init 13 = .ok (.bipush 16, 2) := by decide +kernel
theorem dX0_init_15 : decode cX0_init 15 = .ok (.newarray .int, 2) := by decide +kernel
theorem dX0_init_17 : decode cX0_init 17 = .ok (.putfield 15, 3) := by decide +kernel
theorem dX0_init_20 : decode cX0_init 20 = .ok (.aload_n 0, 1) := by decide +kernel
theorem dX0_init_21 : decode cX0_init 21 = .ok (.bipush 16, 2) := by decide +kernel
theorem dX0_init_23 : decode cX0_init 23 = .ok (.newarray .int, 2) := by decide +kernel
theorem dX0_init_25 : decode cX0_init 25 = .ok (.putfield 19, 3) := by decide +kernel
theorem dX0_init_28 : decode cX0_init 28 = .ok (.aload_n 0, 1) := by decide +kernel
theorem dX0_init_29 : decode cX0_init 29 = .ok (.bipush 16, 2) := by decide +kernel
theorem dX0_init_31 : decode cX0_init 31 = .ok (.newarray .int, 2) := by decide +kernel
theorem dX0_init_33 : decode cX0_init 33 = .ok (.putfield 22, 3) := by decide +kernel
theorem dX0_init_36 : decode cX0_init 36 = .ok (.aload_n 0, 1) := by decide +kernel
theorem dX0_init_37 : decode cX0_init 37 = .ok (.bipush 16, 2) := by decide +kernel
theorem dX0_init_39 : decode cX0_init 39 = .ok (.newarray .int, 2) := by decide +kernel
theorem dX0_init_41 : decode cX0_init 41 = .ok (.putfield 25, 3) := by decide +kernel
theorem dX0_init_44 : decode cX0_init 44 = .ok (.aload_n 0, 1) := by decide +kernel
theorem dX0_init_45 : decode cX0_init 45 = .ok (.bipush 16, 2) := by decide +kernel
theorem dX0_init_47 : decode cX0_init 47 = .ok (.newarray .int, 2) := by decide +kernel
theorem dX0_init_49 : decode cX0_init 49 = .ok (.putfield 28, 3) := by decide +kernel
theorem dX0_init_52 : decode cX0_init 52 = .ok (.aload_n 0, 1) := by decide +kernel
theorem dX0_init_53 : decode cX0_init 53 = .ok (.bipush 6, 2) := by decide +kernel
theorem dX0_init_55 : decode cX0_init 55 = .ok (.newarray .int, 2) := by decide +kernel
theorem dX0_init_57 : decode cX0_init 57 = .ok (.putfield 31, 3) := by decide +kernel
theorem dX0_init_60 : decode cX0_init 60 = .ok (.aload_n 0, 1) := by decide +kernel
theorem dX0_init_61 : decode cX0_init 61 = .ok (.bipush 6, 2) := by decide +kernel
theorem dX0_init_63 : decode cX0_init 63 = .ok (.newarray .int, 2) := by decide +kernel
theorem dX0_init_65 : decode cX0_init 65 = .ok (.putfield 34, 3) := by decide +kernel
theorem dX0_init_68 : decode cX0_init 68 = .ok (.aload_n 0, 1) := by decide +kernel
theorem dX0_init_69 : decode cX0_init 69 = .ok (.bipush 6, 2) := by decide +kernel
theorem dX0_init_71 : decode cX0_init 71 = .ok (.newarray .int, 2) := by decide +kernel
theorem dX0_init_73 : decode cX0_init 73 = .ok (.putfield 37, 3) := by decide +kernel
theorem dX0_init_76 : decode cX0_init 76 = .ok (.aload_n 0, 1) := by decide +kernel
theorem dX0_init_77 : decode cX0_init 77 = .ok (.invokevirtual 40, 3) := by decide +kernel
theorem dX0_init_80 : decode cX0_init 80 = .ok (.return_, 1) := by decide +kernel
theorem dX0_clear_0 : decode cX0_clear 0 = .ok (.aload_n 0, 1) := by decide +kernel
theorem dX0_clear_1 : decode cX0_clear 1 = .ok (.iconst 0, 1) := by decide +kernel
theorem dX0_clear_2 : decode cX0_clear 2 = .ok (.putfield 43, 3) := by decide +kernel
theorem dX0_clear_5 : decode cX0_clear 5 = .ok (.aload_n 0, 1) := by decide +kernel
theorem dX0_clear_6 : decode cX0_clear 6 = .ok (.iconst 0, 1) := by decide +kernel
theorem dX0_clear_7 : decode cX0_clear 7 = .ok (.putfield 47, 3) := by decide +kernel
theorem dX0_clear_10 : decode cX0_clear 10 = .ok (.iconst 0, 1) := by decide +kernel
theorem dX0_clear_11 : decode cX0_clear 11 = .ok (.istore_n 1, 1) := by decide +kernel
theorem dX0_clear_12 : decode cX0_clear 12 = .ok (.iload_n 1, 1) := by decide +kernel
theorem dX0_clear_13 : decode cX0_clear 13 = .ok (.bipush 16, 2) := by decide +kernel
theorem dX0_clear_15 : decode cX0_clear 15 = .ok (.if_icmp .ge 31, 3) := by decide +kernel
theorem dX0_clear_18 : decode cX0_clear 18 = .ok (.aload_n 0, 1) := by decide +kernel
theorem dX0_clear_19 : decode cX0_clear 19 = .ok (.getfield 9, 3) := by decide +kernel
theorem dX0_clear_22 : decode cX0_clear 22 = .ok (.iload_n 1, 1) := by decide +kernel
theorem dX0_clear_23 : decode cX0_clear 23 = .ok (.iconst 0, 1) := by decide +kernel
theorem dX0_clear_24 : decode cX0_clear 24 = .ok (.bastore, 1) := by decide +kernel
theorem dX0_clear_25 : decode cX0_clear 25 = .ok (.aload_n 0, 1) := by decide +kernel
theorem dX0_clear_26 : decode cX0_clear 26 = .ok (.getfield 25, 3) := by decide +kernel
theorem dX0_clear_29 : decode cX0_clear 29 = .ok (.iload_n 1, 1) := by decide +kernel
theorem dX0_clear_30 : decode cX0_clear 30 = .ok (.bipush (-2), 2) := by decide +kernel
theorem dX0_clear_32 : decode cX0_clear 32 = .ok (.iastore, 1) := by decide +kernel
theorem dX0_clear_33 : decode cX0_clear 33 = .ok (.aload_n 0, 1) := by decide +kernel
theorem dX0_clear_34 : decode cX0_clear 34 = .ok (.getfield 28, 3) := by decide +kernel
theorem dX0_clear_37 : decode cX0_clear 37 = .ok (.iload_n 1, 1) := by decide +kernel
theorem dX0_clear_38 : decode cX0_clear 38 = .ok (.iconst 0, 1) := by decide +kernel
theorem dX0_clear_39 : decode cX0_clear 39 = .ok (.iastore, 1) := by decide +kernel
theorem dX0_clear_40 : decode cX0_clear 40 = .ok (.iinc 1 1, 3) := by decide +kernel
theorem dX0_clear_43 : decode cX0_clear 43 = .ok (.goto (-31), 3) := by decide +kernel
theorem dX0_clear_46 : decode cX0_clear 46 = .ok (.aload_n 0, 1) := by decide +kernel
theorem dX0_clear_47 : decode cX0_clear 47 = .ok (.getfield 31, 3) := by decide +kernel
theorem dX0_clear_50 : decode cX0_clear 50 = .ok (.bipush 100, 2) := by decide +kernel
theorem dX0_clear_52 : decode cX0_clear 52 = .ok (.invokestatic 50, 3) := by decide +kernel
theorem dX0_clear_55 : decode cX0_clear 55 = .ok (.return_, 1) := by decide +kernel
theorem dX0_become_0 : decode cX0_become 0 = .ok (.iload_n 2, 1) := by decide +kernel
theorem dX0_become_1 : decode cX0_become 1 = .ok (.aload_n 0, 1) := by decide +kernel
theorem dX0_become_2 : decode cX0_become 2 = .ok (.getfield 43, 3) := by decide +kernel
theorem dX0_become_5 : decode cX0_become 5 = .ok (.if_icmp .ge 7, 3) := by decide +kernel
theorem dX0_become_8 : decode cX0_become 8 = .ok (.aload_n 0, 1) := by decide +kernel
theorem dX0_become_9 : decode cX0_become 9 = .ok (.invokevirtual 40, 3) := by decide +kernel
theorem dX0_become_12 : decode cX0_become 12 = .ok (.iload_n 2, 1) := by decide +kernel
theorem dX0_become_13 : decode cX0_become 13 = .ok (.aload_n 1, 1) := by decide +kernel
theorem dX0_become_14 : decode cX0_become 14 = .ok (.getfield 56, 3) := by decide +kernel
theorem dX0_become_17 : decode cX0_become 17 = .ok (.invokestatic 61, 3) := by decide +kernel
theorem dX0_become_20 : decode cX0_become 20 = .ok (.istore_n 3, 1) := by decide +kernel
theorem dX0_become_21 : decode cX0_become 21 = .ok (.aload_n 0, 1) := by decide +kernel
theorem dX0_become_22 : decode cX0_become 22 = .ok (.getfield 43, 3) := by decide +kernel
theorem dX0_become_25 : decode cX0_become 25 = .ok (.istore 4, 2) := by decide +kernel
theorem dX0_become_27 : decode cX0_become 27 = .ok (.iload 4, 2) := by decide +kernel
theorem dX0_become_29 : decode cX0_become 29 = .ok (.iload_n 3, 1) := by decide +kernel
theorem dX0_become_30 : decode cX0_become 30 = .ok (.if_icmp .ge 16, 3) := by decide +kernel
theorem dX0_become_33 : decode cX0_become 33 = .ok (.aload_n 0, 1) := by decide +kernel
theorem dX0_become_34 : decode cX0_become 34 = .ok (.aload_n 1, 1) := by decide +kernel
theorem dX0_become_35 : decode cX0_become 35 = .ok (.iload 4, 2) := by decide +kernel
theorem dX0_become_37 : decode cX0_become 37 = .ok (.invokevirtual 67, 3) := by decide +kernel
theorem dX0_become_40 : decode cX0_become 40 = .ok (.iinc 4 1, 3) := by decide +kernel
theorem dX0_become_43 : decode cX0_become 43 = .ok (.goto (-16), 3) := by decide +kernel
theorem dX0_become_46 : decode cX0_become 46 = .ok (.return_, 1) := by decide +kernel
theorem dX0_learn_0 : decode cX0_learn 0 = .ok (.aload_n 1, 1) := by decide +kernel
theorem dX0_learn_1 : decode cX0_learn 1 = .ok (.getfield 71, 3) := by decide +kernel
theorem dX0_learn_4 : decode cX0_learn 4 = .ok (.iload_n 2, 1) := by decide +kernel
theorem dX0_learn_5 : decode cX0_learn 5 = .ok (.iaload, 1) := by decide +kernel
theorem dX0_learn_6 : decode cX0_learn 6 = .ok (.iconst 3, 1) := by decide +kernel
theorem dX0_learn_7 : decode cX0_learn 7 = .ok (.if_icmp .ne 23, 3) := by decide +kernel
theorem dX0_learn_10 : decode cX0_learn 10 = .ok (.aload_n 0, 1) := by decide +kernel
theorem dX0_learn_11 : decode cX0_learn 11 = .ok (.getfield 31, 3) := by decide +kernel
theorem dX0_learn_14 : decode cX0_learn 14 = .ok (.aload_n 1, 1) := by decide +kernel
theorem dX0_learn_15 : decode cX0_learn 15 = .ok (.getfield 74, 3) := by decide +kernel
theorem dX0_learn_18 : decode cX0_learn 18 = .ok (.iload_n 2, 1) := by decide +kernel
theorem dX0_learn_19 : decode cX0_learn 19 = .ok (.iaload, 1) := by decide +kernel
theorem dX0_learn_20 : decode cX0_learn 20 = .ok (.aload_n 1, 1) := by decide +kernel
theorem dX0_learn_21 : decode cX0_learn 21 = .ok (.getfield 77, 3) := by decide +kernel
theorem dX0_learn_24 : decode cX0_learn 24 = .ok (.iload_n 2, 1) := by decide +kernel
theorem dX0_learn_25 : decode cX0_learn 25 = .ok (.iaload, 1) := by decide +kernel
theorem dX0_learn_26 : decode cX0_learn 26 = .ok (.iastore, 1) := by decide +kernel
theorem dX0_learn_27 : decode cX0_learn 27 = .ok (.goto 15, 3) := by decide +kernel
theorem dX0_learn_30 : decode cX0_learn 30 = .ok (.aload_n 0, 1) := by decide +kernel
theorem dX0_learn_31 : decode cX0_learn 31 = .ok (.aload_n 1, 1) := by decide +kernel
theorem dX0_learn_32 : decode cX0_learn 32 = .ok (.iload_n 2, 1) := by decide +kernel
theorem dX0_learn_33 : decode cX0_learn 33 = .ok (.aload_n 1, 1) := by decide +kernel
theorem dX0_learn_34 : decode cX0_learn 34 = .ok (.getfield 74, 3) := by decide +kernel
theorem dX0_learn_37 : decode cX0_learn 37 = .ok (.iload_n 2, 1) := by decide +kernel
theorem dX0_learn_38 : decode cX0_learn 38 = .ok (.iaload, 1) := by decide +kernel
theorem dX0_learn_39 : decode cX0_learn 39 = .ok (.invokevirtual 80, 3) := by decide +kernel
theorem dX0_learn_42 : decode cX0_learn 42 = .ok (.aload_n 0, 1) := by decide +kernel
theorem dX0_learn_43 : decode cX0_learn 43 = .ok (.iload_n 2, 1) := by decide +kernel
theorem dX0_learn_44 : decode cX0_learn 44 = .ok (.iconst 1, 1) := by decide +kernel
theorem dX0_learn_45 : decode cX0_learn 45 = .ok (.iadd, 1) := by decide +kernel
theorem dX0_learn_46 : decode cX0_learn 46 = .ok (.putfield 43, 3) := by decide +kernel
theorem dX0_learn_49 : decode cX0_learn 49 = .ok (.return_, 1) := by decide +kernel
theorem dX0_learnOfJob_0 : decode cX0_learnOfJob 0 = .ok (.aload_n 1, 1) := by decide +kernel
theorem dX0_learnOfJob_1 : decode cX0_learnOfJob 1 = .ok (.getfield 71, 3) := by decide +kernel
theorem dX0_learnOfJob_4 : decode cX0_learnOfJob 4 = .ok (.iload_n 2, 1) := by decide +kernel
theorem dX0_learnOfJob_5 : decode cX0_learnOfJob 5 = .ok (.iaload, 1) := by decide +kernel
theorem dX0_learnOfJob_6 : decode cX0_learnOfJob 6 = .ok (.tableswitch 144 0 7 #[46, 70, 78, 144, 88, 103, 118, 133], 46) := by decide +kernel
theorem dX0_learnOfJob_52 : decode cX0_learnOfJob 52 = .ok (.aload_n 0, 1) := by decide +kernel
theorem dX0_learnOfJob_53 : decode cX0_learnOfJob 53 = .ok (.getfield 9, 3) := by decide +kernel
theorem dX0_learnOfJob_56 : decode cX0_learnOfJob 56 = .ok (.iload_n 3, 1) := by decide +kernel
theorem dX0_learnOfJob_57 : decode cX0_learnOfJob 57 = .ok (.iconst 1, 1) := by decide +kernel
theorem dX0_learnOfJob_58 : decode cX0_learnOfJob 58 = .ok (.bastore, 1) := by decide +kernel
theorem dX0_learnOfJob_59 : decode cX0_learnOfJob 59 = .ok (.aload_n 0, 1) := by decide +kernel
theorem dX0_learnOfJob_60 : decode cX0_learnOfJob 60 = .ok (.iload_n 3, 1) := by decide +kernel
theorem dX0_learnOfJob_61 : decode cX0_learnOfJob 61 = .ok (.iconst 1, 1) := by decide +kernel
theorem dX0_learnOfJob_62 : decode cX0_learnOfJob 62 = .ok (.iadd, 1) := by decide +kernel
theorem dX0_learnOfJob_63 : decode cX0_learnOfJob 63 = .ok (.putfield 47, 3) := by decide +kernel
theorem dX0_learnOfJob_66 : decode cX0_learnOfJob 66 = .ok (.aload_n 0, 1) := by decide +kernel
theorem dX0_learnOfJob_67 : decode cX0_learnOfJob 67 = .ok (.aload_n 1, 1) := by decide +kernel
theorem dX0_learnOfJob_68 : decode cX0_learnOfJob 68 = .ok (.iload_n 2, 1) := by decide +kernel
theorem dX0_learnOfJob_69 : decode cX0_learnOfJob 69 = .ok (.iload_n 3, 1) := by decide +kernel
theorem dX0_learnOfJob_70 : decode cX0_learnOfJob 70 = .ok (.invokevirtual 84, 3) := by decide +kernel
theorem dX0_learnOfJob_73 : decode cX0_learnOfJob 73 = .ok (.goto 77, 3) := by decide +kernel
theorem dX0_learnOfJob_76 : decode cX0_learnOfJob 76 = .ok (.aload_n 0, 1) := by decide +kernel
theorem dX0_learnOfJob_77 : decode cX0_learnOfJob 77 = .ok (.iload_n 3, 1) := by decide +kernel
theorem dX0_learnOfJob_78 : decode cX0_learnOfJob 78 = .ok (.invokevirtual 87, 3) := by decide +kernel
theorem dX0_learnOfJob_81 : decode cX0_learnOfJob 81 = .ok (.goto 69, 3) := by decide +kernel
theorem dX0_learnOfJob_84 : decode cX0_learnOfJob 84 = .ok (.aload_n 0, 1) := by decide +kernel
theorem dX0_learnOfJob_85 : decode cX0_learnOfJob 85 = .ok (.aload_n 1, 1) := by decide +kernel
theorem dX0_learnOfJob_86 : decode cX0_learnOfJob 86 = .ok (.iload_n 2, 1) := by decide +kernel
theorem dX0_learnOfJob_87 : decode cX0_learnOfJob 87 = .ok (.iload_n 3, 1) := by decide +kernel
theorem dX0_learnOfJob_88 : decode cX0_learnOfJob 88 = .ok (.invokevirtual 84, 3) := by decide +kernel
theorem dX0_learnOfJob_91 : decode cX0_learnOfJob 91 = .ok (.goto 59, 3) := by decide +kernel
theorem dX0_learnOfJob_94 : decode cX0_learnOfJob 94 = .ok (.aload_n 0, 1) := by decide +kernel
theorem dX0_learnOfJob_95 : decode cX0_learnOfJob 95 = .ok (.iload_n 3, 1) := by decide +kernel
theorem dX0_learnOfJob_96 : decode cX0_learnOfJob 96 = .ok (.aload_n 1, 1) := by decide +kernel
theorem dX0_learnOfJob_97 : decode cX0_learnOfJob 97 = .ok (.getfield 77, 3) := by decide +kernel
theorem dX0_learnOfJob_100 : decode cX0_learnOfJob 100 = .ok (.iload_n 2, 1) := by decide +kernel
theorem dX0_learnOfJob_101 : decode cX0_learnOfJob 101 = .ok (.iaload, 1) := by decide +kernel
theorem dX0_learnOfJob_102 : decode cX0_learnOfJob 102 = .ok (.iconst 1, 1) := by decide +kernel
theorem dX0_learnOfJob_103 : decode cX0_learnOfJob 103 = .ok (.invokevirtual 91, 3) := by decide +kernel
theorem dX0_learnOfJob_106 : decode cX0_learnOfJob 106 = .ok (.goto 44, 3) := by decide +kernel
theorem dX0_learnOfJob_109 : decode cX0_learnOfJob 109 = .ok (.aload_n 0, 1) := by decide +kernel
theorem dX0_learnOfJob_110 : decode cX0_learnOfJob 110 = .ok (.iload_n 3, 1) := by decide +kernel
theorem dX0_learnOfJob_111 : decode cX0_learnOfJob 111 = .ok (.aload_n 1, 1) := by decide +kernel
theorem dX0_learnOfJob_112 : decode cX0_learnOfJob 112 = .ok (.getfield 77, 3) := by decide +kernel
theorem dX0_learnOfJob_115 : decode cX0_learnOfJob 115 = .ok (.iload_n 2, 1) := by decide +kernel
theorem dX0_learnOfJob_116 : decode cX0_learnOfJob 116 = .ok (.iaload, 1) := by decide +kernel
theorem dX0_learnOfJob_117 : decode cX0_learnOfJob 117 = .ok (.iconst 0, 1) := by decide +kernel
theorem dX0_learnOfJob_118 : decode cX0_learnOfJob 118 = .ok (.invokevirtual 91, 3) := by decide +kernel
theorem dX0_learnOfJob_121 : decode cX0_learnOfJob 121 = .ok (.goto 29, 3) := by decide +kernel
theorem dX0_learnOfJob_124 : decode cX0_learnOfJob 124 = .ok (.aload_n 0, 1) := by decide +kernel
theorem dX0_learnOfJob_125 : decode cX0_learnOfJob 125 = .ok (.getfield 25, 3) := by decide +kernel
theorem dX0_learnOfJob_128 : decode cX0_learnOfJob 128 = .ok (.iload_n 3, 1) := by decide +kernel
theorem dX0_learnOfJob_129 : decode cX0_learnOfJob 129 = .ok (.aload_n 1, 1) := by decide +kernel
theorem dX0_learnOfJob_130 : decode cX0_learnOfJob 130 = .ok (.getfield 77, 3) := by decide +kernel
theorem dX0_learnOfJob_133 : decode cX0_learnOfJob 133 = .ok (.iload_n 2, 1) := by decide +kernel
theorem dX0_learnOfJob_134 : decode cX0_learnOfJob 134 = .ok (.iaload, 1) := by decide +kernel
theorem dX0_learnOfJob_135 : decode cX0_learnOfJob 135 = .ok (.iastore, 1) := by decide +kernel
theorem dX0_learnOfJob_136 : decode cX0_learnOfJob 136 = .ok (.goto 14, 3) := by decide +kernel
theorem dX0_learnOfJob_139 : decode cX0_learnOfJob 139 = .ok (.aload_n 0, 1) := by decide +kernel
theorem dX0_learnOfJob_140 : decode cX0_learnOfJob 140 = .ok (.getfield 25, 3) := by decide +kernel
theorem dX0_learnOfJob_143 : decode cX0_learnOfJob 143 = .ok (.iload_n 3, 1) := by decide +kernel
theorem dX0_learnOfJob_144 : decode cX0_learnOfJob 144 = .ok (.bipush (-2), 2) := by decide +kernel
theorem dX0_learnOfJob_146 : decode cX0_learnOfJob 146 = .ok (.iastore, 1) := by decide +kernel
theorem dX0_learnOfJob_147 : decode cX0_learnOfJob 147 = .ok (.goto 3, 3) := by decide +kernel
theorem dX0_learnOfJob_150 : decode cX0_learnOfJob 150 = .ok (.return_, 1) := by decide +kernel
theorem dX0_setTraits_0 : decode cX0_setTraits 0 = .ok (.aload_n 0, 1) := by decide +kernel
theorem dX0_setTraits_1 : decode cX0_setTraits 1 = .ok (.getfield 15, 3) := by decide +kernel
theorem dX0_setTraits_4 : decode cX0_setTraits 4 = .ok (.iload_n 3, 1) := by decide +kernel
theorem dX0_setTraits_5 : decode cX0_setTraits 5 = .ok (.aload_n 1, 1) := by decide +kernel
theorem dX0_setTraits_6 : decode cX0_setTraits 6 = .ok (.getfield 77, 3) := by decide +kernel
theorem dX0_setTraits_9 : decode cX0_setTraits 9 = .ok (.iload_n 2, 1) := by decide +kernel
theorem dX0_setTraits_10 : decode cX0_setTraits 10 = .ok (.iaload, 1) := by decide +kernel
theorem dX0_setTraits_11 : decode cX0_setTraits 11 = .ok (.iastore, 1) := by decide +kernel
theorem dX0_setTraits_12 : decode cX0_setTraits 12 = .ok (.aload_n 0, 1) := by decide +kernel
theorem dX0_setTraits_13 : decode cX0_setTraits 13 = .ok (.getfield 19, 3) := by decide +kernel
theorem dX0_setTraits_16 : decode cX0_setTraits 16 = .ok (.iload_n 3, 1) := by decide +kernel
theorem dX0_setTraits_17 : decode cX0_setTraits 17 = .ok (.aload_n 1, 1) := by decide +kernel
theorem dX0_setTraits_18 : decode cX0_setTraits 18 = .ok (.getfield 95, 3) := by decide +kernel
theorem dX0_setTraits_21 : decode cX0_setTraits 21 = .ok (.iload_n 2, 1) := by decide +kernel
theorem dX0_setTraits_22 : decode cX0_setTraits 22 = .ok (.iaload, 1) := by decide +kernel
theorem dX0_setTraits_23 : decode cX0_setTraits 23 = .ok (.iastore, 1) := by decide +kernel
theorem dX0_setTraits_24 : decode cX0_setTraits 24 = .ok (.aload_n 0, 1) := by decide +kernel
theorem dX0_setTraits_25 : decode cX0_setTraits 25 = .ok (.getfield 22, 3) := by decide +kernel
theorem dX0_setTraits_28 : decode cX0_setTraits 28 = .ok (.iload_n 3, 1) := by decide +kernel
theorem dX0_setTraits_29 : decode cX0_setTraits 29 = .ok (.aload_n 1, 1) := by decide +kernel
theorem dX0_setTraits_30 : decode cX0_setTraits 30 = .ok (.getfield 98, 3) := by decide +kernel
theorem dX0_setTraits_33 : decode cX0_setTraits 33 = .ok (.iload_n 2, 1) := by decide +kernel
theorem dX0_setTraits_34 : decode cX0_setTraits 34 = .ok (.iaload, 1) := by decide +kernel
theorem dX0_setTraits_35 : decode cX0_setTraits 35 = .ok (.iastore, 1) := by decide +kernel
theorem dX0_setTraits_36 : decode cX0_setTraits 36 = .ok (.return_, 1) := by decide +kernel
theorem dX0_leave_0 : decode cX0_leave 0 = .ok (.aload_n 0, 1) := by decide +kernel
theorem dX0_leave_1 : decode cX0_leave 1 = .ok (.getfield 9, 3) := by decide +kernel
theorem dX0_leave_4 : decode cX0_leave 4 = .ok (.iload_n 1, 1) := by decide +kernel
theorem dX0_leave_5 : decode cX0_leave 5 = .ok (.iconst 0, 1) := by decide +kernel
theorem dX0_leave_6 : decode cX0_leave 6 = .ok (.bastore, 1) := by decide +kernel
theorem dX0_leave_7 : decode cX0_leave 7 = .ok (.aload_n 0, 1) := by decide +kernel
theorem dX0_leave_8 : decode cX0_leave 8 = .ok (.getfield 25, 3) := by decide +kernel
theorem dX0_leave_11 : decode cX0_leave 11 = .ok (.iload_n 1, 1) := by decide +kernel
theorem dX0_leave_12 : decode cX0_leave 12 = .ok (.bipush (-2), 2) := by decide +kernel
theorem dX0_leave_14 : decode cX0_leave 14 = .ok (.iastore, 1) := by decide +kernel
theorem dX0_leave_15 : decode cX0_leave 15 = .ok (.aload_n 0, 1) := by decide +kernel
theorem dX0_leave_16 : decode cX0_leave 16 = .ok (.getfield 28, 3) := by decide +kernel
theorem dX0_leave_19 : decode cX0_leave 19 = .ok (.iload_n 1, 1) := by decide +kernel
theorem dX0_leave_20 : decode cX0_leave 20 = .ok (.iconst 0, 1) := by decide +kernel
theorem dX0_leave_21 : decode cX0_leave 21 = .ok (.iastore, 1) := by decide +kernel
theorem dX0_leave_22 : decode cX0_leave 22 = .ok (.iconst 0, 1) := by decide +kernel
theorem dX0_leave_23 : decode cX0_leave 23 = .ok (.istore_n 2, 1) := by decide +kernel
theorem dX0_leave_24 : decode cX0_leave 24 = .ok (.iload_n 2, 1) := by decide +kernel
theorem dX0_leave_25 : decode cX0_leave 25 = .ok (.bipush 16, 2) := by decide +kernel
theorem dX0_leave_27 : decode cX0_leave 27 = .ok (.if_icmp .ge 23, 3) := by decide +kernel
theorem dX0_leave_30 : decode cX0_leave 30 = .ok (.aload_n 0, 1) := by decide +kernel
theorem dX0_leave_31 : decode cX0_leave 31 = .ok (.getfield 28, 3) := by decide +kernel
theorem dX0_leave_34 : decode cX0_leave 34 = .ok (.iload_n 2, 1) := by decide +kernel
theorem dX0_leave_35 : decode cX0_leave 35 = .ok (.dup2, 1) := by decide +kernel
theorem dX0_leave_36 : decode cX0_leave 36 = .ok (.iaload, 1) := by decide +kernel
theorem dX0_leave_37 : decode cX0_leave 37 = .ok (.iconst 1, 1) := by decide +kernel
theorem dX0_leave_38 : decode cX0_leave 38 = .ok (.iload_n 1, 1) := by decide +kernel
theorem dX0_leave_39 : decode cX0_leave 39 = .ok (.ishl, 1) := by decide +kernel
theorem dX0_leave_40 : decode cX0_leave 40 = .ok (.iconst (-1), 1) := by decide +kernel
theorem dX0_leave_41 : decode cX0_leave 41 = .ok (.ixor, 1) := by decide +kernel
theorem dX0_leave_42 : decode cX0_leave 42 = .ok (.iand, 1) := by decide +kernel
theorem dX0_leave_43 : decode cX0_leave 43 = .ok (.iastore, 1) := by decide +kernel
theorem dX0_leave_44 : decode cX0_leave 44 = .ok (.iinc 2 1, 3) := by decide +kernel
theorem dX0_leave_47 : decode cX0_leave 47 = .ok (.goto (-23), 3) := by decide +kernel
theorem dX0_leave_50 : decode cX0_leave 50 = .ok (.return_, 1) := by decide +kernel
theorem dX0_setApart_0 : decode cX0_setApart 0 = .ok (.iload_n 3, 1) := by decide +kernel
theorem dX0_setApart_1 : decode cX0_setApart 1 = .ok (.ifCond .eq 30, 3) := by decide +kernel
theorem dX0_setApart_4 : decode cX0_setApart 4 = .ok (.aload_n 0, 1) := by decide +kernel
theorem dX0_setApart_5 : decode cX0_setApart 5 = .ok (.getfield 28, 3) := by decide +kernel
theorem dX0_setApart_8 : decode cX0_setApart 8 = .ok (.iload_n 1, 1) := by decide +kernel
theorem dX0_setApart_9 : decode cX0_setApart 9 = .ok (.dup2, 1) := by decide +kernel
theorem dX0_setApart_10 : decode cX0_setApart 10 = .ok (.iaload, 1) := by decide +kernel
theorem dX0_setApart_11 : decode cX0_setApart 11 = .ok (.iconst 1, 1) := by decide +kernel
theorem dX0_setApart_12 : decode cX0_setApart 12 = .ok (.iload_n 2, 1) := by decide +kernel
theorem dX0_setApart_13 : decode cX0_setApart 13 = .ok (.ishl, 1) := by decide +kernel
theorem dX0_setApart_14 : decode cX0_setApart 14 = .ok (.ior, 1) := by decide +kernel
theorem dX0_setApart_15 : decode cX0_setApart 15 = .ok (.iastore, 1) := by decide +kernel
theorem dX0_setApart_16 : decode cX0_setApart 16 = .ok (.aload_n 0, 1) := by decide +kernel
theorem dX0_setApart_17 : decode cX0_setApart 17 = .ok (.getfield 28, 3) := by decide +kernel
theorem dX0_setApart_20 : decode cX0_setApart 20 = .ok (.iload_n 2, 1) := by decide +kernel
theorem dX0_setApart_21 : decode cX0_setApart 21 = .ok (.dup2, 1) := by decide +kernel
theorem dX0_setApart_22 : decode cX0_setApart 22 = .ok (.iaload, 1) := by decide +kernel
theorem dX0_setApart_23 : decode cX0_setApart 23 = .ok (.iconst 1, 1) := by decide +kernel
theorem dX0_setApart_24 : decode cX0_setApart 24 = .ok (.iload_n 1, 1) := by decide +kernel
theorem dX0_setApart_25 : decode cX0_setApart 25 = .ok (.ishl, 1) := by decide +kernel
theorem dX0_setApart_26 : decode cX0_setApart 26 = .ok (.ior, 1) := by decide +kernel
theorem dX0_setApart_27 : decode cX0_setApart 27 = .ok (.iastore, 1) := by decide +kernel
theorem dX0_setApart_28 : decode cX0_setApart 28 = .ok (.goto 31, 3) := by decide +kernel
theorem dX0_setApart_31 : decode cX0_setApart 31 = .ok (.aload_n 0, 1) := by decide +kernel
theorem dX0_setApart_32 : decode cX0_setApart 32 = .ok (.getfield 28, 3) := by decide +kernel
theorem dX0_setApart_35 : decode cX0_setApart 35 = .ok (.iload_n 1, 1) := by decide +kernel
theorem dX0_setApart_36 : decode cX0_setApart 36 = .ok (.dup2, 1) := by decide +kernel
theorem dX0_setApart_37 : decode cX0_setApart 37 = .ok (.iaload, 1) := by decide +kernel
theorem dX0_setApart_38 : decode cX0_setApart 38 = .ok (.iconst 1, 1) := by decide +kernel
theorem dX0_setApart_39 : decode cX0_setApart 39 = .ok (.iload_n 2, 1) := by decide +kernel
theorem dX0_setApart_40 : decode cX0_setApart 40 = .ok (.ishl, 1) := by decide +kernel
theorem dX0_setApart_41 : decode cX0_setApart 41 = .ok (.iconst (-1), 1) := by decide +kernel
theorem dX0_setApart_42 : decode cX0_setApart 42 = .ok (.ixor, 1) := by decide +kernel
theorem dX0_setApart_43 : decode cX0_setApart 43 = .ok (.iand, 1) := by decide +kernel
theorem dX0_setApart_44 : decode cX0_setApart 44 = .ok (.iastore, 1) := by decide +kernel
theorem dX0_setApart_45 : decode cX0_setApart 45 = .ok (.aload_n 0, 1) := by decide +kernel
theorem dX0_setApart_46 : decode cX0_setApart 46 = .ok (.getfield 28, 3) := by decide +kernel
theorem dX0_setApart_49 : decode cX0_setApart 49 = .ok (.iload_n 2, 1) := by decide +kernel
theorem dX0_setApart_50 : decode cX0_setApart 50 = .ok (.dup2, 1) := by decide +kernel
theorem dX0_setApart_51 : decode cX0_setApart 51 = .ok (.iaload, 1) := by decide +kernel
theorem dX0_setApart_52 : decode cX0_setApart 52 = .ok (.iconst 1, 1) := by decide +kernel
theorem dX0_setApart_53 : decode cX0_setApart 53 = .ok (.iload_n 1, 1) := by decide +kernel
theorem dX0_setApart_54 : decode cX0_setApart 54 = .ok (.ishl, 1) := by decide +kernel
theorem dX0_setApart_55 : decode cX0_setApart 55 = .ok (.iconst (-1), 1) := by decide +kernel
theorem dX0_setApart_56 : decode cX0_setApart 56 = .ok (.ixor, 1) := by decide +kernel
theorem dX0_setApart_57 : decode cX0_setApart 57 = .ok (.iand, 1) := by decide +kernel
theorem dX0_setApart_58 : decode cX0_setApart 58 = .ok (.iastore, 1) := by decide +kernel
theorem dX0_setApart_59 : decode cX0_setApart 59 = .ok (.return_, 1) := by decide +kernel
theorem dX0_areApart_0 : decode cX0_areApart 0 = .ok (.aload_n 0, 1) := by decide +kernel
theorem dX0_areApart_1 : decode cX0_areApart 1 = .ok (.getfield 28, 3) := by decide +kernel
theorem dX0_areApart_4 : decode cX0_areApart 4 = .ok (.iload_n 1, 1) := by decide +kernel
theorem dX0_areApart_5 : decode cX0_areApart 5 = .ok (.iaload, 1) := by decide +kernel
theorem dX0_areApart_6 : decode cX0_areApart 6 = .ok (.iload_n 2, 1) := by decide +kernel
theorem dX0_areApart_7 : decode cX0_areApart 7 = .ok (.ishr, 1) := by decide +kernel
theorem dX0_areApart_8 : decode cX0_areApart 8 = .ok (.iconst 1, 1) := by decide +kernel
theorem dX0_areApart_9 : decode cX0_areApart 9 = .ok (.iand, 1) := by decide +kernel
theorem dX0_areApart_10 : decode cX0_areApart 10 = .ok (.iconst 1, 1) := by decide +kernel
theorem dX0_areApart_11 : decode cX0_areApart 11 = .ok (.if_icmp .ne 7, 3) := by decide +kernel
theorem dX0_areApart_14 : decode cX0_areApart 14 = .ok (.iconst 1, 1) := by decide +kernel
theorem dX0_areApart_15 : decode cX0_areApart 15 = .ok (.goto 4, 3) := by decide +kernel
theorem dX0_areApart_18 : decode cX0_areApart 18 = .ok (.iconst 0, 1) := by decide +kernel
theorem dX0_areApart_19 : decode cX0_areApart 19 = .ok (.ireturn, 1) := by decide +kernel
theorem dX0_has_0 : decode cX0_has 0 = .ok (.iload_n 1, 1) := by decide +kernel
theorem dX0_has_1 : decode cX0_has 1 = .ok (.iconst 0, 1) := by decide +kernel
theorem dX0_has_2 : decode cX0_has 2 = .ok (.bipush 15, 2) := by decide +kernel
theorem dX0_has_4 : decode cX0_has 4 = .ok (.invokestatic 101, 3) := by decide +kernel
theorem dX0_has_7 : decode cX0_has 7 = .ok (.ifCond .eq 16, 3) := by decide +kernel
theorem dX0_has_10 : decode cX0_has 10 = .ok (.aload_n 0, 1) := by decide +kernel
theorem dX0_has_11 : decode cX0_has 11 = .ok (.getfield 9, 3) := by decide +kernel
theorem dX0_has_14 : decode cX0_has 14 = .ok (.iload_n 1, 1) := by decide +kernel
theorem dX0_has_15 : decode cX0_has 15 = .ok (.baload, 1) := by decide +kernel
theorem dX0_has_16 : decode cX0_has 16 = .ok (.ifCond .eq 7, 3) := by decide +kernel
theorem dX0_has_19 : decode cX0_has 19 = .ok (.iconst 1, 1) := by decide +kernel
theorem dX0_has_20 : decode cX0_has 20 = .ok (.goto 4, 3) := by decide +kernel
theorem dX0_has_23 : decode cX0_has 23 = .ok (.iconst 0, 1) := by decide +kernel
theorem dX0_has_24 : decode cX0_has 24 = .ok (.ireturn, 1) := by decide +kernel
theorem dX0_countThere_0 : decode cX0_countThere 0 = .ok (.iconst 0, 1) := by decide +kernel
theorem dX0_countThere_1 : decode cX0_countThere 1 = .ok (.istore_n 1, 1) := by decide +kernel
theorem dX0_countThere_2 : decode cX0_countThere 2 = .ok (.iconst 0, 1) := by decide +kernel
theorem dX0_countThere_3 : decode cX0_countThere 3 = .ok (.istore_n 2, 1) := by decide +kernel
theorem dX0_countThere_4 : decode cX0_countThere 4 = .ok (.iload_n 2, 1) := by decide +kernel
theorem dX0_countThere_5 : decode cX0_countThere 5 = .ok (.bipush 16, 2) := by decide +kernel
theorem dX0_countThere_7 : decode cX0_countThere 7 = .ok (.if_icmp .ge 21, 3) := by decide +kernel
theorem dX0_countThere_10 : decode cX0_countThere 10 = .ok (.aload_n 0, 1) := by decide +kernel
theorem dX0_countThere_11 : decode cX0_countThere 11 = .ok (.getfield 9, 3) := by decide +kernel
theorem dX0_countThere_14 : decode cX0_countThere 14 = .ok (.iload_n 2, 1) := by decide +kernel
theorem dX0_countThere_15 : decode cX0_countThere 15 = .ok (.baload, 1) := by decide +kernel
theorem dX0_countThere_16 : decode cX0_countThere 16 = .ok (.ifCond .eq 6, 3) := by decide +kernel
theorem dX0_countThere_19 : decode cX0_countThere 19 = .ok (.iinc 1 1, 3) := by decide +kernel
theorem dX0_countThere_22 : decode cX0_countThere 22 = .ok (.iinc 2 1, 3) := by decide +kernel
theorem dX0_countThere_25 : decode cX0_countThere 25 = .ok (.goto (-21), 3) := by decide +kernel
theorem dX0_countThere_28 : decode cX0_countThere 28 = .ok (.iload_n 1, 1) := by decide +kernel
theorem dX0_countThere_29 : decode cX0_countThere 29 = .ok (.ireturn, 1) := by decide +kernel
theorem dX0_listMovable_0 : decode cX0_listMovable 0 = .ok (.iconst 0, 1) := by decide +kernel
theorem dX0_listMovable_1 : decode cX0_listMovable 1 = .ok (.istore_n 2, 1) := by decide +kernel
theorem dX0_listMovable_2 : decode cX0_listMovable 2 = .ok (.iconst 0, 1) := by decide +kernel
theorem dX0_listMovable_3 : decode cX0_listMovable 3 = .ok (.istore_n 3, 1) := by decide +kernel
theorem dX0_listMovable_4 : decode cX0_listMovable 4 = .ok (.iload_n 3, 1) := by decide +kernel
theorem dX0_listMovable_5 : decode cX0_listMovable 5 = .ok (.bipush 16, 2) := by decide +kernel
theorem dX0_listMovable_7 : decode cX0_listMovable 7 = .ok (.if_icmp .ge 42, 3) := by decide +kernel
theorem dX0_listMovable_10 : decode cX0_listMovable 10 = .ok (.iload_n 2, 1) := by decide +kernel
theorem dX0_listMovable_11 : decode cX0_listMovable 11 = .ok (.aload_n 1, 1) := by decide +kernel
theorem dX0_listMovable_12 : decode cX0_listMovable 12 = .ok (.arraylength, 1) := by decide +kernel
theorem dX0_listMovable_13 : decode cX0_listMovable 13 = .ok (.if_icmp .ge 36, 3) := by decide +kernel
theorem dX0_listMovable_16 : decode cX0_listMovable 16 = .ok (.aload_n 0, 1) := by decide +kernel
theorem dX0_listMovable_17 : decode cX0_listMovable 17 = .ok (.getfield 9, 3) := by decide +kernel
theorem dX0_listMovable_20 : decode cX0_listMovable 20 = .ok (.iload_n 3, 1) := by decide +kernel
theorem dX0_listMovable_21 : decode cX0_listMovable 21 = .ok (.baload, 1) := by decide +kernel
theorem dX0_listMovable_22 : decode cX0_listMovable 22 = .ok (.ifCond .eq 21, 3) := by decide +kernel
theorem dX0_listMovable_25 : decode cX0_listMovable 25 = .ok (.aload_n 0, 1) := by decide +kernel
theorem dX0_listMovable_26 : decode cX0_listMovable 26 = .ok (.getfield 25, 3) := by decide +kernel
theorem dX0_listMovable_29 : decode cX0_listMovable 29 = .ok (.iload_n 3, 1) := by decide +kernel
theorem dX0_listMovable_30 : decode cX0_listMovable 30 = .ok (.iaload, 1) := by decide +kernel
theorem dX0_listMovable_31 : decode cX0_listMovable 31 = .ok (.bipush (-2), 2) := by decide +kernel
theorem dX0_listMovable_33 : decode cX0_listMovable 33 = .ok (.if_icmp .ne 10, 3) := by decide +kernel
theorem dX0_listMovable_36 : decode cX0_listMovable 36 = .ok (.aload_n 1, 1) := by decide +kernel
theorem dX0_listMovable_37 : decode cX0_listMovable 37 = .ok (.iload_n 2, 1) := by decide +kernel
theorem dX0_listMovable_38 : decode cX0_listMovable 38 = .ok (.iload_n 3, 1) := by decide +kernel
theorem dX0_listMovable_39 : decode cX0_listMovable 39 = .ok (.iastore, 1) := by decide +kernel
theorem dX0_listMovable_40 : decode cX0_listMovable 40 = .ok (.iinc 2 1, 3) := by decide +kernel
theorem dX0_listMovable_43 : decode cX0_listMovable 43 = .ok (.iinc 3 1, 3) := by decide +kernel
theorem dX0_listMovable_46 : decode cX0_listMovable 46 = .ok (.goto (-42), 3) := by decide +kernel
theorem dX0_listMovable_49 : decode cX0_listMovable 49 = .ok (.iload_n 2, 1) := by decide +kernel
theorem dX0_listMovable_50 : decode cX0_listMovable 50 = .ok (.ireturn, 1) := by decide +kernel
theorem dX0_scoreOf_0 : decode cX0_scoreOf 0 = .ok (.aload_n 0, 1) := by decide +kernel
theorem dX0_scoreOf_1 : decode cX0_scoreOf 1 = .ok (.getfield 34, 3) := by decide +kernel
theorem dX0_scoreOf_4 : decode cX0_scoreOf 4 = .ok (.iconst 0, 1) := by decide +kernel
theorem dX0_scoreOf_5 : decode cX0_scoreOf 5 = .ok (.invokestatic 50, 3) := by decide +kernel
theorem dX0_scoreOf_8 : decode cX0_scoreOf 8 = .ok (.aload_n 0, 1) := by decide +kernel
theorem dX0_scoreOf_9 : decode cX0_scoreOf 9 = .ok (.getfield 37, 3) := by decide +kernel
theorem dX0_scoreOf_12 : decode cX0_scoreOf 12 = .ok (.iconst 0, 1) := by decide +kernel
theorem dX0_scoreOf_13 : decode cX0_scoreOf 13 = .ok (.invokestatic 50, 3) := by decide +kernel
theorem dX0_scoreOf_16 : decode cX0_scoreOf 16 = .ok (.iconst 0, 1) := by decide +kernel
theorem dX0_scoreOf_17 : decode cX0_scoreOf 17 = .ok (.istore_n 2, 1) := by decide +kernel
theorem dX0_scoreOf_18 : decode cX0_scoreOf 18 = .ok (.iconst 0, 1) := by decide +kernel
theorem dX0_scoreOf_19 : decode cX0_scoreOf 19 = .ok (.istore_n 3, 1) := by decide +kernel
theorem dX0_scoreOf_20 : decode cX0_scoreOf 20 = .ok (.iconst 0, 1) := by decide +kernel
theorem dX0_scoreOf_21 : decode cX0_scoreOf 21 = .ok (.istore 4, 2) := by decide +kernel
theorem dX0_scoreOf_23 : decode cX0_scoreOf 23 = .ok (.iload 4, 2) := by decide +kernel
theorem dX0_scoreOf_25 : decode cX0_scoreOf 25 = .ok (.bipush 16, 2) := by decide +kernel
theorem dX0_scoreOf_27 : decode cX0_scoreOf 27 = .ok (.if_icmp .ge 140, 3) := by decide +kernel
theorem dX0_scoreOf_30 : decode cX0_scoreOf 30 = .ok (.iload 4, 2) := by decide +kernel
theorem dX0_scoreOf_32 : decode cX0_scoreOf 32 = .ok (.aload_n 1, 1) := by decide +kernel
theorem dX0_scoreOf_33 : decode cX0_scoreOf 33 = .ok (.arraylength, 1) := by decide +kernel
theorem dX0_scoreOf_34 : decode cX0_scoreOf 34 = .ok (.if_icmp .ge 133, 3) := by decide +kernel
theorem dX0_scoreOf_37 : decode cX0_scoreOf 37 = .ok (.aload_n 0, 1) := by decide +kernel
theorem dX0_scoreOf_38 : decode cX0_scoreOf 38 = .ok (.getfield 9, 3) := by decide +kernel
theorem dX0_scoreOf_41 : decode cX0_scoreOf 41 = .ok (.iload 4, 2) := by decide +kernel
theorem dX0_scoreOf_43 : decode cX0_scoreOf 43 = .ok (.baload, 1) := by decide +kernel
theorem dX0_scoreOf_44 : decode cX0_scoreOf 44 = .ok (.ifCond .ne 6, 3) := by decide +kernel
theorem dX0_scoreOf_47 : decode cX0_scoreOf 47 = .ok (.goto 114, 3) := by decide +kernel
theorem dX0_scoreOf_50 : decode cX0_scoreOf 50 = .ok (.aload_n 1, 1) := by decide +kernel
theorem dX0_scoreOf_51 : decode cX0_scoreOf 51 = .ok (.iload 4, 2) := by decide +kernel
theorem dX0_scoreOf_53 : decode cX0_scoreOf 53 = .ok (.iaload, 1) := by decide +kernel
theorem dX0_scoreOf_54 : decode cX0_scoreOf 54 = .ok (.istore 5, 2) := by decide +kernel
theorem dX0_scoreOf_56 : decode cX0_scoreOf 56 = .ok (.iload 5, 2) := by decide +kernel
theorem dX0_scoreOf_58 : decode cX0_scoreOf 58 = .ok (.invokestatic 105, 3) := by decide +kernel
theorem dX0_scoreOf_61 : decode cX0_scoreOf 61 = .ok (.ifCond .eq 85, 3) := by decide +kernel
theorem dX0_scoreOf_64 : decode cX0_scoreOf 64 = .ok (.iload_n 2, 1) := by decide +kernel
theorem dX0_scoreOf_65 : decode cX0_scoreOf 65 = .ok (.bipush 10, 2) := by decide +kernel
theorem dX0_scoreOf_67 : decode cX0_scoreOf 67 = .ok (.aload_n 0, 1) := by decide +kernel
theorem dX0_scoreOf_68 : decode cX0_scoreOf 68 = .ok (.getfield 28, 3) := by decide +kernel
theorem dX0_scoreOf_71 : decode cX0_scoreOf 71 = .ok (.iload 4, 2) := by decide +kernel
theorem dX0_scoreOf_73 : decode cX0_scoreOf 73 = .ok (.iaload, 1) := by decide +kernel
theorem dX0_scoreOf_74 : decode cX0_scoreOf 74 = .ok (.aload_n 0, 1) := by decide +kernel
theorem dX0_scoreOf_75 : decode cX0_scoreOf 75 = .ok (.getfield 37, 3) := by decide +kernel
theorem dX0_scoreOf_78 : decode cX0_scoreOf 78 = .ok (.iload 5, 2) := by decide +kernel
theorem dX0_scoreOf_80 : decode cX0_scoreOf 80 = .ok (.iaload, 1) := by decide +kernel
theorem dX0_scoreOf_81 : decode cX0_scoreOf 81 = .ok (.iand, 1) := by decide +kernel
theorem dX0_scoreOf_82 : decode cX0_scoreOf 82 = .ok (.invokestatic 109, 3) := by decide +kernel
theorem dX0_scoreOf_85 : decode cX0_scoreOf 85 = .ok (.imul, 1) := by decide +kernel
theorem dX0_scoreOf_86 : decode cX0_scoreOf 86 = .ok (.iadd, 1) := by decide +kernel
theorem dX0_scoreOf_87 : decode cX0_scoreOf 87 = .ok (.istore_n 2, 1) := by decide +kernel
theorem dX0_scoreOf_88 : decode cX0_scoreOf 88 = .ok (.aload_n 0, 1) := by decide +kernel
theorem dX0_scoreOf_89 : decode cX0_scoreOf 89 = .ok (.getfield 37, 3) := by decide +kernel
theorem dX0_scoreOf_92 : decode cX0_scoreOf 92 = .ok (.iload 5, 2) := by decide +kernel
theorem dX0_scoreOf_94 : decode cX0_scoreOf 94 = .ok (.dup2, 1) := by decide +kernel
theorem dX0_scoreOf_95 : decode cX0_scoreOf 95 = .ok (.iaload, 1) := by decide +kernel
theorem dX0_scoreOf_96 : decode cX0_scoreOf 96 = .ok (.iconst 1, 1) := by decide +kernel
theorem dX0_scoreOf_97 : decode cX0_scoreOf 97 = .ok (.iload 4, 2) := by decide +kernel
theorem dX0_scoreOf_99 : decode cX0_scoreOf 99 = .ok (.ishl, 1) := by decide +kernel
theorem dX0_scoreOf_100 : decode cX0_scoreOf 100 = .ok (.ior, 1) := by decide +kernel
theorem dX0_scoreOf_101 : decode cX0_scoreOf 101 = .ok (.iastore, 1) := by decide +kernel
theorem dX0_scoreOf_102 : decode cX0_scoreOf 102 = .ok (.aload_n 0, 1) := by decide +kernel
theorem dX0_scoreOf_103 : decode cX0_scoreOf 103 = .ok (.getfield 34, 3) := by decide +kernel
theorem dX0_scoreOf_106 : decode cX0_scoreOf 106 = .ok (.iload 5, 2) := by decide +kernel
theorem dX0_scoreOf_108 : decode cX0_scoreOf 108 = .ok (.dup2, 1) := by decide +kernel
theorem dX0_scoreOf_109 : decode cX0_scoreOf 109 = .ok (.iaload, 1) := by decide +kernel
theorem dX0_scoreOf_110 : decode cX0_scoreOf 110 = .ok (.aload_n 0, 1) := by decide +kernel
theorem dX0_scoreOf_111 : decode cX0_scoreOf 111 = .ok (.getfield 15, 3) := by decide +kernel
theorem dX0_scoreOf_114 : decode cX0_scoreOf 114 = .ok (.iload 4, 2) := by decide +kernel
theorem dX0_scoreOf_116 : decode cX0_scoreOf 116 = .ok (.iaload, 1) := by decide +kernel
theorem dX0_scoreOf_117 : decode cX0_scoreOf 117 = .ok (.iadd, 1) := by decide +kernel
theorem dX0_scoreOf_118 : decode cX0_scoreOf 118 = .ok (.iastore, 1) := by decide +kernel
theorem dX0_scoreOf_119 : decode cX0_scoreOf 119 = .ok (.iload_n 3, 1) := by decide +kernel
theorem dX0_scoreOf_120 : decode cX0_scoreOf 120 = .ok (.aload_n 0, 1) := by decide +kernel
theorem dX0_scoreOf_121 : decode cX0_scoreOf 121 = .ok (.getfield 19, 3) := by decide +kernel
theorem dX0_scoreOf_124 : decode cX0_scoreOf 124 = .ok (.iload 4, 2) := by decide +kernel
theorem dX0_scoreOf_126 : decode cX0_scoreOf 126 = .ok (.iaload, 1) := by decide +kernel
theorem dX0_scoreOf_127 : decode cX0_scoreOf 127 = .ok (.iload 5, 2) := by decide +kernel
theorem dX0_scoreOf_129 : decode cX0_scoreOf 129 = .ok (.aload_n 0, 1) := by decide +kernel
theorem dX0_scoreOf_130 : decode cX0_scoreOf 130 = .ok (.getfield 22, 3) := by decide +kernel
theorem dX0_scoreOf_133 : decode cX0_scoreOf 133 = .ok (.iload 4, 2) := by decide +kernel
theorem dX0_scoreOf_135 : decode cX0_scoreOf 135 = .ok (.iaload, 1) := by decide +kernel
theorem dX0_scoreOf_136 : decode cX0_scoreOf 136 = .ok (.isub, 1) := by decide +kernel
theorem dX0_scoreOf_137 : decode cX0_scoreOf 137 = .ok (.invokestatic 115, 3) := by decide +kernel
theorem dX0_scoreOf_140 : decode cX0_scoreOf 140 = .ok (.imul, 1) := by decide +kernel
theorem dX0_scoreOf_141 : decode cX0_scoreOf 141 = .ok (.iadd, 1) := by decide +kernel
theorem dX0_scoreOf_142 : decode cX0_scoreOf 142 = .ok (.istore_n 3, 1) := by decide +kernel
theorem dX0_scoreOf_143 : decode cX0_scoreOf 143 = .ok (.goto 18, 3) := by decide +kernel
theorem dX0_scoreOf_146 : decode cX0_scoreOf 146 = .ok (.iload_n 3, 1) := by decide +kernel
theorem dX0_scoreOf_147 : decode cX0_scoreOf 147 = .ok (.bipush 7, 2) := by decide +kernel
theorem dX0_scoreOf_149 : decode cX0_scoreOf 149 = .ok (.aload_n 0, 1) := by decide +kernel
theorem dX0_scoreOf_150 : decode cX0_scoreOf 150 = .ok (.getfield 19, 3) := by decide +kernel
theorem dX0_scoreOf_153 : decode cX0_scoreOf 153 = .ok (.iload 4, 2) := by decide +kernel
theorem dX0_scoreOf_155 : decode cX0_scoreOf 155 = .ok (.iaload, 1) := by decide +kernel
theorem dX0_scoreOf_156 : decode cX0_scoreOf 156 = .ok (.imul, 1) := by decide +kernel
theorem dX0_scoreOf_157 : decode cX0_scoreOf 157 = .ok (.iconst 1, 1) := by decide +kernel
theorem dX0_scoreOf_158 : decode cX0_scoreOf 158 = .ok (.iadd, 1) := by decide +kernel
theorem dX0_scoreOf_159 : decode cX0_scoreOf 159 = .ok (.iadd, 1) := by decide +kernel
theorem dX0_scoreOf_160 : decode cX0_scoreOf 160 = .ok (.istore_n 3, 1) := by decide +kernel
theorem dX0_scoreOf_161 : decode cX0_scoreOf 161 = .ok (.iinc 4 1, 3) := by decide +kernel
theorem dX0_scoreOf_164 : decode cX0_scoreOf 164 = .ok (.goto (-141), 3) := by decide +kernel
theorem dX0_scoreOf_167 : decode cX0_scoreOf 167 = .ok (.iconst 0, 1) := by decide +kernel
theorem dX0_scoreOf_168 : decode cX0_scoreOf 168 = .ok (.istore 4, 2) := by decide +kernel
theorem dX0_scoreOf_170 : decode cX0_scoreOf 170 = .ok (.iload 4, 2) := by decide +kernel
theorem dX0_scoreOf_172 : decode cX0_scoreOf 172 = .ok (.bipush 6, 2) := by decide +kernel
theorem dX0_scoreOf_174 : decode cX0_scoreOf 174 = .ok (.if_icmp .ge 31, 3) := by decide +kernel
theorem dX0_scoreOf_177 : decode cX0_scoreOf 177 = .ok (.iload_n 2, 1) := by decide +kernel
theorem dX0_scoreOf_178 : decode cX0_scoreOf 178 = .ok (.iconst 0, 1) := by decide +kernel
theorem dX0_scoreOf_179 : decode cX0_scoreOf 179 = .ok (.aload_n 0, 1) := by decide +kernel
theorem dX0_scoreOf_180 : decode cX0_scoreOf 180 = .ok (.getfield 34, 3) := by decide +kernel
theorem dX0_scoreOf_183 : decode cX0_scoreOf 183 = .ok (.iload 4, 2) := by decide +kernel
theorem dX0_scoreOf_185 : decode cX0_scoreOf 185 = .ok (.iaload, 1) := by decide +kernel
theorem dX0_scoreOf_186 : decode cX0_scoreOf 186 = .ok (.aload_n 0, 1) := by decide +kernel
theorem dX0_scoreOf_187 : decode cX0_scoreOf 187 = .ok (.getfield 31, 3) := by decide +kernel
theorem dX0_scoreOf_190 : decode cX0_scoreOf 190 = .ok (.iload 4, 2) := by decide +kernel
theorem dX0_scoreOf_192 : decode cX0_scoreOf 192 = .ok (.iaload, 1) := by decide +kernel
theorem dX0_scoreOf_193 : decode cX0_scoreOf 193 = .ok (.isub, 1) := by decide +kernel
theorem dX0_scoreOf_194 : decode cX0_scoreOf 194 = .ok (.invokestatic 118, 3) := by decide +kernel
theorem dX0_scoreOf_197 : decode cX0_scoreOf 197 = .ok (.iadd, 1) := by decide +kernel
theorem dX0_scoreOf_198 : decode cX0_scoreOf 198 = .ok (.istore_n 2, 1) := by decide +kernel
theorem dX0_scoreOf_199 : decode cX0_scoreOf 199 = .ok (.iinc 4 1, 3) := by decide +kernel
theorem dX0_scoreOf_202 : decode cX0_scoreOf 202 = .ok (.goto (-32), 3) := by decide +kernel
theorem dX0_scoreOf_205 : decode cX0_scoreOf 205 = .ok (.iload_n 2, 1) := by decide +kernel
theorem dX0_scoreOf_206 : decode cX0_scoreOf 206 = .ok (.iload_n 3, 1) := by decide +kernel
theorem dX0_scoreOf_207 : decode cX0_scoreOf 207 = .ok (.invokestatic 121, 3) := by decide +kernel
theorem dX0_scoreOf_210 : decode cX0_scoreOf 210 = .ok (.lreturn, 1) := by decide +kernel
theorem dX1_init_0 : decode cX1_init 0 = .ok (.aload_n 0, 1) := by decide +kernel
theorem dX1_init_1 : decode cX1_init 1 = .ok (.invokespecial 3, 3) := by decide +kernel
theorem dX1_init_4 : decode cX1_init 4 = .ok (.aload_n 0, 1) := by decide +kernel
theorem dX1_init_5 : decode cX1_init 5 = .ok (.bipush 120, 2) := by decide +kernel
theorem dX1_init_7 : decode cX1_init 7 = .ok (.newarray .int, 2) := by decide +kernel
theorem dX1_init_9 : decode cX1_init 9 = .ok (.putfield 9, 3) := by decide +kernel
theorem dX1_init_12 : decode cX1_init 12 = .ok (.aload_n 0, 1) := by decide +kernel
theorem dX1_init_13 : decode cX1_init 13 = .ok (.bipush 120, 2) := by decide +kernel
theorem dX1_init_15 : decode cX1_init 15 = .ok (.newarray .int, 2) := by decide +kernel
theorem dX1_init_17 : decode cX1_init 17 = .ok (.putfield 15, 3) := by decide +kernel
theorem dX1_init_20 : decode cX1_init 20 = .ok (.aload_n 0, 1) := by decide +kernel
theorem dX1_init_21 : decode cX1_init 21 = .ok (.bipush 120, 2) := by decide +kernel
theorem dX1_init_23 : decode cX1_init 23 = .ok (.newarray .int, 2) := by decide +kernel
theorem dX1_init_25 : decode cX1_init 25 = .ok (.putfield 18, 3) := by decide +kernel
theorem dX1_init_28 : decode cX1_init 28 = .ok (.aload_n 0, 1) := by decide +kernel
theorem dX1_init_29 : decode cX1_init 29 = .ok (.bipush 120, 2) := by decide +kernel
theorem dX1_init_31 : decode cX1_init 31 = .ok (.newarray .int, 2) := by decide +kernel
theorem dX1_init_33 : decode cX1_init 33 = .ok (.putfield 21, 3) := by decide +kernel
theorem dX1_init_36 : decode cX1_init 36 = .ok (.aload_n 0, 1) := by decide +kernel
theorem dX1_init_37 : decode cX1_init 37 = .ok (.bipush 120, 2) := by decide +kernel
theorem dX1_init_39 : decode cX1_init 39 = .ok (.newarray .int, 2) := by decide +kernel
theorem dX1_init_41 : decode cX1_init 41 = .ok (.putfield 24, 3) := by decide +kernel
theorem dX1_init_44 : decode cX1_init 44 = .ok (.aload_n 0, 1) := by decide +kernel
theorem dX1_init_45 : decode cX1_init 45 = .ok (.iconst 0, 1) := by decide +kernel
theorem dX1_init_46 : decode cX1_init 46 = .ok (.putfield 27, 3) := by decide +kernel
theorem dX1_init_49 : decode cX1_init 49 = .ok (.return_, 1) := by decide +kernel
theorem dX1_add_0 : decode cX1_add 0 = .ok (.aload_n 0, 1) := by decide +kernel
theorem dX1_add_1 : decode cX1_add 1 = .ok (.getfield 27, 3) := by decide +kernel
theorem dX1_add_4 : decode cX1_add 4 = .ok (.bipush 120, 2) := by decide +kernel
theorem dX1_add_6 : decode cX1_add 6 = .ok (.if_icmp .lt 4, 3) := by decide +kernel
theorem dX1_add_9 : decode cX1_add 9 = .ok (.return_, 1) := by decide +kernel
theorem dX1_add_10 : decode cX1_add 10 = .ok (.aload_n 0, 1) := by decide +kernel
theorem dX1_add_11 : decode cX1_add 11 = .ok (.getfield 9, 3) := by decide +kernel
theorem dX1_add_14 : decode cX1_add 14 = .ok (.aload_n 0, 1) := by decide +kernel
theorem dX1_add_15 : decode cX1_add 15 = .ok (.getfield 27, 3) := by decide +kernel
theorem dX1_add_18 : decode cX1_add 18 = .ok (.iload_n 1, 1) := by decide +kernel
theorem dX1_add_19 : decode cX1_add 19 = .ok (.iastore, 1) := by decide +kernel
theorem dX1_add_20 : decode cX1_add 20 = .ok (.aload_n 0, 1) := by decide +kernel
theorem dX1_add_21 : decode cX1_add 21 = .ok (.getfield 15, 3) := by decide +kernel
theorem dX1_add_24 : decode cX1_add 24 = .ok (.aload_n 0, 1) := by decide +kernel
theorem dX1_add_25 : decode cX1_add 25 = .ok (.getfield 27, 3) := by decide +kernel
theorem dX1_add_28 : decode cX1_add 28 = .ok (.iload_n 2, 1) := by decide +kernel
theorem dX1_add_29 : decode cX1_add 29 = .ok (.iastore, 1) := by decide +kernel
theorem dX1_add_30 : decode cX1_add 30 = .ok (.aload_n 0, 1) := by decide +kernel
theorem dX1_add_31 : decode cX1_add 31 = .ok (.getfield 18, 3) := by decide +kernel
theorem dX1_add_34 : decode cX1_add 34 = .ok (.aload_n 0, 1) := by decide +kernel
theorem dX1_add_35 : decode cX1_add 35 = .ok (.getfield 27, 3) := by decide +kernel
theorem dX1_add_38 : decode cX1_add 38 = .ok (.iload_n 3, 1) := by decide +kernel
theorem dX1_add_39 : decode cX1_add 39 = .ok (.iastore, 1) := by decide +kernel
theorem dX1_add_40 : decode cX1_add 40 = .ok (.aload_n 0, 1) := by decide +kernel
theorem dX1_add_41 : decode cX1_add 41 = .ok (.getfield 21, 3) := by decide +kernel
theorem dX1_add_44 : decode cX1_add 44 = .ok (.aload_n 0, 1) := by decide +kernel
theorem dX1_add_45 : decode cX1_add 45 = .ok (.getfield 27, 3) := by decide +kernel
theorem dX1_add_48 : decode cX1_add 48 = .ok (.iload 4, 2) := by decide +kernel
theorem dX1_add_50 : decode cX1_add 50 = .ok (.iastore, 1) := by decide +kernel
theorem dX1_add_51 : decode cX1_add 51 = .ok (.aload_n 0, 1) := by decide +kernel
theorem dX1_add_52 : decode cX1_add 52 = .ok (.getfield 24, 3) := by decide +kernel
theorem dX1_add_55 : decode cX1_add 55 = .ok (.aload_n 0, 1) := by decide +kernel
theorem dX1_add_56 : decode cX1_add 56 = .ok (.getfield 27, 3) := by decide +kernel
theorem dX1_add_59 : decode cX1_add 59 = .ok (.iload 5, 2) := by decide +kernel
theorem dX1_add_61 : decode cX1_add 61 = .ok (.iastore, 1) := by decide +kernel
theorem dX1_add_62 : decode cX1_add 62 = .ok (.aload_n 0, 1) := by decide +kernel
theorem dX1_add_63 : decode cX1_add 63 = .ok (.dup, 1) := by decide +kernel
theorem dX1_add_64 : decode cX1_add 64 = .ok (.getfield 27, 3) := by decide +kernel
theorem dX1_add_67 : decode cX1_add 67 = .ok (.iconst 1, 1) := by decide +kernel
theorem dX1_add_68 : decode cX1_add 68 = .ok (.iadd, 1) := by decide +kernel
theorem dX1_add_69 : decode cX1_add 69 = .ok (.putfield 27, 3) := by decide +kernel
theorem dX1_add_72 : decode cX1_add 72 = .ok (.return_, 1) := by decide +kernel
theorem dX2_init_0 : decode cX2_init 0 = .ok (.aload_n 0, 1) := by decide +kernel
theorem dX2_init_1 : decode cX2_init 1 = .ok (.invokespecial 3, 3) := by decide +kernel
theorem dX2_init_4 : decode cX2_init 4 = .ok (.aload_n 0, 1) := by decide +kernel
theorem dX2_init_5 : decode cX2_init 5 = .ok (.iconst 0, 1) := by decide +kernel
theorem dX2_init_6 : decode cX2_init 6 = .ok (.putfield 9, 3) := by decide +kernel
theorem dX2_init_9 : decode cX2_init 9 = .ok (.aload_n 0, 1) := by decide +kernel
theorem dX2_init_10 : decode cX2_init 10 = .ok (.bipush 16, 2) := by decide +kernel
theorem dX2_init_12 : decode cX2_init 12 = .ok (.newarray .int, 2) := by decide +kernel
theorem dX2_init_14 : decode cX2_init 14 = .ok (.putfield 15, 3) := by decide +kernel
theorem dX2_init_17 : decode cX2_init 17 = .ok (.aload_n 0, 1) := by decide +kernel
theorem dX2_init_18 : decode cX2_init 18 = .ok (.bipush 16, 2) := by decide +kernel
theorem dX2_init_20 : decode cX2_init 20 = .ok (.newarray .int, 2) := by decide +kernel
theorem dX2_init_22 : decode cX2_init 22 = .ok (.putfield 19, 3) := by decide +kernel
theorem dX2_init_25 : decode cX2_init 25 = .ok (.aload_n 0, 1) := by decide +kernel
theorem dX2_init_26 : decode cX2_init 26 = .ok (.iload_n 1, 1) := by decide +kernel
theorem dX2_init_27 : decode cX2_init 27 = .ok (.newarray .long, 2) := by decide +kernel
theorem dX2_init_29 : decode cX2_init 29 = .ok (.putfield 22, 3) := by decide +kernel
theorem dX2_init_32 : decode cX2_init 32 = .ok (.return_, 1) := by decide +kernel
theorem dX3_init_0 : decode cX3_init 0 = .ok (.aload_n 0, 1) := by decide +kernel
theorem dX3_init_1 : decode cX3_init 1 = .ok (.invokespecial 3, 3) := by decide +kernel
theorem dX3_init_4 : decode cX3_init 4 = .ok (.aload_n 0, 1) := by decide +kernel
theorem dX3_init_5 : decode cX3_init 5 = .ok (.new 9, 3) := by decide +kernel
theorem dX3_init_8 : decode cX3_init 8 = .ok (.dup, 1) := by decide +kernel
theorem dX3_init_9 : decode cX3_init 9 = .ok (.invokespecial 11, 3) := by decide +kernel
theorem dX3_init_12 : decode cX3_init 12 = .ok (.putfield 12, 3) := by decide +kernel
theorem dX3_init_15 : decode cX3_init 15 = .ok (.aload_n 0, 1) := by decide +kernel
theorem dX3_init_16 : decode cX3_init 16 = .ok (.invokestatic 18, 3) := by decide +kernel
theorem dX3_init_19 : decode cX3_init 19 = .ok (.putfield 22, 3) := by decide +kernel
theorem dX3_init_22 : decode cX3_init 22 = .ok (.aload_n 0, 1) := by decide +kernel
theorem dX3_init_23 : decode cX3_init 23 = .ok (.invokestatic 18, 3) := by decide +kernel
theorem dX3_init_26 : decode cX3_init 26 = .ok (.putfield 26, 3) := by decide +kernel
theorem dX3_init_29 : decode cX3_init 29 = .ok (.aload_n 0, 1) := by decide +kernel
theorem dX3_init_30 : decode cX3_init 30 = .ok (.iconst 2, 1) := by decide +kernel
theorem dX3_init_31 : decode cX3_init 31 = .ok (.anewarray 29, 3) := by decide +kernel
theorem dX3_init_34 : decode cX3_init 34 = .ok (.putfield 31, 3) := by decide +kernel
theorem dX3_init_37 : decode cX3_init 37 = .ok (.aload_n 0, 1) := by decide +kernel
theorem dX3_init_38 : decode cX3_init 38 = .ok (.bipush 16, 2) := by decide +kernel
theorem dX3_init_40 : decode cX3_init 40 = .ok (.newarray .int, 2) := by decide +kernel
theorem dX3_init_42 : decode cX3_init 42 = .ok (.putfield 35, 3) := by decide +kernel
theorem dX3_init_45 : decode cX3_init 45 = .ok (.aload_n 0, 1) := by decide +kernel
theorem dX3_init_46 : decode cX3_init 46 = .ok (.lconst 0, 1) := by decide +kernel
theorem dX3_init_47 : decode cX3_init 47 = .ok (.putfield 38, 3) := by decide +kernel
theorem dX3_init_50 : decode cX3_init 50 = .ok (.aload_n 0, 1) := by decide +kernel
theorem dX3_init_51 : decode cX3_init 51 = .ok (.lconst 0, 1) := by decide +kernel
theorem dX3_init_52 : decode cX3_init 52 = .ok (.putfield 42, 3) := by decide +kernel
theorem dX3_init_55 : decode cX3_init 55 = .ok (.aload_n 0, 1) := by decide +kernel
theorem dX3_init_56 : decode cX3_init 56 = .ok (.iconst 0, 1) := by decide +kernel
theorem dX3_init_57 : decode cX3_init 57 = .ok (.putfield 45, 3) := by decide +kernel
theorem dX3_init_60 : decode cX3_init 60 = .ok (.aload_n 0, 1) := by decide +kernel
theorem dX3_init_61 : decode cX3_init 61 = .ok (.iconst 0, 1) := by decide +kernel
theorem dX3_init_62 : decode cX3_init 62 = .ok (.putfield 49, 3) := by decide +kernel
theorem dX3_init_65 : decode cX3_init 65 = .ok (.aload_n 0, 1) := by decide +kernel
theorem dX3_init_66 : decode cX3_init 66 = .ok (.iconst 0, 1) := by decide +kernel
theorem dX3_init_67 : decode cX3_init 67 = .ok (.putfield 52, 3) := by decide +kernel
theorem dX3_init_70 : decode cX3_init 70 = .ok (.aload_n 0, 1) := by decide +kernel
theorem dX3_init_71 : decode cX3_init 71 = .ok (.iload_n 1, 1) := by decide +kernel
theorem dX3_init_72 : decode cX3_init 72 = .ok (.putfield 55, 3) := by decide +kernel
theorem dX3_init_75 : decode cX3_init 75 = .ok (.aload_n 0, 1) := by decide +kernel
theorem dX3_init_76 : decode cX3_init 76 = .ok (.iload_n 2, 1) := by decide +kernel
theorem dX3_init_77 : decode cX3_init 77 = .ok (.newarray .long, 2) := by decide +kernel
theorem dX3_init_79 : decode cX3_init 79 = .ok (.putfield 58, 3) := by decide +kernel
theorem dX3_init_82 : decode cX3_init 82 = .ok (.return_, 1) := by decide +kernel
theorem dX3_rooms_0 : decode cX3_rooms 0 = .ok (.iload_n 1, 1) := by decide +kernel
theorem dX3_rooms_1 : decode cX3_rooms 1 = .ok (.ifCond .eq 10, 3) := by decide +kernel
theorem dX3_rooms_4 : decode cX3_rooms 4 = .ok (.aload_n 0, 1) := by decide +kernel
theorem dX3_rooms_5 : decode cX3_rooms 5 = .ok (.getfield 26, 3) := by decide +kernel
theorem dX3_rooms_8 : decode cX3_rooms 8 = .ok (.goto 7, 3) := by decide +kernel
theorem dX3_rooms_11 : decode cX3_rooms 11 = .ok (.aload_n 0, 1) := by decide +kernel
theorem dX3_rooms_12 : decode cX3_rooms 12 = .ok (.getfield 22, 3) := by decide +kernel
theorem dX3_rooms_15 : decode cX3_rooms 15 = .ok (.areturn, 1) := by decide +kernel
theorem dX3_latePlace_0 : decode cX3_latePlace 0 = .ok (.aload_n 0, 1) := by decide +kernel
theorem dX3_latePlace_1 : decode cX3_latePlace 1 = .ok (.getfield 45, 3) := by decide +kernel
theorem dX3_latePlace_4 : decode cX3_latePlace 4 = .ok (.aload_n 0, 1) := by decide +kernel
theorem dX3_latePlace_5 : decode cX3_latePlace 5 = .ok (.getfield 58, 3) := by decide +kernel
theorem dX3_latePlace_8 : decode cX3_latePlace 8 = .ok (.arraylength, 1) := by decide +kernel
theorem dX3_latePlace_9 : decode cX3_latePlace 9 = .ok (.invokestatic 62, 3) := by decide +kernel
theorem dX3_latePlace_12 : decode cX3_latePlace 12 = .ok (.ireturn, 1) := by decide +kernel
theorem dX3_catchUp_0 : decode cX3_catchUp 0 = .ok (.aload_n 0, 1) := by decide +kernel
theorem dX3_catchUp_1 : decode cX3_catchUp 1 = .ok (.getfield 12, 3) := by decide +kernel
theorem dX3_catchUp_4 : decode cX3_catchUp 4 = .ok (.getfield 68, 3) := by decide +kernel
theorem dX3_catchUp_7 : decode cX3_catchUp 7 = .ok (.istore_n 3, 1) := by decide +kernel
theorem dX3_catchUp_8 : decode cX3_catchUp 8 = .ok (.iload_n 2, 1) := by decide +kernel
theorem dX3_catchUp_9 : decode cX3_catchUp 9 = .ok (.aload_n 1, 1) := by decide +kernel
theorem dX3_catchUp_10 : decode cX3_catchUp 10 = .ok (.getfield 71, 3) := by decide +kernel
theorem dX3_catchUp_13 : decode cX3_catchUp 13 = .ok (.invokestatic 76, 3) := by decide +kernel
theorem dX3_catchUp_16 : decode cX3_catchUp 16 = .ok (.istore 4, 2) := by decide +kernel
theorem dX3_catchUp_18 : decode cX3_catchUp 18 = .ok (.iload 4, 2) := by decide +kernel
theorem dX3_catchUp_20 : decode cX3_catchUp 20 = .ok (.iload_n 3, 1) := by decide +kernel
theorem dX3_catchUp_21 : decode cX3_catchUp 21 = .ok (.if_icmp .gt 5, 3) := by decide +kernel
theorem dX3_catchUp_24 : decode cX3_catchUp 24 = .ok (.iconst 0, 1) := by decide +kernel
theorem dX3_catchUp_25 : decode cX3_catchUp 25 = .ok (.ireturn, 1) := by decide +kernel
theorem dX3_catchUp_26 : decode cX3_catchUp 26 = .ok (.aload_n 0, 1) := by decide +kernel
theorem dX3_catchUp_27 : decode cX3_catchUp 27 = .ok (.getfield 12, 3) := by decide +kernel
theorem dX3_catchUp_30 : decode cX3_catchUp 30 = .ok (.aload_n 1, 1) := by decide +kernel
theorem dX3_catchUp_31 : decode cX3_catchUp 31 = .ok (.iload 4, 2) := by decide +kernel
theorem dX3_catchUp_33 : decode cX3_catchUp 33 = .ok (.invokevirtual 79, 3) := by decide +kernel
theorem dX3_catchUp_36 : decode cX3_catchUp 36 = .ok (.iload_n 3, 1) := by decide +kernel
theorem dX3_catchUp_37 : decode cX3_catchUp 37 = .ok (.istore 5, 2) := by decide +kernel
theorem dX3_catchUp_39 : decode cX3_catchUp 39 = .ok (.iload 5, 2) := by decide +kernel
theorem dX3_catchUp_41 : decode cX3_catchUp 41 = .ok (.iload 4, 2) := by decide +kernel
theorem dX3_catchUp_43 : decode cX3_catchUp 43 = .ok (.if_icmp .ge 16, 3) := by decide +kernel
theorem dX3_catchUp_46 : decode cX3_catchUp 46 = .ok (.aload_n 0, 1) := by decide +kernel
theorem dX3_catchUp_47 : decode cX3_catchUp 47 = .ok (.aload_n 1, 1) := by decide +kernel
theorem dX3_catchUp_48 : decode cX3_catchUp 48 = .ok (.iload 5, 2) := by decide +kernel
theorem dX3_catchUp_50 : decode cX3_catchUp 50 = .ok (.invokevirtual 83, 3) := by decide +kernel
theorem dX3_catchUp_53 : decode cX3_catchUp 53 = .ok (.iinc 5 1, 3) := by decide +kernel
theorem dX3_catchUp_56 : decode cX3_catchUp 56 = .ok (.goto (-17), 3) := by decide +kernel
theorem dX3_catchUp_59 : decode cX3_catchUp 59 = .ok (.aload_n 0, 1) := by decide +kernel
theorem dX3_catchUp_60 : decode cX3_catchUp 60 = .ok (.invokevirtual 86, 3) := by decide +kernel
theorem dX3_catchUp_63 : decode cX3_catchUp 63 = .ok (.aload_n 0, 1) := by decide +kernel
theorem dX3_catchUp_64 : decode cX3_catchUp 64 = .ok (.invokevirtual 89, 3) := by decide +kernel
theorem dX3_catchUp_67 : decode cX3_catchUp 67 = .ok (.aload_n 0, 1) := by decide +kernel
theorem dX3_catchUp_68 : decode cX3_catchUp 68 = .ok (.getfield 58, 3) := by decide +kernel
theorem dX3_catchUp_71 : decode cX3_catchUp 71 = .ok (.aload_n 0, 1) := by decide +kernel
theorem dX3_catchUp_72 : decode cX3_catchUp 72 = .ok (.getfield 38, 3) := by decide +kernel
theorem dX3_catchUp_75 : decode cX3_catchUp 75 = .ok (.invokestatic 92, 3) := by decide +kernel
theorem dX3_catchUp_78 : decode cX3_catchUp 78 = .ok (.iload 4, 2) := by decide +kernel
theorem dX3_catchUp_80 : decode cX3_catchUp 80 = .ok (.iload_n 3, 1) := by decide +kernel
theorem dX3_catchUp_81 : decode cX3_catchUp 81 = .ok (.isub, 1) := by decide +kernel
theorem dX3_catchUp_82 : decode cX3_catchUp 82 = .ok (.ireturn, 1) := by decide +kernel
theorem dX3_followChange_0 : decode cX3_followChange 0 = .ok (.aload_n 1, 1) := by decide +kernel
theorem dX3_followChange_1 : decode cX3_followChange 1 = .ok (.getfield 98, 3) := by decide +kernel
theorem dX3_followChange_4 : decode cX3_followChange 4 = .ok (.iload_n 2, 1) := by decide +kernel
theorem dX3_followChange_5 : decode cX3_followChange 5 = .ok (.iaload, 1) := by decide +kernel
theorem dX3_followChange_6 : decode cX3_followChange 6 = .ok (.istore_n 3, 1) := by decide +kernel
theorem dX3_followChange_7 : decode cX3_followChange 7 = .ok (.iload_n 3, 1) := by decide +kernel
theorem dX3_followChange_8 : decode cX3_followChange 8 = .ok (.ifCond .eq 8, 3) := by decide +kernel
theorem dX3_followChange_11 : decode cX3_followChange 11 = .ok (.iload_n 3, 1) := by decide +kernel
theorem dX3_followChange_12 : decode cX3_followChange 12 = .ok (.iconst 1, 1) := by decide +kernel
theorem dX3_followChange_13 : decode cX3_followChange 13 = .ok (.if_icmp .ne 17, 3) := by decide +kernel
theorem dX3_followChange_16 : decode cX3_followChange 16 = .ok (.aload_n 0, 1) := by decide +kernel
theorem dX3_followChange_17 : decode cX3_followChange 17 = .ok (.aload_n 1, 1) := by decide +kernel
theorem dX3_followChange_18 : decode cX3_followChange 18 = .ok (.getfield 101, 3) := by decide +kernel
theorem dX3_followChange_21 : decode cX3_followChange 21 = .ok (.iload_n 2, 1) := by decide +kernel
theorem dX3_followChange_22 : decode cX3_followChange 22 = .ok (.iaload, 1) := by decide +kernel
theorem dX3_followChange_23 : decode cX3_followChange 23 = .ok (.iconst (-1), 1) := by decide +kernel
theorem dX3_followChange_24 : decode cX3_followChange 24 = .ok (.invokevirtual 104, 3) := by decide +kernel
theorem dX3_followChange_27 : decode cX3_followChange 27 = .ok (.goto 25, 3) := by decide +kernel
theorem dX3_followChange_30 : decode cX3_followChange 30 = .ok (.iload_n 3, 1) := by decide +kernel
theorem dX3_followChange_31 : decode cX3_followChange 31 = .ok (.bipush 6, 2) := by decide +kernel
theorem dX3_followChange_33 : decode cX3_followChange 33 = .ok (.if_icmp .ne 19, 3) := by decide +kernel
theorem dX3_followChange_36 : decode cX3_followChange 36 = .ok (.aload_n 0, 1) := by decide +kernel
theorem dX3_followChange_37 : decode cX3_followChange 37 = .ok (.aload_n 1, 1) := by decide +kernel
theorem dX3_followChange_38 : decode cX3_followChange 38 = .ok (.getfield 101, 3) := by decide +kernel
theorem dX3_followChange_41 : decode cX3_followChange 41 = .ok (.iload_n 2, 1) := by decide +kernel
theorem dX3_followChange_42 : decode cX3_followChange 42 = .ok (.iaload, 1) := by decide +kernel
theorem dX3_followChange_43 : decode cX3_followChange 43 = .ok (.aload_n 1, 1) := by decide +kernel
theorem dX3_followChange_44 : decode cX3_followChange 44 = .ok (.getfield 108, 3) := by decide +kernel
theorem dX3_followChange_47 : decode cX3_followChange 47 = .ok (.iload_n 2, 1) := by decide +kernel
theorem dX3_followChange_48 : decode cX3_followChange 48 = .ok (.iaload, 1) := by decide +kernel
theorem dX3_followChange_49 : decode cX3_followChange 49 = .ok (.invokevirtual 104, 3) := by decide +kernel
theorem dX3_followChange_52 : decode cX3_followChange 52 = .ok (.return_, 1) := by decide +kernel
theorem dX3_putInBoth_0 : decode cX3_putInBoth 0 = .ok (.aload_n 0, 1) := by decide +kernel
theorem dX3_putInBoth_1 : decode cX3_putInBoth 1 = .ok (.getfield 22, 3) := by decide +kernel
theorem dX3_putInBoth_4 : decode cX3_putInBoth 4 = .ok (.iload_n 1, 1) := by decide +kernel
theorem dX3_putInBoth_5 : decode cX3_putInBoth 5 = .ok (.iload_n 2, 1) := by decide +kernel
theorem dX3_putInBoth_6 : decode cX3_putInBoth 6 = .ok (.iastore, 1) := by decide +kernel
theorem dX3_putInBoth_7 : decode cX3_putInBoth 7 = .ok (.aload_n 0, 1) := by decide +kernel
theorem dX3_putInBoth_8 : decode cX3_putInBoth 8 = .ok (.getfield 26, 3) := by decide +kernel
theorem dX3_putInBoth_11 : decode cX3_putInBoth 11 = .ok (.iload_n 1, 1) := by decide +kernel
theorem dX3_putInBoth_12 : decode cX3_putInBoth 12 = .ok (.iload_n 2, 1) := by decide +kernel
theorem dX3_putInBoth_13 : decode cX3_putInBoth 13 = .ok (.iastore, 1) := by decide +kernel
theorem dX3_putInBoth_14 : decode cX3_putInBoth 14 = .ok (.return_, 1) := by decide +kernel
theorem dX3_scoreAnew_0 : decode cX3_scoreAnew 0 = .ok (.aload_n 0, 1) := by decide +kernel
theorem dX3_scoreAnew_1 : decode cX3_scoreAnew 1 = .ok (.aload_n 0, 1) := by decide +kernel
theorem dX3_scoreAnew_2 : decode cX3_scoreAnew 2 = .ok (.getfield 12, 3) := by decide +kernel
theorem dX3_scoreAnew_5 : decode cX3_scoreAnew 5 = .ok (.aload_n 0, 1) := by decide +kernel
theorem dX3_scoreAnew_6 : decode cX3_scoreAnew 6 = .ok (.getfield 22, 3) := by decide +kernel
theorem dX3_scoreAnew_9 : decode cX3_scoreAnew 9 = .ok (.invokevirtual 111, 3) := by decide +kernel
theorem dX3_scoreAnew_12 : decode cX3_scoreAnew 12 = .ok (.putfield 38, 3) := by decide +kernel
theorem dX3_scoreAnew_15 : decode cX3_scoreAnew 15 = .ok (.aload_n 0, 1) := by decide +kernel
theorem dX3_scoreAnew_16 : decode cX3_scoreAnew 16 = .ok (.aload_n 0, 1) := by decide +kernel
theorem dX3_scoreAnew_17 : decode cX3_scoreAnew 17 = .ok (.getfield 12, 3) := by decide +kernel
theorem dX3_scoreAnew_20 : decode cX3_scoreAnew 20 = .ok (.aload_n 0, 1) := by decide +kernel
theorem dX3_scoreAnew_21 : decode cX3_scoreAnew 21 = .ok (.getfield 26, 3) := by decide +kernel
theorem dX3_scoreAnew_24 : decode cX3_scoreAnew 24 = .ok (.invokevirtual 111, 3) := by decide +kernel
theorem dX3_scoreAnew_27 : decode cX3_scoreAnew 27 = .ok (.putfield 42, 3) := by decide +kernel
theorem dX3_scoreAnew_30 : decode cX3_scoreAnew 30 = .ok (.return_, 1) := by decide +kernel
theorem dX3_keepIfBest_0 : decode cX3_keepIfBest 0 = .ok (.aload_n 0, 1) := by decide +kernel
theorem dX3_keepIfBest_1 : decode cX3_keepIfBest 1 = .ok (.getfield 38, 3) := by decide +kernel
theorem dX3_keepIfBest_4 : decode cX3_keepIfBest 4 = .ok (.aload_n 0, 1) := by decide +kernel
theorem dX3_keepIfBest_5 : decode cX3_keepIfBest 5 = .ok (.getfield 42, 3) := by decide +kernel
theorem dX3_keepIfBest_8 : decode cX3_keepIfBest 8 = .ok (.lcmp, 1) := by decide +kernel
theorem dX3_keepIfBest_9 : decode cX3_keepIfBest 9 = .ok (.ifCond .ge 36, 3) := by decide +kernel
theorem dX3_keepIfBest_12 : decode cX3_keepIfBest 12 = .ok (.aload_n 0, 1) := by decide +kernel
theorem dX3_keepIfBest_13 : decode cX3_keepIfBest 13 = .ok (.getfield 22, 3) := by decide +kernel
theorem dX3_keepIfBest_16 : decode cX3_keepIfBest 16 = .ok (.iconst 0, 1) := by decide +kernel
theorem dX3_keepIfBest_17 : decode cX3_keepIfBest 17 = .ok (.aload_n 0, 1) := by decide +kernel
theorem dX3_keepIfBest_18 : decode cX3_keepIfBest 18 = .ok (.getfield 26, 3) := by decide +kernel
theorem dX3_keepIfBest_21 : decode cX3_keepIfBest 21 = .ok (.iconst 0, 1) := by decide +kernel
theorem dX3_keepIfBest_22 : decode cX3_keepIfBest 22 = .ok (.bipush 16, 2) := by decide +kernel
theorem dX3_keepIfBest_24 : decode cX3_keepIfBest 24 = .ok (.invokestatic 115, 3) := by decide +kernel
theorem dX3_keepIfBest_27 : decode cX3_keepIfBest 27 = .ok (.aload_n 0, 1) := by decide +kernel
theorem dX3_keepIfBest_28 : decode cX3_keepIfBest 28 = .ok (.aload_n 0, 1) := by decide +kernel
theorem dX3_keepIfBest_29 : decode cX3_keepIfBest 29 = .ok (.getfield 38, 3) := by decide +kernel
theorem dX3_keepIfBest_32 : decode cX3_keepIfBest 32 = .ok (.putfield 42, 3) := by decide +kernel
theorem dX3_keepIfBest_35 : decode cX3_keepIfBest 35 = .ok (.aload_n 0, 1) := by decide +kernel
theorem dX3_keepIfBest_36 : decode cX3_keepIfBest 36 = .ok (.dup, 1) := by decide +kernel
theorem dX3_keepIfBest_37 : decode cX3_keepIfBest 37 = .ok (.getfield 52, 3) := by decide +kernel
theorem dX3_keepIfBest_40 : decode cX3_keepIfBest 40 = .ok (.iconst 1, 1) := by decide +kernel
theorem dX3_keepIfBest_41 : decode cX3_keepIfBest 41 = .ok (.iadd, 1) := by decide +kernel
theorem dX3_keepIfBest_42 : decode cX3_keepIfBest 42 = .ok (.putfield 52, 3) := by decide +kernel
theorem dX3_keepIfBest_45 : decode cX3_keepIfBest 45 = .ok (.return_, 1) := by decide +kernel
theorem dX3_makeSteps_0 : decode cX3_makeSteps 0 = .ok (.aload_n 0, 1) := by decide +kernel
theorem dX3_makeSteps_1 : decode cX3_makeSteps 1 = .ok (.getfield 49, 3) := by decide +kernel
theorem dX3_makeSteps_4 : decode cX3_makeSteps 4 = .ok (.istore_n 2, 1) := by decide +kernel
theorem dX3_makeSteps_5 : decode cX3_makeSteps 5 = .ok (.aload_n 0, 1) := by decide +kernel
theorem dX3_makeSteps_6 : decode cX3_makeSteps 6 = .ok (.getfield 12, 3) := by decide +kernel
theorem dX3_makeSteps_9 : decode cX3_makeSteps 9 = .ok (.aload_n 0, 1) := by decide +kernel
theorem dX3_makeSteps_10 : decode cX3_makeSteps 10 = .ok (.getfield 35, 3) := by decide +kernel
theorem dX3_makeSteps_13 : decode cX3_makeSteps 13 = .ok (.invokevirtual 121, 3) := by decide +kernel
theorem dX3_makeSteps_16 : decode cX3_makeSteps 16 = .ok (.istore_n 3, 1) := by decide +kernel
theorem dX3_makeSteps_17 : decode cX3_makeSteps 17 = .ok (.iconst 0, 1) := by decide +kernel
theorem dX3_makeSteps_18 : decode cX3_makeSteps 18 = .ok (.istore 4, 2) := by decide +kernel
theorem dX3_makeSteps_20 : decode cX3_makeSteps 20 = .ok (.iload 4, 2) := by decide +kernel
theorem dX3_makeSteps_22 : decode cX3_makeSteps 22 = .ok (.iload_n 1, 1) := by decide +kernel
theorem dX3_makeSteps_23 : decode cX3_makeSteps 23 = .ok (.if_icmp .ge 14, 3) := by decide +kernel
theorem dX3_makeSteps_26 : decode cX3_makeSteps 26 = .ok (.aload_n 0, 1) := by decide +kernel
theorem dX3_makeSteps_27 : decode cX3_makeSteps 27 = .ok (.iload_n 3, 1) := by decide +kernel
theorem dX3_makeSteps_28 : decode cX3_makeSteps 28 = .ok (.invokevirtual 125, 3) := by decide +kernel
theorem dX3_makeSteps_31 : decode cX3_makeSteps 31 = .ok (.iinc 4 1, 3) := by decide +kernel
theorem dX3_makeSteps_34 : decode cX3_makeSteps 34 = .ok (.goto (-14), 3) := by decide +kernel
theorem dX3_makeSteps_37 : decode cX3_makeSteps 37 = .ok (.aload_n 0, 1) := by decide +kernel
theorem dX3_makeSteps_38 : decode cX3_makeSteps 38 = .ok (.getfield 49, 3) := by decide +kernel
theorem dX3_makeSteps_41 : decode cX3_makeSteps 41 = .ok (.iload_n 2, 1) := by decide +kernel
theorem dX3_makeSteps_42 : decode cX3_makeSteps 42 = .ok (.isub, 1) := by decide +kernel
theorem dX3_makeSteps_43 : decode cX3_makeSteps 43 = .ok (.ireturn, 1) := by decide +kernel
theorem dX3_makeStep_0 : decode cX3_makeStep 0 = .ok (.aload_n 0, 1) := by decide +kernel
theorem dX3_makeStep_1 : decode cX3_makeStep 1 = .ok (.aload_n 0, 1) := by decide +kernel
theorem dX3_makeStep_2 : decode cX3_makeStep 2 = .ok (.getfield 55, 3) := by decide +kernel
theorem dX3_makeStep_5 : decode cX3_makeStep 5 = .ok (.ldc 129, 2) := by decide +kernel
theorem dX3_makeStep_7 : decode cX3_makeStep 7 = .ok (.imul, 1) := by decide +kernel
theorem dX3_makeStep_8 : decode cX3_makeStep 8 = .ok (.sipush 12345, 3) := by decide +kernel
theorem dX3_makeStep_11 : decode cX3_makeStep 11 = .ok (.iadd, 1) := by decide +kernel
theorem dX3_makeStep_12 : decode cX3_makeStep 12 = .ok (.putfield 55, 3) := by decide +kernel
theorem dX3_makeStep_15 : decode cX3_makeStep 15 = .ok (.aload_n 0, 1) := by decide +kernel
theorem dX3_makeStep_16 : decode cX3_makeStep 16 = .ok (.invokevirtual 130, 3) := by decide +kernel
theorem dX3_makeStep_19 : decode cX3_makeStep 19 = .ok (.istore_n 2, 1) := by decide +kernel
theorem dX3_makeStep_20 : decode cX3_makeStep 20 = .ok (.iload_n 1, 1) := by decide +kernel
theorem dX3_makeStep_21 : decode cX3_makeStep 21 = .ok (.ifCond .le 14, 3) := by decide +kernel
theorem dX3_makeStep_24 : decode cX3_makeStep 24 = .ok (.aload_n 0, 1) := by decide +kernel
theorem dX3_makeStep_25 : decode cX3_makeStep 25 = .ok (.iload_n 1, 1) := by decide +kernel
theorem dX3_makeStep_26 : decode cX3_makeStep 26 = .ok (.aload_n 0, 1) := by decide +kernel
theorem dX3_makeStep_27 : decode cX3_makeStep 27 = .ok (.getfield 58, 3) := by decide +kernel
theorem dX3_makeStep_30 : decode cX3_makeStep 30 = .ok (.iload_n 2, 1) := by decide +kernel
theorem dX3_makeStep_31 : decode cX3_makeStep 31 = .ok (.laload, 1) := by decide +kernel
theorem dX3_makeStep_32 : decode cX3_makeStep 32 = .ok (.invokevirtual 134, 3) := by decide +kernel
theorem dX3_makeStep_35 : decode cX3_makeStep 35 = .ok (.aload_n 0, 1) := by decide +kernel
theorem dX3_makeStep_36 : decode cX3_makeStep 36 = .ok (.getfield 58, 3) := by decide +kernel
theorem dX3_makeStep_39 : decode cX3_makeStep 39 = .ok (.iload_n 2, 1) := by decide +kernel
theorem dX3_makeStep_40 : decode cX3_makeStep 40 = .ok (.aload_n 0, 1) := by decide +kernel
theorem dX3_makeStep_41 : decode cX3_makeStep 41 = .ok (.getfield 38, 3) := by decide +kernel
theorem dX3_makeStep_44 : decode cX3_makeStep 44 = .ok (.lastore, 1) := by decide +kernel
theorem dX3_makeStep_45 : decode cX3_makeStep 45 = .ok (.aload_n 0, 1) := by decide +kernel
theorem dX3_makeStep_46 : decode cX3_makeStep 46 = .ok (.invokevirtual 89, 3) := by decide +kernel
theorem dX3_makeStep_49 : decode cX3_makeStep 49 = .ok (.aload_n 0, 1) := by decide +kernel
theorem dX3_makeStep_50 : decode cX3_makeStep 50 = .ok (.dup, 1) := by decide +kernel
theorem dX3_makeStep_51 : decode cX3_makeStep 51 = .ok (.getfield 45, 3) := by decide +kernel
theorem dX3_makeStep_54 : decode cX3_makeStep 54 = .ok (.iconst 1, 1) := by decide +kernel
theorem dX3_makeStep_55 : decode cX3_makeStep 55 = .ok (.iadd, 1) := by decide +kernel
theorem dX3_makeStep_56 : decode cX3_makeStep 56 = .ok (.putfield 45, 3) := by decide +kernel
theorem dX3_makeStep_59 : decode cX3_makeStep 59 = .ok (.return_, 1) := by decide +kernel
theorem dX3_tryPlan_0 : decode cX3_tryPlan 0 = .ok (.aload_n 0, 1) := by decide +kernel
theorem dX3_tryPlan_1 : decode cX3_tryPlan 1 = .ok (.getfield 55, 3) := by decide +kernel
theorem dX3_tryPlan_4 : decode cX3_tryPlan 4 = .ok (.bipush 8, 2) := by decide +kernel
theorem dX3_tryPlan_6 : decode cX3_tryPlan 6 = .ok (.iushr, 1) := by decide +kernel
theorem dX3_tryPlan_7 : decode cX3_tryPlan 7 = .ok (.iconst 4, 1) := by decide +kernel
theorem dX3_tryPlan_8 : decode cX3_tryPlan 8 = .ok (.irem, 1) := by decide +kernel
theorem dX3_tryPlan_9 : decode cX3_tryPlan 9 = .ok (.iconst 3, 1) := by decide +kernel
theorem dX3_tryPlan_10 : decode cX3_tryPlan 10 = .ok (.if_icmp .ne 7, 3) := by decide +kernel
theorem dX3_tryPlan_13 : decode cX3_tryPlan 13 = .ok (.iconst 1, 1) := by decide +kernel
theorem dX3_tryPlan_14 : decode cX3_tryPlan 14 = .ok (.goto 4, 3) := by decide +kernel
theorem dX3_tryPlan_17 : decode cX3_tryPlan 17 = .ok (.iconst 0, 1) := by decide +kernel
theorem dX3_tryPlan_18 : decode cX3_tryPlan 18 = .ok (.istore 4, 2) := by decide +kernel
theorem dX3_tryPlan_20 : decode cX3_tryPlan 20 = .ok (.aload_n 0, 1) := by decide +kernel
theorem dX3_tryPlan_21 : decode cX3_tryPlan 21 = .ok (.getfield 35, 3) := by decide +kernel
theorem dX3_tryPlan_24 : decode cX3_tryPlan 24 = .ok (.aload_n 0, 1) := by decide +kernel
theorem dX3_tryPlan_25 : decode cX3_tryPlan 25 = .ok (.getfield 55, 3) := by decide +kernel
theorem dX3_tryPlan_28 : decode cX3_tryPlan 28 = .ok (.bipush 16, 2) := by decide +kernel
theorem dX3_tryPlan_30 : decode cX3_tryPlan 30 = .ok (.iushr, 1) := by decide +kernel
theorem dX3_tryPlan_31 : decode cX3_tryPlan 31 = .ok (.iload_n 1, 1) := by decide +kernel
theorem dX3_tryPlan_32 : decode cX3_tryPlan 32 = .ok (.irem, 1) := by decide +kernel
theorem dX3_tryPlan_33 : decode cX3_tryPlan 33 = .ok (.iaload, 1) := by decide +kernel
theorem dX3_tryPlan_34 : decode cX3_tryPlan 34 = .ok (.istore 5, 2) := by decide +kernel
theorem dX3_tryPlan_36 : decode cX3_tryPlan 36 = .ok (.iload 4, 2) := by decide +kernel
theorem dX3_tryPlan_38 : decode cX3_tryPlan 38 = .ok (.ifCond .eq 20, 3) := by decide +kernel
theorem dX3_tryPlan_41 : decode cX3_tryPlan 41 = .ok (.aload_n 0, 1) := by decide +kernel
theorem dX3_tryPlan_42 : decode cX3_tryPlan 42 = .ok (.getfield 35, 3) := by decide +kernel
theorem dX3_tryPlan_45 : decode cX3_tryPlan 45 = .ok (.aload_n 0, 1) := by decide +kernel
theorem dX3_tryPlan_46 : decode cX3_tryPlan 46 = .ok (.getfield 55, 3) := by decide +kernel
theorem dX3_tryPlan_49 : decode cX3_tryPlan 49 = .ok (.bipush 20, 2) := by decide +kernel
theorem dX3_tryPlan_51 : decode cX3_tryPlan 51 = .ok (.iushr, 1) := by decide +kernel
theorem dX3_tryPlan_52 : decode cX3_tryPlan 52 = .ok (.iload_n 1, 1) := by decide +kernel
theorem dX3_tryPlan_53 : decode cX3_tryPlan 53 = .ok (.irem, 1) := by decide +kernel
theorem dX3_tryPlan_54 : decode cX3_tryPlan 54 = .ok (.iaload, 1) := by decide +kernel
theorem dX3_tryPlan_55 : decode cX3_tryPlan 55 = .ok (.goto 5, 3) := by decide +kernel
theorem dX3_tryPlan_58 : decode cX3_tryPlan 58 = .ok (.iload 5, 2) := by decide +kernel
theorem dX3_tryPlan_60 : decode cX3_tryPlan 60 = .ok (.istore 6, 2) := by decide +kernel
theorem dX3_tryPlan_62 : decode cX3_tryPlan 62 = .ok (.aload_n 0, 1) := by decide +kernel
theorem dX3_tryPlan_63 : decode cX3_tryPlan 63 = .ok (.getfield 22, 3) := by decide +kernel
theorem dX3_tryPlan_66 : decode cX3_tryPlan 66 = .ok (.iload 5, 2) := by decide +kernel
theorem dX3_tryPlan_68 : decode cX3_tryPlan 68 = .ok (.iaload, 1) := by decide +kernel
theorem dX3_tryPlan_69 : decode cX3_tryPlan 69 = .ok (.istore 7, 2) := by decide +kernel
theorem dX3_tryPlan_71 : decode cX3_tryPlan 71 = .ok (.aload_n 0, 1) := by decide +kernel
theorem dX3_tryPlan_72 : decode cX3_tryPlan 72 = .ok (.getfield 22, 3) := by decide +kernel
theorem dX3_tryPlan_75 : decode cX3_tryPlan 75 = .ok (.iload 6, 2) := by decide +kernel
theorem dX3_tryPlan_77 : decode cX3_tryPlan 77 = .ok (.iaload, 1) := by decide +kernel
theorem dX3_tryPlan_78 : decode cX3_tryPlan 78 = .ok (.istore 8, 2) := by decide +kernel
theorem dX3_tryPlan_80 : decode cX3_tryPlan 80 = .ok (.iload 4, 2) := by decide +kernel
theorem dX3_tryPlan_82 : decode cX3_tryPlan 82 = .ok (.ifCond .eq 24, 3) := by decide +kernel
theorem dX3_tryPlan_85 : decode cX3_tryPlan 85 = .ok (.aload_n 0, 1) := by decide +kernel
theorem dX3_tryPlan_86 : decode cX3_tryPlan 86 = .ok (.getfield 22, 3) := by decide +kernel
theorem dX3_tryPlan_89 : decode cX3_tryPlan 89 = .ok (.iload 5, 2) := by decide +kernel
theorem dX3_tryPlan_91 : decode cX3_tryPlan 91 = .ok (.iload 8, 2) := by decide +kernel
theorem dX3_tryPlan_93 : decode cX3_tryPlan 93 = .ok (.iastore, 1) := by decide +kernel
theorem dX3_tryPlan_94 : decode cX3_tryPlan 94 = .ok (.aload_n 0, 1) := by decide +kernel
theorem dX3_tryPlan_95 : decode cX3_tryPlan 95 = .ok (.getfield 22, 3) := by decide +kernel
theorem dX3_tryPlan_98 : decode cX3_tryPlan 98 = .ok (.iload 6, 2) := by decide +kernel
theorem dX3_tryPlan_100 : decode cX3_tryPlan 100 = .ok (.iload 7, 2) := by decide +kernel
theorem dX3_tryPlan_102 : decode cX3_tryPlan 102 = .ok (.iastore, 1) := by decide +kernel
theorem dX3_tryPlan_103 : decode cX3_tryPlan 103 = .ok (.goto 36, 3) := by decide +kernel
theorem dX3_tryPlan_106 : decode cX3_tryPlan 106 = .ok (.aload_n 0, 1) := by decide +kernel
theorem dX3_tryPlan_107 : decode cX3_tryPlan 107 = .ok (.getfield 55, 3) := by decide +kernel
theorem dX3_tryPlan_110 : decode cX3_tryPlan 110 = .ok (.bipush 24, 2) := by decide +kernel
theorem dX3_tryPlan_112 : decode cX3_tryPlan 112 = .ok (.iushr, 1) := by decide +kernel
theorem dX3_tryPlan_113 : decode cX3_tryPlan 113 = .ok (.bipush 7, 2) := by decide +kernel
theorem dX3_tryPlan_115 : decode cX3_tryPlan 115 = .ok (.irem, 1) := by decide +kernel
theorem dX3_tryPlan_116 : decode cX3_tryPlan 116 = .ok (.istore 9, 2) := by decide +kernel
theorem dX3_tryPlan_118 : decode cX3_tryPlan 118 = .ok (.aload_n 0, 1) := by decide +kernel
theorem dX3_tryPlan_119 : decode cX3_tryPlan 119 = .ok (.getfield 22, 3) := by decide +kernel
theorem dX3_tryPlan_122 : decode cX3_tryPlan 122 = .ok (.iload 5, 2) := by decide +kernel
theorem dX3_tryPlan_124 : decode cX3_tryPlan 124 = .ok (.iload 9, 2) := by decide +kernel
theorem dX3_tryPlan_126 : decode cX3_tryPlan 126 = .ok (.invokestatic 138, 3) := by decide +kernel
theorem dX3_tryPlan_129 : decode cX3_tryPlan 129 = .ok (.ifCond .eq 8, 3) := by decide +kernel
theorem dX3_tryPlan_132 : decode cX3_tryPlan 132 = .ok (.iload 9, 2) := by decide +kernel
theorem dX3_tryPlan_134 : decode cX3_tryPlan 134 = .ok (.goto 4, 3) := by decide +kernel
theorem dX3_tryPlan_137 : decode cX3_tryPlan 137 = .ok (.iconst (-1), 1) := by decide +kernel
theorem dX3_tryPlan_138 : decode cX3_tryPlan 138 = .ok (.iastore, 1) := by decide +kernel
theorem dX3_tryPlan_139 : decode cX3_tryPlan 139 = .ok (.aload_n 0, 1) := by decide +kernel
theorem dX3_tryPlan_140 : decode cX3_tryPlan 140 = .ok (.getfield 12, 3) := by decide +kernel
theorem dX3_tryPlan_143 : decode cX3_tryPlan 143 = .ok (.aload_n 0, 1) := by decide +kernel
theorem dX3_tryPlan_144 : decode cX3_tryPlan 144 = .ok (.getfield 22, 3) := by decide +kernel
theorem dX3_tryPlan_147 : decode cX3_tryPlan 147 = .ok (.invokevirtual 111, 3) := by decide +kernel
theorem dX3_tryPlan_150 : decode cX3_tryPlan 150 = .ok (.lstore 9, 2) := by decide +kernel
theorem dX3_tryPlan_152 : decode cX3_tryPlan 152 = .ok (.aload_n 0, 1) := by decide +kernel
theorem dX3_tryPlan_153 : decode cX3_tryPlan 153 = .ok (.getfield 38, 3) := by decide +kernel
theorem dX3_tryPlan_156 : decode cX3_tryPlan 156 = .ok (.lload 9, 2) := by decide +kernel
theorem dX3_tryPlan_158 : decode cX3_tryPlan 158 = .ok (.lcmp, 1) := by decide +kernel
theorem dX3_tryPlan_159 : decode cX3_tryPlan 159 = .ok (.ifCond .ge 31, 3) := by decide +kernel
theorem dX3_tryPlan_162 : decode cX3_tryPlan 162 = .ok (.lload_n 2, 1) := by decide +kernel
theorem dX3_tryPlan_163 : decode cX3_tryPlan 163 = .ok (.lload 9, 2) := by decide +kernel
theorem dX3_tryPlan_165 : decode cX3_tryPlan 165 = .ok (.lcmp, 1) := by decide +kernel
theorem dX3_tryPlan_166 : decode cX3_tryPlan 166 = .ok (.ifCond .ge 24, 3) := by decide +kernel
theorem dX3_tryPlan_169 : decode cX3_tryPlan 169 = .ok (.aload_n 0, 1) := by decide +kernel
theorem dX3_tryPlan_170 : decode cX3_tryPlan 170 = .ok (.getfield 22, 3) := by decide +kernel
theorem dX3_tryPlan_173 : decode cX3_tryPlan 173 = .ok (.iload 5, 2) := by decide +kernel
theorem dX3_tryPlan_175 : decode cX3_tryPlan 175 = .ok (.iload 7, 2) := by decide +kernel
theorem dX3_tryPlan_177 : decode cX3_tryPlan 177 = .ok (.iastore, 1) := by decide +kernel
theorem dX3_tryPlan_178 : decode cX3_tryPlan 178 = .ok (.aload_n 0, 1) := by decide +kernel
theorem dX3_tryPlan_179 : decode cX3_tryPlan 179 = .ok (.getfield 22, 3) := by decide +kernel
theorem dX3_tryPlan_182 : decode cX3_tryPlan 182 = .ok (.iload 6, 2) := by decide +kernel
theorem dX3_tryPlan_184 : decode cX3_tryPlan 184 = .ok (.iload 8, 2) := by decide +kernel
theorem dX3_tryPlan_186 : decode cX3_tryPlan 186 = .ok (.iastore, 1) := by decide +kernel
theorem dX3_tryPlan_187 : decode cX3_tryPlan 187 = .ok (.goto 19, 3) := by decide +kernel
theorem dX3_tryPlan_190 : decode cX3_tryPlan 190 = .ok (.aload_n 0, 1) := by decide +kernel
theorem dX3_tryPlan_191 : decode cX3_tryPlan 191 = .ok (.lload 9, 2) := by decide +kernel
theorem dX3_tryPlan_193 : decode cX3_tryPlan 193 = .ok (.putfield 38, 3) := by decide +kernel
theorem dX3_tryPlan_196 : decode cX3_tryPlan 196 = .ok (.aload_n 0, 1) := by decide +kernel
theorem dX3_tryPlan_197 : decode cX3_tryPlan 197 = .ok (.dup, 1) := by decide +kernel
theorem dX3_tryPlan_198 : decode cX3_tryPlan 198 = .ok (.getfield 49, 3) := by decide +kernel
theorem dX3_tryPlan_201 : decode cX3_tryPlan 201 = .ok (.iconst 1, 1) := by decide +kernel
theorem dX3_tryPlan_202 : decode cX3_tryPlan 202 = .ok (.iadd, 1) := by decide +kernel
theorem dX3_tryPlan_203 : decode cX3_tryPlan 203 = .ok (.putfield 49, 3) := by decide +kernel
theorem dX3_tryPlan_206 : decode cX3_tryPlan 206 = .ok (.return_, 1) := by decide +kernel
theorem dX3_keepIn_0 : decode cX3_keepIn 0 = .ok (.aload_n 1, 1) := by decide +kernel
theorem dX3_keepIn_1 : decode cX3_keepIn 1 = .ok (.aload_n 0, 1) := by decide +kernel
theorem dX3_keepIn_2 : decode cX3_keepIn 2 = .ok (.getfield 12, 3) := by decide +kernel
theorem dX3_keepIn_5 : decode cX3_keepIn 5 = .ok (.getfield 68, 3) := by decide +kernel
theorem dX3_keepIn_8 : decode cX3_keepIn 8 = .ok (.putfield 142, 3) := by decide +kernel
theorem dX3_keepIn_11 : decode cX3_keepIn 11 = .ok (.aload_n 0, 1) := by decide +kernel
theorem dX3_keepIn_12 : decode cX3_keepIn 12 = .ok (.getfield 22, 3) := by decide +kernel
theorem dX3_keepIn_15 : decode cX3_keepIn 15 = .ok (.iconst 0, 1) := by decide +kernel
theorem dX3_keepIn_16 : decode cX3_keepIn 16 = .ok (.aload_n 1, 1) := by decide +kernel
theorem dX3_keepIn_17 : decode cX3_keepIn 17 = .ok (.getfield 143, 3) := by decide +kernel
theorem dX3_keepIn_20 : decode cX3_keepIn 20 = .ok (.iconst 0, 1) := by decide +kernel
theorem dX3_keepIn_21 : decode cX3_keepIn 21 = .ok (.bipush 16, 2) := by decide +kernel
theorem dX3_keepIn_23 : decode cX3_keepIn 23 = .ok (.invokestatic 115, 3) := by decide +kernel
theorem dX3_keepIn_26 : decode cX3_keepIn 26 = .ok (.aload_n 0, 1) := by decide +kernel
theorem dX3_keepIn_27 : decode cX3_keepIn 27 = .ok (.getfield 26, 3) := by decide +kernel
theorem dX3_keepIn_30 : decode cX3_keepIn 30 = .ok (.iconst 0, 1) := by decide +kernel
theorem dX3_keepIn_31 : decode cX3_keepIn 31 = .ok (.aload_n 1, 1) := by decide +kernel
theorem dX3_keepIn_32 : decode cX3_keepIn 32 = .ok (.getfield 144, 3) := by decide +kernel
theorem dX3_keepIn_35 : decode cX3_keepIn 35 = .ok (.iconst 0, 1) := by decide +kernel
theorem dX3_keepIn_36 : decode cX3_keepIn 36 = .ok (.bipush 16, 2) := by decide +kernel
theorem dX3_keepIn_38 : decode cX3_keepIn 38 = .ok (.invokestatic 115, 3) := by decide +kernel
theorem dX3_keepIn_41 : decode cX3_keepIn 41 = .ok (.aload_n 0, 1) := by decide +kernel
theorem dX3_keepIn_42 : decode cX3_keepIn 42 = .ok (.getfield 58, 3) := by decide +kernel
theorem dX3_keepIn_45 : decode cX3_keepIn 45 = .ok (.iconst 0, 1) := by decide +kernel
theorem dX3_keepIn_46 : decode cX3_keepIn 46 = .ok (.aload_n 1, 1) := by decide +kernel
theorem dX3_keepIn_47 : decode cX3_keepIn 47 = .ok (.getfield 145, 3) := by decide +kernel
theorem dX3_keepIn_50 : decode cX3_keepIn 50 = .ok (.iconst 0, 1) := by decide +kernel
theorem dX3_keepIn_51 : decode cX3_keepIn 51 = .ok (.aload_n 0, 1) := by decide +kernel
theorem dX3_keepIn_52 : decode cX3_keepIn 52 = .ok (.getfield 58, 3) := by decide +kernel
theorem dX3_keepIn_55 : decode cX3_keepIn 55 = .ok (.arraylength, 1) := by decide +kernel
theorem dX3_keepIn_56 : decode cX3_keepIn 56 = .ok (.invokestatic 115, 3) := by decide +kernel
theorem dX3_keepIn_59 : decode cX3_keepIn 59 = .ok (.return_, 1) := by decide +kernel
theorem dX3_goBackTo_0 : decode cX3_goBackTo 0 = .ok (.aload_n 0, 1) := by decide +kernel
theorem dX3_goBackTo_1 : decode cX3_goBackTo 1 = .ok (.getfield 12, 3) := by decide +kernel
theorem dX3_goBackTo_4 : decode cX3_goBackTo 4 = .ok (.getfield 68, 3) := by decide +kernel
theorem dX3_goBackTo_7 : decode cX3_goBackTo 7 = .ok (.istore_n 3, 1) := by decide +kernel
theorem dX3_goBackTo_8 : decode cX3_goBackTo 8 = .ok (.aload_n 0, 1) := by decide +kernel
theorem dX3_goBackTo_9 : decode cX3_goBackTo 9 = .ok (.getfield 12, 3) := by decide +kernel
theorem dX3_goBackTo_12 : decode cX3_goBackTo 12 = .ok (.aload_n 2, 1) := by decide +kernel
theorem dX3_goBackTo_13 : decode cX3_goBackTo 13 = .ok (.aload_n 1, 1) := by decide +kernel
theorem dX3_goBackTo_14 : decode cX3_goBackTo 14 = .ok (.getfield 142, 3) := by decide +kernel
theorem dX3_goBackTo_17 : decode cX3_goBackTo 17 = .ok (.invokevirtual 79, 3) := by decide +kernel
theorem dX3_goBackTo_20 : decode cX3_goBackTo 20 = .ok (.aload_n 1, 1) := by decide +kernel
theorem dX3_goBackTo_21 : decode cX3_goBackTo 21 = .ok (.getfield 143, 3) := by decide +kernel
theorem dX3_goBackTo_24 : decode cX3_goBackTo 24 = .ok (.iconst 0, 1) := by decide +kernel
theorem dX3_goBackTo_25 : decode cX3_goBackTo 25 = .ok (.aload_n 0, 1) := by decide +kernel
theorem dX3_goBackTo_26 : decode cX3_goBackTo 26 = .ok (.getfield 22, 3) := by decide +kernel
theorem dX3_goBackTo_29 : decode cX3_goBackTo 29 = .ok (.iconst 0, 1) := by decide +kernel
theorem dX3_goBackTo_30 : decode cX3_goBackTo 30 = .ok (.bipush 16, 2) := by decide +kernel
theorem dX3_goBackTo_32 : decode cX3_goBackTo 32 = .ok (.invokestatic 115, 3) := by decide +kernel
theorem dX3_goBackTo_35 : decode cX3_goBackTo 35 = .ok (.aload_n 1, 1) := by decide +kernel
theorem dX3_goBackTo_36 : decode cX3_goBackTo 36 = .ok (.getfield 144, 3) := by decide +kernel
theorem dX3_goBackTo_39 : decode cX3_goBackTo 39 = .ok (.iconst 0, 1) := by decide +kernel
theorem dX3_goBackTo_40 : decode cX3_goBackTo 40 = .ok (.aload_n 0, 1) := by decide +kernel
theorem dX3_goBackTo_41 : decode cX3_goBackTo 41 = .ok (.getfield 26, 3) := by decide +kernel
theorem dX3_goBackTo_44 : decode cX3_goBackTo 44 = .ok (.iconst 0, 1) := by decide +kernel
theorem dX3_goBackTo_45 : decode cX3_goBackTo 45 = .ok (.bipush 16, 2) := by decide +kernel
theorem dX3_goBackTo_47 : decode cX3_goBackTo 47 = .ok (.invokestatic 115, 3) := by decide +kernel
theorem dX3_goBackTo_50 : decode cX3_goBackTo 50 = .ok (.aload_n 1, 1) := by decide +kernel
theorem dX3_goBackTo_51 : decode cX3_goBackTo 51 = .ok (.getfield 145, 3) := by decide +kernel
theorem dX3_goBackTo_54 : decode cX3_goBackTo 54 = .ok (.iconst 0, 1) := by decide +kernel
theorem dX3_goBackTo_55 : decode cX3_goBackTo 55 = .ok (.aload_n 0, 1) := by decide +kernel
theorem dX3_goBackTo_56 : decode cX3_goBackTo 56 = .ok (.getfield 58, 3) := by decide +kernel
theorem dX3_goBackTo_59 : decode cX3_goBackTo 59 = .ok (.iconst 0, 1) := by decide +kernel
theorem dX3_goBackTo_60 : decode cX3_goBackTo 60 = .ok (.aload_n 0, 1) := by decide +kernel
theorem dX3_goBackTo_61 : decode cX3_goBackTo 61 = .ok (.getfield 58, 3) := by decide +kernel
theorem dX3_goBackTo_64 : decode cX3_goBackTo 64 = .ok (.arraylength, 1) := by decide +kernel
theorem dX3_goBackTo_65 : decode cX3_goBackTo 65 = .ok (.invokestatic 115, 3) := by decide +kernel
theorem dX3_goBackTo_68 : decode cX3_goBackTo 68 = .ok (.aload_n 0, 1) := by decide +kernel
theorem dX3_goBackTo_69 : decode cX3_goBackTo 69 = .ok (.invokevirtual 86, 3) := by decide +kernel
theorem dX3_goBackTo_72 : decode cX3_goBackTo 72 = .ok (.aload_n 0, 1) := by decide +kernel
theorem dX3_goBackTo_73 : decode cX3_goBackTo 73 = .ok (.aload_n 2, 1) := by decide +kernel
theorem dX3_goBackTo_74 : decode cX3_goBackTo 74 = .ok (.iload_n 3, 1) := by decide +kernel
theorem dX3_goBackTo_75 : decode cX3_goBackTo 75 = .ok (.invokevirtual 146, 3) := by decide +kernel
theorem dX3_goBackTo_78 : decode cX3_goBackTo 78 = .ok (.pop, 1) := by decide +kernel
theorem dX3_goBackTo_79 : decode cX3_goBackTo 79 = .ok (.return_, 1) := by decide +kernel
theorem dX3_isLike_0 : decode cX3_isLike 0 = .ok (.aload_n 0, 1) := by decide +kernel
theorem dX3_isLike_1 : decode cX3_isLike 1 = .ok (.getfield 12, 3) := by decide +kernel
theorem dX3_isLike_4 : decode cX3_isLike 4 = .ok (.getfield 68, 3) := by decide +kernel
theorem dX3_isLike_7 : decode cX3_isLike 7 = .ok (.aload_n 1, 1) := by decide +kernel
theorem dX3_isLike_8 : decode cX3_isLike 8 = .ok (.getfield 12, 3) := by decide +kernel
theorem dX3_isLike_11 : decode cX3_isLike 11 = .ok (.getfield 68, 3) := by decide +kernel
theorem dX3_isLike_14 : decode cX3_isLike 14 = .ok (.if_icmp .eq 5, 3) := by decide +kernel
theorem dX3_isLike_17 : decode cX3_isLike 17 = .ok (.iconst 0, 1) := by decide +kernel
theorem dX3_isLike_18 : decode cX3_isLike 18 = .ok (.ireturn, 1) := by decide +kernel
theorem dX3_isLike_19 : decode cX3_isLike 19 = .ok (.iconst 0, 1) := by decide +kernel
theorem dX3_isLike_20 : decode cX3_isLike 20 = .ok (.istore_n 2, 1) := by decide +kernel
theorem dX3_isLike_21 : decode cX3_isLike 21 = .ok (.iload_n 2, 1) := by decide +kernel
theorem dX3_isLike_22 : decode cX3_isLike 22 = .ok (.bipush 16, 2) := by decide +kernel
theorem dX3_isLike_24 : decode cX3_isLike 24 = .ok (.if_icmp .ge 41, 3) := by decide +kernel
theorem dX3_isLike_27 : decode cX3_isLike 27 = .ok (.aload_n 0, 1) := by decide +kernel
theorem dX3_isLike_28 : decode cX3_isLike 28 = .ok (.getfield 22, 3) := by decide +kernel
theorem dX3_isLike_31 : decode cX3_isLike 31 = .ok (.iload_n 2, 1) := by decide +kernel
theorem dX3_isLike_32 : decode cX3_isLike 32 = .ok (.iaload, 1) := by decide +kernel
theorem dX3_isLike_33 : decode cX3_isLike 33 = .ok (.aload_n 1, 1) := by decide +kernel
theorem dX3_isLike_34 : decode cX3_isLike 34 = .ok (.getfield 22, 3) := by decide +kernel
theorem dX3_isLike_37 : decode cX3_isLike 37 = .ok (.iload_n 2, 1) := by decide +kernel
theorem dX3_isLike_38 : decode cX3_isLike 38 = .ok (.iaload, 1) := by decide +kernel
theorem dX3_isLike_39 : decode cX3_isLike 39 = .ok (.if_icmp .ne 18, 3) := by decide +kernel
theorem dX3_isLike_42 : decode cX3_isLike 42 = .ok (.aload_n 0, 1) := by decide +kernel
theorem dX3_isLike_43 : decode cX3_isLike 43 = .ok (.getfield 26, 3) := by decide +kernel
theorem dX3_isLike_46 : decode cX3_isLike 46 = .ok (.iload_n 2, 1) := by decide +kernel
theorem dX3_isLike_47 : decode cX3_isLike 47 = .ok (.iaload, 1) := by decide +kernel
theorem dX3_isLike_48 : decode cX3_isLike 48 = .ok (.aload_n 1, 1) := by decide +kernel
theorem dX3_isLike_49 : decode cX3_isLike 49 = .ok (.getfield 26, 3) := by decide +kernel
theorem dX3_isLike_52 : decode cX3_isLike 52 = .ok (.iload_n 2, 1) := by decide +kernel
theorem dX3_isLike_53 : decode cX3_isLike 53 = .ok (.iaload, 1) := by decide +kernel
theorem dX3_isLike_54 : decode cX3_isLike 54 = .ok (.if_icmp .eq 5, 3) := by decide +kernel
theorem dX3_isLike_57 : decode cX3_isLike 57 = .ok (.iconst 0, 1) := by decide +kernel
theorem dX3_isLike_58 : decode cX3_isLike 58 = .ok (.ireturn, 1) := by decide +kernel
theorem dX3_isLike_59 : decode cX3_isLike 59 = .ok (.iinc 2 1, 3) := by decide +kernel
theorem dX3_isLike_62 : decode cX3_isLike 62 = .ok (.goto (-41), 3) := by decide +kernel
theorem dX3_isLike_65 : decode cX3_isLike 65 = .ok (.iconst 1, 1) := by decide +kernel
theorem dX3_isLike_66 : decode cX3_isLike 66 = .ok (.ireturn, 1) := by decide +kernel
theorem dX4_init_0 : decode cX4_init 0 = .ok (.aload_n 0, 1) := by decide +kernel
theorem dX4_init_1 : decode cX4_init 1 = .ok (.invokespecial 1, 3) := by decide +kernel
theorem dX4_init_4 : decode cX4_init 4 = .ok (.aload_n 0, 1) := by decide +kernel
theorem dX4_init_5 : decode cX4_init 5 = .ok (.new 7, 3) := by decide +kernel
theorem dX4_init_8 : decode cX4_init 8 = .ok (.dup, 1) := by decide +kernel
theorem dX4_init_9 : decode cX4_init 9 = .ok (.invokespecial 9, 3) := by decide +kernel
theorem dX4_init_12 : decode cX4_init 12 = .ok (.putfield 10, 3) := by decide +kernel
theorem dX4_init_15 : decode cX4_init 15 = .ok (.aload_n 0, 1) := by decide +kernel
theorem dX4_init_16 : decode cX4_init 16 = .ok (.new 16, 3) := by decide +kernel
theorem dX4_init_19 : decode cX4_init 19 = .ok (.dup, 1) := by decide +kernel
theorem dX4_init_20 : decode cX4_init 20 = .ok (.invokespecial 18, 3) := by decide +kernel
theorem dX4_init_23 : decode cX4_init 23 = .ok (.putfield 19, 3) := by decide +kernel
theorem dX4_init_26 : decode cX4_init 26 = .ok (.aload_n 0, 1) := by decide +kernel
theorem dX4_init_27 : decode cX4_init 27 = .ok (.new 16, 3) := by decide +kernel
theorem dX4_init_30 : decode cX4_init 30 = .ok (.dup, 1) := by decide +kernel
theorem dX4_init_31 : decode cX4_init 31 = .ok (.invokespecial 18, 3) := by decide +kernel
theorem dX4_init_34 : decode cX4_init 34 = .ok (.putfield 23, 3) := by decide +kernel
theorem dX4_init_37 : decode cX4_init 37 = .ok (.aload_n 0, 1) := by decide +kernel
theorem dX4_init_38 : decode cX4_init 38 = .ok (.iconst 3, 1) := by decide +kernel
theorem dX4_init_39 : decode cX4_init 39 = .ok (.anewarray 26, 3) := by decide +kernel
theorem dX4_init_42 : decode cX4_init 42 = .ok (.putfield 28, 3) := by decide +kernel
theorem dX4_init_45 : decode cX4_init 45 = .ok (.aload_n 0, 1) := by decide +kernel
theorem dX4_init_46 : decode cX4_init 46 = .ok (.iconst 0, 1) := by decide +kernel
theorem dX4_init_47 : decode cX4_init 47 = .ok (.putfield 32, 3) := by decide +kernel
theorem dX4_init_50 : decode cX4_init 50 = .ok (.return_, 1) := by decide +kernel
theorem dX4_come_0 : decode cX4_come 0 = .ok (.iload_n 1, 1) := by decide +kernel
theorem dX4_come_1 : decode cX4_come 1 = .ok (.iload_n 2, 1) := by decide +kernel
theorem dX4_come_2 : decode cX4_come 2 = .ok (.iload_n 3, 1) := by decide +kernel
theorem dX4_come_3 : decode cX4_come 3 = .ok (.invokestatic 36, 3) := by decide +kernel
theorem dX4_come_6 : decode cX4_come 6 = .ok (.ifCond .ne 6, 3) := by decide +kernel
theorem dX4_come_9 : decode cX4_come 9 = .ok (.bipush (-2), 2) := by decide +kernel
theorem dX4_come_11 : decode cX4_come 11 = .ok (.ireturn, 1) := by decide +kernel
theorem dX4_come_12 : decode cX4_come 12 = .ok (.aload_n 0, 1) := by decide +kernel
theorem dX4_come_13 : decode cX4_come 13 = .ok (.getfield 19, 3) := by decide +kernel
theorem dX4_come_16 : decode cX4_come 16 = .ok (.getfield 40, 3) := by decide +kernel
theorem dX4_come_19 : decode cX4_come 19 = .ok (.bipush 16, 2) := by decide +kernel
theorem dX4_come_21 : decode cX4_come 21 = .ok (.if_icmp .lt 6, 3) := by decide +kernel
theorem dX4_come_24 : decode cX4_come 24 = .ok (.bipush (-3), 2) := by decide +kernel
theorem dX4_come_26 : decode cX4_come 26 = .ok (.ireturn, 1) := by decide +kernel
theorem dX4_come_27 : decode cX4_come 27 = .ok (.aload_n 0, 1) := by decide +kernel
theorem dX4_come_28 : decode cX4_come 28 = .ok (.iconst 0, 1) := by decide +kernel
theorem dX4_come_29 : decode cX4_come 29 = .ok (.aload_n 0, 1) := by decide +kernel
theorem dX4_come_30 : decode cX4_come 30 = .ok (.getfield 19, 3) := by decide +kernel
theorem dX4_come_33 : decode cX4_come 33 = .ok (.getfield 40, 3) := by decide +kernel
theorem dX4_come_36 : decode cX4_come 36 = .ok (.iload_n 1, 1) := by decide +kernel
theorem dX4_come_37 : decode cX4_come 37 = .ok (.iload_n 2, 1) := by decide +kernel
theorem dX4_come_38 : decode cX4_come 38 = .ok (.iload_n 3, 1) := by decide +kernel
theorem dX4_come_39 : decode cX4_come 39 = .ok (.invokevirtual 43, 3) := by decide +kernel
theorem dX4_come_42 : decode cX4_come 42 = .ok (.ireturn, 1) := by decide +kernel
theorem dX4_go_0 : decode cX4_go 0 = .ok (.aload_n 0, 1) := by decide +kernel
theorem dX4_go_1 : decode cX4_go 1 = .ok (.getfield 19, 3) := by decide +kernel
theorem dX4_go_4 : decode cX4_go 4 = .ok (.iload_n 1, 1) := by decide +kernel
theorem dX4_go_5 : decode cX4_go 5 = .ok (.invokevirtual 47, 3) := by decide +kernel
theorem dX4_go_8 : decode cX4_go 8 = .ok (.ifCond .ne 6, 3) := by decide +kernel
theorem dX4_go_11 : decode cX4_go 11 = .ok (.bipush (-2), 2) := by decide +kernel
theorem dX4_go_13 : decode cX4_go 13 = .ok (.ireturn, 1) := by decide +kernel
theorem dX4_go_14 : decode cX4_go 14 = .ok (.aload_n 0, 1) := by decide +kernel
theorem dX4_go_15 : decode cX4_go 15 = .ok (.iconst 1, 1) := by decide +kernel
theorem dX4_go_16 : decode cX4_go 16 = .ok (.iload_n 1, 1) := by decide +kernel
theorem dX4_go_17 : decode cX4_go 17 = .ok (.iconst 0, 1) := by decide +kernel
theorem dX4_go_18 : decode cX4_go 18 = .ok (.iconst 0, 1) := by decide +kernel
theorem dX4_go_19 : decode cX4_go 19 = .ok (.iconst 0, 1) := by decide +kernel
theorem dX4_go_20 : decode cX4_go 20 = .ok (.invokevirtual 43, 3) := by decide +kernel
theorem dX4_go_23 : decode cX4_go 23 = .ok (.ireturn, 1) := by decide +kernel
theorem dX4_turn_0 : decode cX4_turn 0 = .ok (.aload_n 0, 1) := by decide +kernel
theorem dX4_turn_1 : decode cX4_turn 1 = .ok (.getfield 19, 3) := by decide +kernel
theorem dX4_turn_4 : decode cX4_turn 4 = .ok (.iload_n 1, 1) := by decide +kernel
theorem dX4_turn_5 : decode cX4_turn 5 = .ok (.invokevirtual 47, 3) := by decide +kernel
theorem dX4_turn_8 : decode cX4_turn 8 = .ok (.ifCond .eq 13, 3) := by decide +kernel
theorem dX4_turn_11 : decode cX4_turn 11 = .ok (.iload_n 2, 1) := by decide +kernel
theorem dX4_turn_12 : decode cX4_turn 12 = .ok (.iload_n 3, 1) := by decide +kernel
theorem dX4_turn_13 : decode cX4_turn 13 = .ok (.iload 4, 2) := by decide +kernel
theorem dX4_turn_15 : decode cX4_turn 15 = .ok (.invokestatic 36, 3) := by decide +kernel
theorem dX4_turn_18 : decode cX4_turn 18 = .ok (.ifCond .ne 6, 3) := by decide +kernel
theorem dX4_turn_21 : decode cX4_turn 21 = .ok (.bipush (-2), 2) := by decide +kernel
theorem dX4_turn_23 : decode cX4_turn 23 = .ok (.ireturn, 1) := by decide +kernel
theorem dX4_turn_24 : decode cX4_turn 24 = .ok (.aload_n 0, 1) := by decide +kernel
theorem dX4_turn_25 : decode cX4_turn 25 = .ok (.iconst 2, 1) := by decide +kernel
theorem dX4_turn_26 : decode cX4_turn 26 = .ok (.iload_n 1, 1) := by decide +kernel
theorem dX4_turn_27 : decode cX4_turn 27 = .ok (.iload_n 2, 1) := by decide +kernel
theorem dX4_turn_28 : decode cX4_turn 28 = .ok (.iload_n 3, 1) := by decide +kernel
theorem dX4_turn_29 : decode cX4_turn 29 = .ok (.iload 4, 2) := by decide +kernel
theorem dX4_turn_31 : decode cX4_turn 31 = .ok (.invokevirtual 43, 3) := by decide +kernel
theorem dX4_turn_34 : decode cX4_turn 34 = .ok (.ireturn, 1) := by decide +kernel
theorem dX4_size_0 : decode cX4_size 0 = .ok (.iload_n 1, 1) := by decide +kernel
theorem dX4_size_1 : decode cX4_size 1 = .ok (.invokestatic 51, 3) := by decide +kernel
theorem dX4_size_4 : decode cX4_size 4 = .ok (.ifCond .eq 14, 3) := by decide +kernel
theorem dX4_size_7 : decode cX4_size 7 = .ok (.iload_n 2, 1) := by decide +kernel
theorem dX4_size_8 : decode cX4_size 8 = .ok (.iconst 0, 1) := by decide +kernel
theorem dX4_size_9 : decode cX4_size 9 = .ok (.sipush 400, 3) := by decide +kernel
theorem dX4_size_12 : decode cX4_size 12 = .ok (.invokestatic 54, 3) := by decide +kernel
