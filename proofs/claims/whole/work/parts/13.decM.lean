theorem dM_init_0 : decode bM_init 0 = .ok (.aload_n 0, 1) := by decide +kernel
theorem dM_init_1 : decode bM_init 1 = .ok (.invokespecial 1, 3) := by decide +kernel
theorem dM_init_4 : decode bM_init 4 = .ok (.aload_n 0, 1) := by decide +kernel
theorem dM_init_5 : decode bM_init 5 = .ok (.bipush 14, 2) := by decide +kernel
theorem dM_init_7 : decode bM_init 7 = .ok (.newarray .int, 2) := by decide +kernel
theorem dM_init_9 : decode bM_init 9 = .ok (.putfield 7, 3) := by decide +kernel
theorem dM_init_12 : decode bM_init 12 = .ok (.aload_n 0, 1) := by decide +kernel
theorem dM_init_13 : decode bM_init 13 = .ok (.bipush 14, 2) := by decide +kernel
theorem dM_init_15 : decode bM_init 15 = .ok (.newarray .int, 2) := by decide +kernel
theorem dM_init_17 : decode bM_init 17 = .ok (.putfield 13, 3) := by decide +kernel
theorem dM_init_20 : decode bM_init 20 = .ok (.aload_n 0, 1) := by decide +kernel
theorem dM_init_21 : decode bM_init 21 = .ok (.bipush 16, 2) := by decide +kernel
theorem dM_init_23 : decode bM_init 23 = .ok (.newarray .int, 2) := by decide +kernel
theorem dM_init_25 : decode bM_init 25 = .ok (.putfield 16, 3) := by decide +kernel
theorem dM_init_28 : decode bM_init 28 = .ok (.aload_n 0, 1) := by decide +kernel
theorem dM_init_29 : decode bM_init 29 = .ok (.bipush 16, 2) := by decide +kernel
theorem dM_init_31 : decode bM_init 31 = .ok (.newarray .int, 2) := by decide +kernel
theorem dM_init_33 : decode bM_init 33 = .ok (.putfield 19, 3) := by decide +kernel
theorem dM_init_36 : decode bM_init 36 = .ok (.aload_n 0, 1) := by decide +kernel
theorem dM_init_37 : decode bM_init 37 = .ok (.bipush 64, 2) := by decide +kernel
theorem dM_init_39 : decode bM_init 39 = .ok (.newarray .int, 2) := by decide +kernel
theorem dM_init_41 : decode bM_init 41 = .ok (.putfield 22, 3) := by decide +kernel
theorem dM_init_44 : decode bM_init 44 = .ok (.aload_n 0, 1) := by decide +kernel
theorem dM_init_45 : decode bM_init 45 = .ok (.bipush 16, 2) := by decide +kernel
theorem dM_init_47 : decode bM_init 47 = .ok (.newarray .int, 2) := by decide +kernel
theorem dM_init_49 : decode bM_init 49 = .ok (.putfield 25, 3) := by decide +kernel
theorem dM_init_52 : decode bM_init 52 = .ok (.aload_n 0, 1) := by decide +kernel
theorem dM_init_53 : decode bM_init 53 = .ok (.iconst 5, 1) := by decide +kernel
theorem dM_init_54 : decode bM_init 54 = .ok (.newarray .int, 2) := by decide +kernel
theorem dM_init_56 : decode bM_init 56 = .ok (.putfield 28, 3) := by decide +kernel
theorem dM_init_59 : decode bM_init 59 = .ok (.aload_n 0, 1) := by decide +kernel
theorem dM_init_60 : decode bM_init 60 = .ok (.iconst 5, 1) := by decide +kernel
theorem dM_init_61 : decode bM_init 61 = .ok (.newarray .int, 2) := by decide +kernel
theorem dM_init_63 : decode bM_init 63 = .ok (.putfield 31, 3) := by decide +kernel
theorem dM_init_66 : decode bM_init 66 = .ok (.aload_n 0, 1) := by decide +kernel
theorem dM_init_67 : decode bM_init 67 = .ok (.bipush 16, 2) := by decide +kernel
theorem dM_init_69 : decode bM_init 69 = .ok (.newarray .double, 2) := by decide +kernel
theorem dM_init_71 : decode bM_init 71 = .ok (.putfield 34, 3) := by decide +kernel
theorem dM_init_74 : decode bM_init 74 = .ok (.aload_n 0, 1) := by decide +kernel
theorem dM_init_75 : decode bM_init 75 = .ok (.sipush 3600, 3) := by decide +kernel
theorem dM_init_78 : decode bM_init 78 = .ok (.newarray .double, 2) := by decide +kernel
theorem dM_init_80 : decode bM_init 80 = .ok (.putfield 38, 3) := by decide +kernel
theorem dM_init_83 : decode bM_init 83 = .ok (.aload_n 0, 1) := by decide +kernel
theorem dM_init_84 : decode bM_init 84 = .ok (.sipush 256, 3) := by decide +kernel
theorem dM_init_87 : decode bM_init 87 = .ok (.newarray .boolean, 2) := by decide +kernel
theorem dM_init_89 : decode bM_init 89 = .ok (.putfield 41, 3) := by decide +kernel
theorem dM_init_92 : decode bM_init 92 = .ok (.aload_n 0, 1) := by decide +kernel
theorem dM_init_93 : decode bM_init 93 = .ok (.sipush 762, 3) := by decide +kernel
theorem dM_init_96 : decode bM_init 96 = .ok (.newarray .boolean, 2) := by decide +kernel
theorem dM_init_98 : decode bM_init 98 = .ok (.putfield 45, 3) := by decide +kernel
theorem dM_init_101 : decode bM_init 101 = .ok (.aload_n 0, 1) := by decide +kernel
theorem dM_init_102 : decode bM_init 102 = .ok (.sipush 1350, 3) := by decide +kernel
theorem dM_init_105 : decode bM_init 105 = .ok (.newarray .boolean, 2) := by decide +kernel
theorem dM_init_107 : decode bM_init 107 = .ok (.putfield 48, 3) := by decide +kernel
theorem dM_init_110 : decode bM_init 110 = .ok (.aload_n 0, 1) := by decide +kernel
theorem dM_init_111 : decode bM_init 111 = .ok (.sipush 3600, 3) := by decide +kernel
theorem dM_init_114 : decode bM_init 114 = .ok (.newarray .int, 2) := by decide +kernel
theorem dM_init_116 : decode bM_init 116 = .ok (.putfield 51, 3) := by decide +kernel
theorem dM_init_119 : decode bM_init 119 = .ok (.aload_n 0, 1) := by decide +kernel
theorem dM_init_120 : decode bM_init 120 = .ok (.sipush 400, 3) := by decide +kernel
theorem dM_init_123 : decode bM_init 123 = .ok (.newarray .int, 2) := by decide +kernel
theorem dM_init_125 : decode bM_init 125 = .ok (.putfield 54, 3) := by decide +kernel
theorem dM_init_128 : decode bM_init 128 = .ok (.aload_n 0, 1) := by decide +kernel
theorem dM_init_129 : decode bM_init 129 = .ok (.sipush 400, 3) := by decide +kernel
theorem dM_init_132 : decode bM_init 132 = .ok (.newarray .int, 2) := by decide +kernel
theorem dM_init_134 : decode bM_init 134 = .ok (.putfield 57, 3) := by decide +kernel
theorem dM_init_137 : decode bM_init 137 = .ok (.aload_n 0, 1) := by decide +kernel
theorem dM_init_138 : decode bM_init 138 = .ok (.sipush 400, 3) := by decide +kernel
theorem dM_init_141 : decode bM_init 141 = .ok (.newarray .int, 2) := by decide +kernel
theorem dM_init_143 : decode bM_init 143 = .ok (.putfield 60, 3) := by decide +kernel
theorem dM_init_146 : decode bM_init 146 = .ok (.aload_n 0, 1) := by decide +kernel
theorem dM_init_147 : decode bM_init 147 = .ok (.sipush 400, 3) := by decide +kernel
theorem dM_init_150 : decode bM_init 150 = .ok (.newarray .int, 2) := by decide +kernel
theorem dM_init_152 : decode bM_init 152 = .ok (.putfield 63, 3) := by decide +kernel
theorem dM_init_155 : decode bM_init 155 = .ok (.aload_n 0, 1) := by decide +kernel
theorem dM_init_156 : decode bM_init 156 = .ok (.sipush 400, 3) := by decide +kernel
theorem dM_init_159 : decode bM_init 159 = .ok (.newarray .int, 2) := by decide +kernel
theorem dM_init_161 : decode bM_init 161 = .ok (.putfield 66, 3) := by decide +kernel
theorem dM_init_164 : decode bM_init 164 = .ok (.aload_n 0, 1) := by decide +kernel
theorem dM_init_165 : decode bM_init 165 = .ok (.sipush 1600, 3) := by decide +kernel
theorem dM_init_168 : decode bM_init 168 = .ok (.newarray .int, 2) := by decide +kernel
theorem dM_init_170 : decode bM_init 170 = .ok (.putfield 69, 3) := by decide +kernel
theorem dM_init_173 : decode bM_init 173 = .ok (.aload_n 0, 1) := by decide +kernel
theorem dM_init_174 : decode bM_init 174 = .ok (.iconst (-1), 1) := by decide +kernel
theorem dM_init_175 : decode bM_init 175 = .ok (.putfield 72, 3) := by decide +kernel
theorem dM_init_178 : decode bM_init 178 = .ok (.return_, 1) := by decide +kernel
theorem dM_thrown_0 : decode bM_thrown 0 = .ok (.aload_n 0, 1) := by decide +kernel
theorem dM_thrown_1 : decode bM_thrown 1 = .ok (.getfield 76, 3) := by decide +kernel
theorem dM_thrown_4 : decode bM_thrown 4 = .ok (.ireturn, 1) := by decide +kernel
theorem dM_in_0 : decode bM_in 0 = .ok (.iload_n 0, 1) := by decide +kernel
theorem dM_in_1 : decode bM_in 1 = .ok (.iload_n 1, 1) := by decide +kernel
theorem dM_in_2 : decode bM_in 2 = .ok (.if_icmp .lt (12), 3) := by decide +kernel
theorem dM_in_5 : decode bM_in 5 = .ok (.iload_n 0, 1) := by decide +kernel
theorem dM_in_6 : decode bM_in 6 = .ok (.iload_n 2, 1) := by decide +kernel
theorem dM_in_7 : decode bM_in 7 = .ok (.if_icmp .gt (7), 3) := by decide +kernel
theorem dM_in_10 : decode bM_in 10 = .ok (.iconst 1, 1) := by decide +kernel
theorem dM_in_11 : decode bM_in 11 = .ok (.goto (4), 3) := by decide +kernel
theorem dM_in_14 : decode bM_in 14 = .ok (.iconst 0, 1) := by decide +kernel
theorem dM_in_15 : decode bM_in 15 = .ok (.ireturn, 1) := by decide +kernel
theorem dM_bad_0 : decode bM_bad 0 = .ok (.aload_n 0, 1) := by decide +kernel
theorem dM_bad_1 : decode bM_bad 1 = .ok (.iload_n 1, 1) := by decide +kernel
theorem dM_bad_2 : decode bM_bad 2 = .ok (.ifCond .eq (7), 3) := by decide +kernel
theorem dM_bad_5 : decode bM_bad 5 = .ok (.iconst 0, 1) := by decide +kernel
theorem dM_bad_6 : decode bM_bad 6 = .ok (.goto (4), 3) := by decide +kernel
theorem dM_bad_9 : decode bM_bad 9 = .ok (.iconst 1, 1) := by decide +kernel
theorem dM_bad_10 : decode bM_bad 10 = .ok (.putfield 76, 3) := by decide +kernel
theorem dM_bad_13 : decode bM_bad 13 = .ok (.iload_n 1, 1) := by decide +kernel
theorem dM_bad_14 : decode bM_bad 14 = .ok (.ifCond .ne (7), 3) := by decide +kernel
theorem dM_bad_17 : decode bM_bad 17 = .ok (.iconst 1, 1) := by decide +kernel
theorem dM_bad_18 : decode bM_bad 18 = .ok (.goto (4), 3) := by decide +kernel
theorem dM_bad_21 : decode bM_bad 21 = .ok (.iconst 0, 1) := by decide +kernel
theorem dM_bad_22 : decode bM_bad 22 = .ok (.ireturn, 1) := by decide +kernel
theorem dM_fail_0 : decode bM_fail 0 = .ok (.aload_n 0, 1) := by decide +kernel
theorem dM_fail_1 : decode bM_fail 1 = .ok (.iload_n 1, 1) := by decide +kernel
theorem dM_fail_2 : decode bM_fail 2 = .ok (.putfield 76, 3) := by decide +kernel
theorem dM_fail_5 : decode bM_fail 5 = .ok (.iconst 0, 1) := by decide +kernel
theorem dM_fail_6 : decode bM_fail 6 = .ok (.ireturn, 1) := by decide +kernel
theorem dM_type_0 : decode bM_type 0 = .ok (.iconst 0, 1) := by decide +kernel
theorem dM_type_1 : decode bM_type 1 = .ok (.istore_n 3, 1) := by decide +kernel
theorem dM_type_2 : decode bM_type 2 = .ok (.iconst 1, 1) := by decide +kernel
theorem dM_type_3 : decode bM_type 3 = .ok (.istore 4, 2) := by decide +kernel
theorem dM_type_5 : decode bM_type 5 = .ok (.bipush 56, 2) := by decide +kernel
theorem dM_type_7 : decode bM_type 7 = .ok (.istore 5, 2) := by decide +kernel
theorem dM_type_9 : decode bM_type 9 = .ok (.iload 5, 2) := by decide +kernel
theorem dM_type_11 : decode bM_type 11 = .ok (.ifCond .lt (48), 3) := by decide +kernel
theorem dM_type_14 : decode bM_type 14 = .ok (.lload_n 1, 1) := by decide +kernel
theorem dM_type_15 : decode bM_type 15 = .ok (.iload 5, 2) := by decide +kernel
theorem dM_type_17 : decode bM_type 17 = .ok (.lushr, 1) := by decide +kernel
theorem dM_type_18 : decode bM_type 18 = .ok (.l2i, 1) := by decide +kernel
theorem dM_type_19 : decode bM_type 19 = .ok (.sipush 255, 3) := by decide +kernel
theorem dM_type_22 : decode bM_type 22 = .ok (.iand, 1) := by decide +kernel
theorem dM_type_23 : decode bM_type 23 = .ok (.istore 6, 2) := by decide +kernel
theorem dM_type_25 : decode bM_type 25 = .ok (.iload 6, 2) := by decide +kernel
theorem dM_type_27 : decode bM_type 27 = .ok (.ifCond .eq (6), 3) := by decide +kernel
theorem dM_type_30 : decode bM_type 30 = .ok (.iinc 3 (1), 3) := by decide +kernel
theorem dM_type_33 : decode bM_type 33 = .ok (.iload 6, 2) := by decide +kernel
theorem dM_type_35 : decode bM_type 35 = .ok (.ifCond .eq (18), 3) := by decide +kernel
theorem dM_type_38 : decode bM_type 38 = .ok (.iload 6, 2) := by decide +kernel
theorem dM_type_40 : decode bM_type 40 = .ok (.bipush 33, 2) := by decide +kernel
theorem dM_type_42 : decode bM_type 42 = .ok (.bipush 126, 2) := by decide +kernel
theorem dM_type_44 : decode bM_type 44 = .ok (.invokestatic 79, 3) := by decide +kernel
theorem dM_type_47 : decode bM_type 47 = .ok (.ifCond .ne (6), 3) := by decide +kernel
theorem dM_type_50 : decode bM_type 50 = .ok (.iconst 0, 1) := by decide +kernel
theorem dM_type_51 : decode bM_type 51 = .ok (.istore 4, 2) := by decide +kernel
theorem dM_type_53 : decode bM_type 53 = .ok (.iinc 5 (-8), 3) := by decide +kernel
theorem dM_type_56 : decode bM_type 56 = .ok (.goto (-47), 3) := by decide +kernel
theorem dM_type_59 : decode bM_type 59 = .ok (.aload_n 0, 1) := by decide +kernel
theorem dM_type_60 : decode bM_type 60 = .ok (.iload 4, 2) := by decide +kernel
theorem dM_type_62 : decode bM_type 62 = .ok (.invokevirtual 83, 3) := by decide +kernel
theorem dM_type_65 : decode bM_type 65 = .ok (.ifCond .eq (5), 3) := by decide +kernel
theorem dM_type_68 : decode bM_type 68 = .ok (.iconst 0, 1) := by decide +kernel
theorem dM_type_69 : decode bM_type 69 = .ok (.ireturn, 1) := by decide +kernel
theorem dM_type_70 : decode bM_type 70 = .ok (.aload_n 0, 1) := by decide +kernel
theorem dM_type_71 : decode bM_type 71 = .ok (.getfield 87, 3) := by decide +kernel
theorem dM_type_74 : decode bM_type 74 = .ok (.iload_n 3, 1) := by decide +kernel
theorem dM_type_75 : decode bM_type 75 = .ok (.iadd, 1) := by decide +kernel
theorem dM_type_76 : decode bM_type 76 = .ok (.bipush 14, 2) := by decide +kernel
theorem dM_type_78 : decode bM_type 78 = .ok (.if_icmp .le (9), 3) := by decide +kernel
theorem dM_type_81 : decode bM_type 81 = .ok (.aload_n 0, 1) := by decide +kernel
theorem dM_type_82 : decode bM_type 82 = .ok (.iconst 2, 1) := by decide +kernel
theorem dM_type_83 : decode bM_type 83 = .ok (.invokevirtual 90, 3) := by decide +kernel
theorem dM_type_86 : decode bM_type 86 = .ok (.ireturn, 1) := by decide +kernel
theorem dM_type_87 : decode bM_type 87 = .ok (.bipush 56, 2) := by decide +kernel
theorem dM_type_89 : decode bM_type 89 = .ok (.istore 5, 2) := by decide +kernel
theorem dM_type_91 : decode bM_type 91 = .ok (.iload 5, 2) := by decide +kernel
theorem dM_type_93 : decode bM_type 93 = .ok (.ifCond .lt (49), 3) := by decide +kernel
theorem dM_type_96 : decode bM_type 96 = .ok (.lload_n 1, 1) := by decide +kernel
theorem dM_type_97 : decode bM_type 97 = .ok (.iload 5, 2) := by decide +kernel
theorem dM_type_99 : decode bM_type 99 = .ok (.lushr, 1) := by decide +kernel
theorem dM_type_100 : decode bM_type 100 = .ok (.l2i, 1) := by decide +kernel
theorem dM_type_101 : decode bM_type 101 = .ok (.sipush 255, 3) := by decide +kernel
theorem dM_type_104 : decode bM_type 104 = .ok (.iand, 1) := by decide +kernel
theorem dM_type_105 : decode bM_type 105 = .ok (.istore 6, 2) := by decide +kernel
theorem dM_type_107 : decode bM_type 107 = .ok (.iload 6, 2) := by decide +kernel
theorem dM_type_109 : decode bM_type 109 = .ok (.ifCond .ne (6), 3) := by decide +kernel
theorem dM_type_112 : decode bM_type 112 = .ok (.goto (24), 3) := by decide +kernel
theorem dM_type_115 : decode bM_type 115 = .ok (.aload_n 0, 1) := by decide +kernel
theorem dM_type_116 : decode bM_type 116 = .ok (.getfield 7, 3) := by decide +kernel
theorem dM_type_119 : decode bM_type 119 = .ok (.aload_n 0, 1) := by decide +kernel
theorem dM_type_120 : decode bM_type 120 = .ok (.getfield 87, 3) := by decide +kernel
theorem dM_type_123 : decode bM_type 123 = .ok (.iload 6, 2) := by decide +kernel
theorem dM_type_125 : decode bM_type 125 = .ok (.iastore, 1) := by decide +kernel
theorem dM_type_126 : decode bM_type 126 = .ok (.aload_n 0, 1) := by decide +kernel
theorem dM_type_127 : decode bM_type 127 = .ok (.dup, 1) := by decide +kernel
theorem dM_type_128 : decode bM_type 128 = .ok (.getfield 87, 3) := by decide +kernel
theorem dM_type_131 : decode bM_type 131 = .ok (.iconst 1, 1) := by decide +kernel
theorem dM_type_132 : decode bM_type 132 = .ok (.iadd, 1) := by decide +kernel
theorem dM_type_133 : decode bM_type 133 = .ok (.putfield 87, 3) := by decide +kernel
theorem dM_type_136 : decode bM_type 136 = .ok (.iinc 5 (-8), 3) := by decide +kernel
theorem dM_type_139 : decode bM_type 139 = .ok (.goto (-48), 3) := by decide +kernel
theorem dM_type_142 : decode bM_type 142 = .ok (.aload_n 0, 1) := by decide +kernel
theorem dM_type_143 : decode bM_type 143 = .ok (.getfield 87, 3) := by decide +kernel
theorem dM_type_146 : decode bM_type 146 = .ok (.ireturn, 1) := by decide +kernel
theorem dM_change_0 : decode bM_change 0 = .ok (.aload_n 0, 1) := by decide +kernel
theorem dM_change_1 : decode bM_change 1 = .ok (.iconst 0, 1) := by decide +kernel
theorem dM_change_2 : decode bM_change 2 = .ok (.putfield 94, 3) := by decide +kernel
theorem dM_change_5 : decode bM_change 5 = .ok (.aload_n 0, 1) := by decide +kernel
theorem dM_change_6 : decode bM_change 6 = .ok (.iconst 0, 1) := by decide +kernel
theorem dM_change_7 : decode bM_change 7 = .ok (.putfield 98, 3) := by decide +kernel
theorem dM_change_10 : decode bM_change 10 = .ok (.return_, 1) := by decide +kernel
theorem dM_wrong_0 : decode bM_wrong 0 = .ok (.aload_n 0, 1) := by decide +kernel
theorem dM_wrong_1 : decode bM_wrong 1 = .ok (.getfield 87, 3) := by decide +kernel
theorem dM_wrong_4 : decode bM_wrong 4 = .ok (.iconst 1, 1) := by decide +kernel
theorem dM_wrong_5 : decode bM_wrong 5 = .ok (.if_icmp .lt (19), 3) := by decide +kernel
theorem dM_wrong_8 : decode bM_wrong 8 = .ok (.aload_n 0, 1) := by decide +kernel
theorem dM_wrong_9 : decode bM_wrong 9 = .ok (.getfield 7, 3) := by decide +kernel
theorem dM_wrong_12 : decode bM_wrong 12 = .ok (.iconst 0, 1) := by decide +kernel
theorem dM_wrong_13 : decode bM_wrong 13 = .ok (.iaload, 1) := by decide +kernel
theorem dM_wrong_14 : decode bM_wrong 14 = .ok (.bipush 65, 2) := by decide +kernel
theorem dM_wrong_16 : decode bM_wrong 16 = .ok (.bipush 70, 2) := by decide +kernel
theorem dM_wrong_18 : decode bM_wrong 18 = .ok (.invokestatic 79, 3) := by decide +kernel
theorem dM_wrong_21 : decode bM_wrong 21 = .ok (.ifCond .ne (5), 3) := by decide +kernel
theorem dM_wrong_24 : decode bM_wrong 24 = .ok (.iconst 0, 1) := by decide +kernel
theorem dM_wrong_25 : decode bM_wrong 25 = .ok (.ireturn, 1) := by decide +kernel
theorem dM_wrong_26 : decode bM_wrong 26 = .ok (.aload_n 0, 1) := by decide +kernel
theorem dM_wrong_27 : decode bM_wrong 27 = .ok (.getfield 87, 3) := by decide +kernel
theorem dM_wrong_30 : decode bM_wrong 30 = .ok (.iconst 2, 1) := by decide +kernel
theorem dM_wrong_31 : decode bM_wrong 31 = .ok (.if_icmp .lt (14), 3) := by decide +kernel
theorem dM_wrong_34 : decode bM_wrong 34 = .ok (.aload_n 0, 1) := by decide +kernel
theorem dM_wrong_35 : decode bM_wrong 35 = .ok (.getfield 7, 3) := by decide +kernel
theorem dM_wrong_38 : decode bM_wrong 38 = .ok (.iconst 1, 1) := by decide +kernel
theorem dM_wrong_39 : decode bM_wrong 39 = .ok (.iaload, 1) := by decide +kernel
theorem dM_wrong_40 : decode bM_wrong 40 = .ok (.bipush 58, 2) := by decide +kernel
theorem dM_wrong_42 : decode bM_wrong 42 = .ok (.if_icmp .eq (5), 3) := by decide +kernel
theorem dM_wrong_45 : decode bM_wrong 45 = .ok (.iconst 1, 1) := by decide +kernel
theorem dM_wrong_46 : decode bM_wrong 46 = .ok (.ireturn, 1) := by decide +kernel
theorem dM_wrong_47 : decode bM_wrong 47 = .ok (.iconst 2, 1) := by decide +kernel
theorem dM_wrong_48 : decode bM_wrong 48 = .ok (.istore_n 1, 1) := by decide +kernel
theorem dM_wrong_49 : decode bM_wrong 49 = .ok (.iload_n 1, 1) := by decide +kernel
theorem dM_wrong_50 : decode bM_wrong 50 = .ok (.aload_n 0, 1) := by decide +kernel
theorem dM_wrong_51 : decode bM_wrong 51 = .ok (.getfield 87, 3) := by decide +kernel
theorem dM_wrong_54 : decode bM_wrong 54 = .ok (.if_icmp .ge (44), 3) := by decide +kernel
theorem dM_wrong_57 : decode bM_wrong 57 = .ok (.iload_n 1, 1) := by decide +kernel
theorem dM_wrong_58 : decode bM_wrong 58 = .ok (.bipush 6, 2) := by decide +kernel
theorem dM_wrong_60 : decode bM_wrong 60 = .ok (.if_icmp .eq (30), 3) := by decide +kernel
theorem dM_wrong_63 : decode bM_wrong 63 = .ok (.aload_n 0, 1) := by decide +kernel
theorem dM_wrong_64 : decode bM_wrong 64 = .ok (.getfield 7, 3) := by decide +kernel
theorem dM_wrong_67 : decode bM_wrong 67 = .ok (.iload_n 1, 1) := by decide +kernel
theorem dM_wrong_68 : decode bM_wrong 68 = .ok (.iaload, 1) := by decide +kernel
theorem dM_wrong_69 : decode bM_wrong 69 = .ok (.bipush 58, 2) := by decide +kernel
theorem dM_wrong_71 : decode bM_wrong 71 = .ok (.if_icmp .eq (19), 3) := by decide +kernel
theorem dM_wrong_74 : decode bM_wrong 74 = .ok (.aload_n 0, 1) := by decide +kernel
theorem dM_wrong_75 : decode bM_wrong 75 = .ok (.getfield 7, 3) := by decide +kernel
theorem dM_wrong_78 : decode bM_wrong 78 = .ok (.iload_n 1, 1) := by decide +kernel
theorem dM_wrong_79 : decode bM_wrong 79 = .ok (.iaload, 1) := by decide +kernel
theorem dM_wrong_80 : decode bM_wrong 80 = .ok (.bipush 71, 2) := by decide +kernel
theorem dM_wrong_82 : decode bM_wrong 82 = .ok (.bipush 90, 2) := by decide +kernel
theorem dM_wrong_84 : decode bM_wrong 84 = .ok (.invokestatic 79, 3) := by decide +kernel
theorem dM_wrong_87 : decode bM_wrong 87 = .ok (.ifCond .eq (5), 3) := by decide +kernel
theorem dM_wrong_90 : decode bM_wrong 90 = .ok (.iload_n 1, 1) := by decide +kernel
theorem dM_wrong_91 : decode bM_wrong 91 = .ok (.ireturn, 1) := by decide +kernel
theorem dM_wrong_92 : decode bM_wrong 92 = .ok (.iinc 1 (1), 3) := by decide +kernel
theorem dM_wrong_95 : decode bM_wrong 95 = .ok (.goto (-46), 3) := by decide +kernel
theorem dM_wrong_98 : decode bM_wrong 98 = .ok (.aload_n 0, 1) := by decide +kernel
theorem dM_wrong_99 : decode bM_wrong 99 = .ok (.getfield 87, 3) := by decide +kernel
theorem dM_wrong_102 : decode bM_wrong 102 = .ok (.iconst 2, 1) := by decide +kernel
theorem dM_wrong_103 : decode bM_wrong 103 = .ok (.if_icmp .ne (7), 3) := by decide +kernel
theorem dM_wrong_106 : decode bM_wrong 106 = .ok (.iconst 2, 1) := by decide +kernel
theorem dM_wrong_107 : decode bM_wrong 107 = .ok (.goto (4), 3) := by decide +kernel
theorem dM_wrong_110 : decode bM_wrong 110 = .ok (.iconst (-1), 1) := by decide +kernel
theorem dM_wrong_111 : decode bM_wrong 111 = .ok (.ireturn, 1) := by decide +kernel
theorem dM_isChain_0 : decode bM_isChain 0 = .ok (.aload_n 0, 1) := by decide +kernel
theorem dM_isChain_1 : decode bM_isChain 1 = .ok (.getfield 19, 3) := by decide +kernel
theorem dM_isChain_4 : decode bM_isChain 4 = .ok (.iload_n 1, 1) := by decide +kernel
theorem dM_isChain_5 : decode bM_isChain 5 = .ok (.iaload, 1) := by decide +kernel
theorem dM_isChain_6 : decode bM_isChain 6 = .ok (.iconst 1, 1) := by decide +kernel
theorem dM_isChain_7 : decode bM_isChain 7 = .ok (.if_icmp .ne (25), 3) := by decide +kernel
theorem dM_isChain_10 : decode bM_isChain 10 = .ok (.aload_n 0, 1) := by decide +kernel
theorem dM_isChain_11 : decode bM_isChain 11 = .ok (.getfield 22, 3) := by decide +kernel
theorem dM_isChain_14 : decode bM_isChain 14 = .ok (.iload_n 1, 1) := by decide +kernel
theorem dM_isChain_15 : decode bM_isChain 15 = .ok (.iconst 4, 1) := by decide +kernel
theorem dM_isChain_16 : decode bM_isChain 16 = .ok (.imul, 1) := by decide +kernel
theorem dM_isChain_17 : decode bM_isChain 17 = .ok (.iaload, 1) := by decide +kernel
theorem dM_isChain_18 : decode bM_isChain 18 = .ok (.bipush 65, 2) := by decide +kernel
theorem dM_isChain_20 : decode bM_isChain 20 = .ok (.bipush 70, 2) := by decide +kernel
theorem dM_isChain_22 : decode bM_isChain 22 = .ok (.invokestatic 79, 3) := by decide +kernel
theorem dM_isChain_25 : decode bM_isChain 25 = .ok (.ifCond .eq (7), 3) := by decide +kernel
theorem dM_isChain_28 : decode bM_isChain 28 = .ok (.iconst 1, 1) := by decide +kernel
theorem dM_isChain_29 : decode bM_isChain 29 = .ok (.goto (4), 3) := by decide +kernel
theorem dM_isChain_32 : decode bM_isChain 32 = .ok (.iconst 0, 1) := by decide +kernel
theorem dM_isChain_33 : decode bM_isChain 33 = .ok (.ireturn, 1) := by decide +kernel
theorem dM_leads_0 : decode bM_leads 0 = .ok (.iconst 1, 1) := by decide +kernel
theorem dM_leads_1 : decode bM_leads 1 = .ok (.iload_n 1, 1) := by decide +kernel
theorem dM_leads_2 : decode bM_leads 2 = .ok (.ishl, 1) := by decide +kernel
theorem dM_leads_3 : decode bM_leads 3 = .ok (.istore_n 3, 1) := by decide +kernel
theorem dM_leads_4 : decode bM_leads 4 = .ok (.iconst 0, 1) := by decide +kernel
theorem dM_leads_5 : decode bM_leads 5 = .ok (.istore 4, 2) := by decide +kernel
theorem dM_leads_7 : decode bM_leads 7 = .ok (.iload 4, 2) := by decide +kernel
theorem dM_leads_9 : decode bM_leads 9 = .ok (.bipush 6, 2) := by decide +kernel
theorem dM_leads_11 : decode bM_leads 11 = .ok (.if_icmp .ge (67), 3) := by decide +kernel
theorem dM_leads_14 : decode bM_leads 14 = .ok (.iconst 0, 1) := by decide +kernel
theorem dM_leads_15 : decode bM_leads 15 = .ok (.istore 5, 2) := by decide +kernel
theorem dM_leads_17 : decode bM_leads 17 = .ok (.iload 5, 2) := by decide +kernel
theorem dM_leads_19 : decode bM_leads 19 = .ok (.aload_n 0, 1) := by decide +kernel
theorem dM_leads_20 : decode bM_leads 20 = .ok (.getfield 101, 3) := by decide +kernel
theorem dM_leads_23 : decode bM_leads 23 = .ok (.if_icmp .ge (49), 3) := by decide +kernel
theorem dM_leads_26 : decode bM_leads 26 = .ok (.aload_n 0, 1) := by decide +kernel
theorem dM_leads_27 : decode bM_leads 27 = .ok (.iload 5, 2) := by decide +kernel
theorem dM_leads_29 : decode bM_leads 29 = .ok (.invokevirtual 104, 3) := by decide +kernel
theorem dM_leads_32 : decode bM_leads 32 = .ok (.ifCond .eq (34), 3) := by decide +kernel
theorem dM_leads_35 : decode bM_leads 35 = .ok (.iload_n 3, 1) := by decide +kernel
theorem dM_leads_36 : decode bM_leads 36 = .ok (.aload_n 0, 1) := by decide +kernel
theorem dM_leads_37 : decode bM_leads 37 = .ok (.getfield 16, 3) := by decide +kernel
theorem dM_leads_40 : decode bM_leads 40 = .ok (.iload 5, 2) := by decide +kernel
theorem dM_leads_42 : decode bM_leads 42 = .ok (.iaload, 1) := by decide +kernel
theorem dM_leads_43 : decode bM_leads 43 = .ok (.ishr, 1) := by decide +kernel
theorem dM_leads_44 : decode bM_leads 44 = .ok (.iconst 1, 1) := by decide +kernel
theorem dM_leads_45 : decode bM_leads 45 = .ok (.iand, 1) := by decide +kernel
theorem dM_leads_46 : decode bM_leads 46 = .ok (.ifCond .eq (20), 3) := by decide +kernel
theorem dM_leads_49 : decode bM_leads 49 = .ok (.iload_n 3, 1) := by decide +kernel
theorem dM_leads_50 : decode bM_leads 50 = .ok (.iconst 1, 1) := by decide +kernel
theorem dM_leads_51 : decode bM_leads 51 = .ok (.aload_n 0, 1) := by decide +kernel
theorem dM_leads_52 : decode bM_leads 52 = .ok (.getfield 22, 3) := by decide +kernel
theorem dM_leads_55 : decode bM_leads 55 = .ok (.iload 5, 2) := by decide +kernel
theorem dM_leads_57 : decode bM_leads 57 = .ok (.iconst 4, 1) := by decide +kernel
theorem dM_leads_58 : decode bM_leads 58 = .ok (.imul, 1) := by decide +kernel
theorem dM_leads_59 : decode bM_leads 59 = .ok (.iaload, 1) := by decide +kernel
theorem dM_leads_60 : decode bM_leads 60 = .ok (.bipush 65, 2) := by decide +kernel
theorem dM_leads_62 : decode bM_leads 62 = .ok (.isub, 1) := by decide +kernel
theorem dM_leads_63 : decode bM_leads 63 = .ok (.ishl, 1) := by decide +kernel
theorem dM_leads_64 : decode bM_leads 64 = .ok (.ior, 1) := by decide +kernel
theorem dM_leads_65 : decode bM_leads 65 = .ok (.istore_n 3, 1) := by decide +kernel
theorem dM_leads_66 : decode bM_leads 66 = .ok (.iinc 5 (1), 3) := by decide +kernel
theorem dM_leads_69 : decode bM_leads 69 = .ok (.goto (-52), 3) := by decide +kernel
theorem dM_leads_72 : decode bM_leads 72 = .ok (.iinc 4 (1), 3) := by decide +kernel
theorem dM_leads_75 : decode bM_leads 75 = .ok (.goto (-68), 3) := by decide +kernel
theorem dM_leads_78 : decode bM_leads 78 = .ok (.iload_n 3, 1) := by decide +kernel
theorem dM_leads_79 : decode bM_leads 79 = .ok (.iload_n 2, 1) := by decide +kernel
theorem dM_leads_80 : decode bM_leads 80 = .ok (.ishr, 1) := by decide +kernel
theorem dM_leads_81 : decode bM_leads 81 = .ok (.iconst 1, 1) := by decide +kernel
theorem dM_leads_82 : decode bM_leads 82 = .ok (.iand, 1) := by decide +kernel
theorem dM_leads_83 : decode bM_leads 83 = .ok (.ifCond .eq (7), 3) := by decide +kernel
theorem dM_leads_86 : decode bM_leads 86 = .ok (.iconst 1, 1) := by decide +kernel
theorem dM_leads_87 : decode bM_leads 87 = .ok (.goto (4), 3) := by decide +kernel
theorem dM_leads_90 : decode bM_leads 90 = .ok (.iconst 0, 1) := by decide +kernel
theorem dM_leads_91 : decode bM_leads 91 = .ok (.ireturn, 1) := by decide +kernel
theorem dM_rule_0 : decode bM_rule 0 = .ok (.aload_n 0, 1) := by decide +kernel
theorem dM_rule_1 : decode bM_rule 1 = .ok (.dload_n 1, 1) := by decide +kernel
theorem dM_rule_2 : decode bM_rule 2 = .ok (.ldc2_w 108, 3) := by decide +kernel
theorem dM_rule_5 : decode bM_rule 5 = .ok (.dcmp .l, 1) := by decide +kernel
theorem dM_rule_6 : decode bM_rule 6 = .ok (.ifCond .lt (15), 3) := by decide +kernel
theorem dM_rule_9 : decode bM_rule 9 = .ok (.dload_n 1, 1) := by decide +kernel
theorem dM_rule_10 : decode bM_rule 10 = .ok (.ldc2_w 110, 3) := by decide +kernel
theorem dM_rule_13 : decode bM_rule 13 = .ok (.dcmp .g, 1) := by decide +kernel
theorem dM_rule_14 : decode bM_rule 14 = .ok (.ifCond .gt (7), 3) := by decide +kernel
theorem dM_rule_17 : decode bM_rule 17 = .ok (.iconst 1, 1) := by decide +kernel
theorem dM_rule_18 : decode bM_rule 18 = .ok (.goto (4), 3) := by decide +kernel
theorem dM_rule_21 : decode bM_rule 21 = .ok (.iconst 0, 1) := by decide +kernel
theorem dM_rule_22 : decode bM_rule 22 = .ok (.invokevirtual 83, 3) := by decide +kernel
theorem dM_rule_25 : decode bM_rule 25 = .ok (.ifCond .eq (5), 3) := by decide +kernel
theorem dM_rule_28 : decode bM_rule 28 = .ok (.iconst 0, 1) := by decide +kernel
theorem dM_rule_29 : decode bM_rule 29 = .ok (.ireturn, 1) := by decide +kernel
theorem dM_rule_30 : decode bM_rule 30 = .ok (.aload_n 0, 1) := by decide +kernel
theorem dM_rule_31 : decode bM_rule 31 = .ok (.getfield 87, 3) := by decide +kernel
theorem dM_rule_34 : decode bM_rule 34 = .ok (.istore_n 3, 1) := by decide +kernel
theorem dM_rule_35 : decode bM_rule 35 = .ok (.aload_n 0, 1) := by decide +kernel
theorem dM_rule_36 : decode bM_rule 36 = .ok (.iconst 0, 1) := by decide +kernel
theorem dM_rule_37 : decode bM_rule 37 = .ok (.putfield 87, 3) := by decide +kernel
theorem dM_rule_40 : decode bM_rule 40 = .ok (.aload_n 0, 1) := by decide +kernel
theorem dM_rule_41 : decode bM_rule 41 = .ok (.getfield 101, 3) := by decide +kernel
theorem dM_rule_44 : decode bM_rule 44 = .ok (.bipush 16, 2) := by decide +kernel
theorem dM_rule_46 : decode bM_rule 46 = .ok (.if_icmp .ne (9), 3) := by decide +kernel
theorem dM_rule_49 : decode bM_rule 49 = .ok (.aload_n 0, 1) := by decide +kernel
theorem dM_rule_50 : decode bM_rule 50 = .ok (.iconst 2, 1) := by decide +kernel
theorem dM_rule_51 : decode bM_rule 51 = .ok (.invokevirtual 90, 3) := by decide +kernel
theorem dM_rule_54 : decode bM_rule 54 = .ok (.ireturn, 1) := by decide +kernel
theorem dM_rule_55 : decode bM_rule 55 = .ok (.aload_n 0, 1) := by decide +kernel
theorem dM_rule_56 : decode bM_rule 56 = .ok (.iload_n 3, 1) := by decide +kernel
theorem dM_rule_57 : decode bM_rule 57 = .ok (.putfield 87, 3) := by decide +kernel
theorem dM_rule_60 : decode bM_rule 60 = .ok (.aload_n 0, 1) := by decide +kernel
theorem dM_rule_61 : decode bM_rule 61 = .ok (.invokevirtual 112, 3) := by decide +kernel
theorem dM_rule_64 : decode bM_rule 64 = .ok (.istore 4, 2) := by decide +kernel
theorem dM_rule_66 : decode bM_rule 66 = .ok (.aload_n 0, 1) := by decide +kernel
theorem dM_rule_67 : decode bM_rule 67 = .ok (.iconst 0, 1) := by decide +kernel
theorem dM_rule_68 : decode bM_rule 68 = .ok (.putfield 87, 3) := by decide +kernel
theorem dM_rule_71 : decode bM_rule 71 = .ok (.iload 4, 2) := by decide +kernel
theorem dM_rule_73 : decode bM_rule 73 = .ok (.ifCond .lt (9), 3) := by decide +kernel
theorem dM_rule_76 : decode bM_rule 76 = .ok (.aload_n 0, 1) := by decide +kernel
theorem dM_rule_77 : decode bM_rule 77 = .ok (.iload 4, 2) := by decide +kernel
theorem dM_rule_79 : decode bM_rule 79 = .ok (.putfield 72, 3) := by decide +kernel
theorem dM_rule_82 : decode bM_rule 82 = .ok (.aload_n 0, 1) := by decide +kernel
theorem dM_rule_83 : decode bM_rule 83 = .ok (.iload 4, 2) := by decide +kernel
theorem dM_rule_85 : decode bM_rule 85 = .ok (.ifCond .ge (7), 3) := by decide +kernel
theorem dM_rule_88 : decode bM_rule 88 = .ok (.iconst 1, 1) := by decide +kernel
theorem dM_rule_89 : decode bM_rule 89 = .ok (.goto (4), 3) := by decide +kernel
theorem dM_rule_92 : decode bM_rule 92 = .ok (.iconst 0, 1) := by decide +kernel
theorem dM_rule_93 : decode bM_rule 93 = .ok (.invokevirtual 83, 3) := by decide +kernel
theorem dM_rule_96 : decode bM_rule 96 = .ok (.ifCond .eq (5), 3) := by decide +kernel
theorem dM_rule_99 : decode bM_rule 99 = .ok (.iconst 0, 1) := by decide +kernel
theorem dM_rule_100 : decode bM_rule 100 = .ok (.ireturn, 1) := by decide +kernel
theorem dM_rule_101 : decode bM_rule 101 = .ok (.iload_n 3, 1) := by decide +kernel
theorem dM_rule_102 : decode bM_rule 102 = .ok (.iconst 3, 1) := by decide +kernel
theorem dM_rule_103 : decode bM_rule 103 = .ok (.if_icmp .ne (50), 3) := by decide +kernel
theorem dM_rule_106 : decode bM_rule 106 = .ok (.aload_n 0, 1) := by decide +kernel
theorem dM_rule_107 : decode bM_rule 107 = .ok (.getfield 7, 3) := by decide +kernel
theorem dM_rule_110 : decode bM_rule 110 = .ok (.iconst 2, 1) := by decide +kernel
theorem dM_rule_111 : decode bM_rule 111 = .ok (.iaload, 1) := by decide +kernel
theorem dM_rule_112 : decode bM_rule 112 = .ok (.bipush 65, 2) := by decide +kernel
theorem dM_rule_114 : decode bM_rule 114 = .ok (.bipush 70, 2) := by decide +kernel
theorem dM_rule_116 : decode bM_rule 116 = .ok (.invokestatic 79, 3) := by decide +kernel
theorem dM_rule_119 : decode bM_rule 119 = .ok (.ifCond .eq (34), 3) := by decide +kernel
theorem dM_rule_122 : decode bM_rule 122 = .ok (.aload_n 0, 1) := by decide +kernel
theorem dM_rule_123 : decode bM_rule 123 = .ok (.aload_n 0, 1) := by decide +kernel
theorem dM_rule_124 : decode bM_rule 124 = .ok (.getfield 7, 3) := by decide +kernel
theorem dM_rule_127 : decode bM_rule 127 = .ok (.iconst 2, 1) := by decide +kernel
theorem dM_rule_128 : decode bM_rule 128 = .ok (.iaload, 1) := by decide +kernel
theorem dM_rule_129 : decode bM_rule 129 = .ok (.bipush 65, 2) := by decide +kernel
theorem dM_rule_131 : decode bM_rule 131 = .ok (.isub, 1) := by decide +kernel
theorem dM_rule_132 : decode bM_rule 132 = .ok (.aload_n 0, 1) := by decide +kernel
theorem dM_rule_133 : decode bM_rule 133 = .ok (.getfield 7, 3) := by decide +kernel
theorem dM_rule_136 : decode bM_rule 136 = .ok (.iconst 0, 1) := by decide +kernel
theorem dM_rule_137 : decode bM_rule 137 = .ok (.iaload, 1) := by decide +kernel
theorem dM_rule_138 : decode bM_rule 138 = .ok (.bipush 65, 2) := by decide +kernel
theorem dM_rule_140 : decode bM_rule 140 = .ok (.isub, 1) := by decide +kernel
theorem dM_rule_141 : decode bM_rule 141 = .ok (.invokevirtual 116, 3) := by decide +kernel
theorem dM_rule_144 : decode bM_rule 144 = .ok (.ifCond .eq (9), 3) := by decide +kernel
theorem dM_rule_147 : decode bM_rule 147 = .ok (.aload_n 0, 1) := by decide +kernel
theorem dM_rule_148 : decode bM_rule 148 = .ok (.iconst 3, 1) := by decide +kernel
theorem dM_rule_149 : decode bM_rule 149 = .ok (.invokevirtual 90, 3) := by decide +kernel
theorem dM_rule_152 : decode bM_rule 152 = .ok (.ireturn, 1) := by decide +kernel
theorem dM_rule_153 : decode bM_rule 153 = .ok (.aload_n 0, 1) := by decide +kernel
theorem dM_rule_154 : decode bM_rule 154 = .ok (.getfield 16, 3) := by decide +kernel
theorem dM_rule_157 : decode bM_rule 157 = .ok (.aload_n 0, 1) := by decide +kernel
theorem dM_rule_158 : decode bM_rule 158 = .ok (.getfield 101, 3) := by decide +kernel
theorem dM_rule_161 : decode bM_rule 161 = .ok (.aload_n 0, 1) := by decide +kernel
theorem dM_rule_162 : decode bM_rule 162 = .ok (.getfield 7, 3) := by decide +kernel
theorem dM_rule_165 : decode bM_rule 165 = .ok (.iconst 0, 1) := by decide +kernel
theorem dM_rule_166 : decode bM_rule 166 = .ok (.iaload, 1) := by decide +kernel
theorem dM_rule_167 : decode bM_rule 167 = .ok (.bipush 65, 2) := by decide +kernel
theorem dM_rule_169 : decode bM_rule 169 = .ok (.isub, 1) := by decide +kernel
theorem dM_rule_170 : decode bM_rule 170 = .ok (.iastore, 1) := by decide +kernel
theorem dM_rule_171 : decode bM_rule 171 = .ok (.aload_n 0, 1) := by decide +kernel
theorem dM_rule_172 : decode bM_rule 172 = .ok (.getfield 19, 3) := by decide +kernel
theorem dM_rule_175 : decode bM_rule 175 = .ok (.aload_n 0, 1) := by decide +kernel
theorem dM_rule_176 : decode bM_rule 176 = .ok (.getfield 101, 3) := by decide +kernel
theorem dM_rule_179 : decode bM_rule 179 = .ok (.iload_n 3, 1) := by decide +kernel
theorem dM_rule_180 : decode bM_rule 180 = .ok (.iconst 2, 1) := by decide +kernel
theorem dM_rule_181 : decode bM_rule 181 = .ok (.isub, 1) := by decide +kernel
theorem dM_rule_182 : decode bM_rule 182 = .ok (.iastore, 1) := by decide +kernel
theorem dM_rule_183 : decode bM_rule 183 = .ok (.iconst 0, 1) := by decide +kernel
theorem dM_rule_184 : decode bM_rule 184 = .ok (.istore 5, 2) := by decide +kernel
theorem dM_rule_186 : decode bM_rule 186 = .ok (.iload 5, 2) := by decide +kernel
theorem dM_rule_188 : decode bM_rule 188 = .ok (.iload_n 3, 1) := by decide +kernel
theorem dM_rule_189 : decode bM_rule 189 = .ok (.iconst 2, 1) := by decide +kernel
theorem dM_rule_190 : decode bM_rule 190 = .ok (.isub, 1) := by decide +kernel
theorem dM_rule_191 : decode bM_rule 191 = .ok (.if_icmp .ge (32), 3) := by decide +kernel
theorem dM_rule_194 : decode bM_rule 194 = .ok (.aload_n 0, 1) := by decide +kernel
theorem dM_rule_195 : decode bM_rule 195 = .ok (.getfield 22, 3) := by decide +kernel
theorem dM_rule_198 : decode bM_rule 198 = .ok (.aload_n 0, 1) := by decide +kernel
theorem dM_rule_199 : decode bM_rule 199 = .ok (.getfield 101, 3) := by decide +kernel
theorem dM_rule_202 : decode bM_rule 202 = .ok (.iconst 4, 1) := by decide +kernel
theorem dM_rule_203 : decode bM_rule 203 = .ok (.imul, 1) := by decide +kernel
theorem dM_rule_204 : decode bM_rule 204 = .ok (.iload 5, 2) := by decide +kernel
theorem dM_rule_206 : decode bM_rule 206 = .ok (.iadd, 1) := by decide +kernel
theorem dM_rule_207 : decode bM_rule 207 = .ok (.aload_n 0, 1) := by decide +kernel
theorem dM_rule_208 : decode bM_rule 208 = .ok (.getfield 7, 3) := by decide +kernel
theorem dM_rule_211 : decode bM_rule 211 = .ok (.iload 5, 2) := by decide +kernel
theorem dM_rule_213 : decode bM_rule 213 = .ok (.iconst 2, 1) := by decide +kernel
theorem dM_rule_214 : decode bM_rule 214 = .ok (.iadd, 1) := by decide +kernel
theorem dM_rule_215 : decode bM_rule 215 = .ok (.iaload, 1) := by decide +kernel
theorem dM_rule_216 : decode bM_rule 216 = .ok (.iastore, 1) := by decide +kernel
theorem dM_rule_217 : decode bM_rule 217 = .ok (.iinc 5 (1), 3) := by decide +kernel
theorem dM_rule_220 : decode bM_rule 220 = .ok (.goto (-34), 3) := by decide +kernel
theorem dM_rule_223 : decode bM_rule 223 = .ok (.aload_n 0, 1) := by decide +kernel
theorem dM_rule_224 : decode bM_rule 224 = .ok (.getfield 34, 3) := by decide +kernel
theorem dM_rule_227 : decode bM_rule 227 = .ok (.aload_n 0, 1) := by decide +kernel
theorem dM_rule_228 : decode bM_rule 228 = .ok (.getfield 101, 3) := by decide +kernel
theorem dM_rule_231 : decode bM_rule 231 = .ok (.dload_n 1, 1) := by decide +kernel
theorem dM_rule_232 : decode bM_rule 232 = .ok (.dastore, 1) := by decide +kernel
theorem dM_rule_233 : decode bM_rule 233 = .ok (.aload_n 0, 1) := by decide +kernel
theorem dM_rule_234 : decode bM_rule 234 = .ok (.getfield 25, 3) := by decide +kernel
theorem dM_rule_237 : decode bM_rule 237 = .ok (.aload_n 0, 1) := by decide +kernel
theorem dM_rule_238 : decode bM_rule 238 = .ok (.getfield 101, 3) := by decide +kernel
theorem dM_rule_241 : decode bM_rule 241 = .ok (.iconst 0, 1) := by decide +kernel
theorem dM_rule_242 : decode bM_rule 242 = .ok (.iastore, 1) := by decide +kernel
theorem dM_rule_243 : decode bM_rule 243 = .ok (.aload_n 0, 1) := by decide +kernel
theorem dM_rule_244 : decode bM_rule 244 = .ok (.dup, 1) := by decide +kernel
theorem dM_rule_245 : decode bM_rule 245 = .ok (.getfield 101, 3) := by decide +kernel
theorem dM_rule_248 : decode bM_rule 248 = .ok (.iconst 1, 1) := by decide +kernel
theorem dM_rule_249 : decode bM_rule 249 = .ok (.iadd, 1) := by decide +kernel
theorem dM_rule_250 : decode bM_rule 250 = .ok (.putfield 101, 3) := by decide +kernel
theorem dM_rule_253 : decode bM_rule 253 = .ok (.aload_n 0, 1) := by decide +kernel
theorem dM_rule_254 : decode bM_rule 254 = .ok (.invokevirtual 120, 3) := by decide +kernel
theorem dM_rule_257 : decode bM_rule 257 = .ok (.aload_n 0, 1) := by decide +kernel
theorem dM_rule_258 : decode bM_rule 258 = .ok (.getfield 101, 3) := by decide +kernel
theorem dM_rule_261 : decode bM_rule 261 = .ok (.iconst 1, 1) := by decide +kernel
theorem dM_rule_262 : decode bM_rule 262 = .ok (.isub, 1) := by decide +kernel
theorem dM_rule_263 : decode bM_rule 263 = .ok (.ireturn, 1) := by decide +kernel
theorem dM_isRule_0 : decode bM_isRule 0 = .ok (.iload_n 1, 1) := by decide +kernel
theorem dM_isRule_1 : decode bM_isRule 1 = .ok (.iconst 0, 1) := by decide +kernel
theorem dM_isRule_2 : decode bM_isRule 2 = .ok (.aload_n 0, 1) := by decide +kernel
theorem dM_isRule_3 : decode bM_isRule 3 = .ok (.getfield 101, 3) := by decide +kernel
theorem dM_isRule_6 : decode bM_isRule 6 = .ok (.iconst 1, 1) := by decide +kernel
theorem dM_isRule_7 : decode bM_isRule 7 = .ok (.isub, 1) := by decide +kernel
theorem dM_isRule_8 : decode bM_isRule 8 = .ok (.invokestatic 79, 3) := by decide +kernel
theorem dM_isRule_11 : decode bM_isRule 11 = .ok (.ireturn, 1) := by decide +kernel
theorem dM_mark_0 : decode bM_mark 0 = .ok (.aload_n 0, 1) := by decide +kernel
theorem dM_mark_1 : decode bM_mark 1 = .ok (.aload_n 0, 1) := by decide +kernel
theorem dM_mark_2 : decode bM_mark 2 = .ok (.iload_n 1, 1) := by decide +kernel
theorem dM_mark_3 : decode bM_mark 3 = .ok (.invokevirtual 123, 3) := by decide +kernel
theorem dM_mark_6 : decode bM_mark 6 = .ok (.ifCond .eq (16), 3) := by decide +kernel
theorem dM_mark_9 : decode bM_mark 9 = .ok (.iload_n 2, 1) := by decide +kernel
theorem dM_mark_10 : decode bM_mark 10 = .ok (.iconst 0, 1) := by decide +kernel
theorem dM_mark_11 : decode bM_mark 11 = .ok (.iconst 3, 1) := by decide +kernel
theorem dM_mark_12 : decode bM_mark 12 = .ok (.invokestatic 79, 3) := by decide +kernel
theorem dM_mark_15 : decode bM_mark 15 = .ok (.ifCond .eq (7), 3) := by decide +kernel
theorem dM_mark_18 : decode bM_mark 18 = .ok (.iconst 1, 1) := by decide +kernel
theorem dM_mark_19 : decode bM_mark 19 = .ok (.goto (4), 3) := by decide +kernel
theorem dM_mark_22 : decode bM_mark 22 = .ok (.iconst 0, 1) := by decide +kernel
theorem dM_mark_23 : decode bM_mark 23 = .ok (.invokevirtual 83, 3) := by decide +kernel
theorem dM_mark_26 : decode bM_mark 26 = .ok (.ifCond .eq (4), 3) := by decide +kernel
theorem dM_mark_29 : decode bM_mark 29 = .ok (.return_, 1) := by decide +kernel
theorem dM_mark_30 : decode bM_mark 30 = .ok (.aload_n 0, 1) := by decide +kernel
theorem dM_mark_31 : decode bM_mark 31 = .ok (.getfield 25, 3) := by decide +kernel
theorem dM_mark_34 : decode bM_mark 34 = .ok (.iload_n 1, 1) := by decide +kernel
theorem dM_mark_35 : decode bM_mark 35 = .ok (.iload_n 2, 1) := by decide +kernel
theorem dM_mark_36 : decode bM_mark 36 = .ok (.iastore, 1) := by decide +kernel
theorem dM_mark_37 : decode bM_mark 37 = .ok (.aload_n 0, 1) := by decide +kernel
theorem dM_mark_38 : decode bM_mark 38 = .ok (.invokevirtual 120, 3) := by decide +kernel
theorem dM_mark_41 : decode bM_mark 41 = .ok (.return_, 1) := by decide +kernel
theorem dM_bar_0 : decode bM_bar 0 = .ok (.aload_n 0, 1) := by decide +kernel
theorem dM_bar_1 : decode bM_bar 1 = .ok (.aload_n 0, 1) := by decide +kernel
theorem dM_bar_2 : decode bM_bar 2 = .ok (.iload_n 1, 1) := by decide +kernel
theorem dM_bar_3 : decode bM_bar 3 = .ok (.invokevirtual 123, 3) := by decide +kernel
theorem dM_bar_6 : decode bM_bar 6 = .ok (.ifCond .eq (15), 3) := by decide +kernel
theorem dM_bar_9 : decode bM_bar 9 = .ok (.aload_n 0, 1) := by decide +kernel
theorem dM_bar_10 : decode bM_bar 10 = .ok (.iload_n 2, 1) := by decide +kernel
theorem dM_bar_11 : decode bM_bar 11 = .ok (.invokevirtual 123, 3) := by decide +kernel
theorem dM_bar_14 : decode bM_bar 14 = .ok (.ifCond .eq (7), 3) := by decide +kernel
theorem dM_bar_17 : decode bM_bar 17 = .ok (.iconst 1, 1) := by decide +kernel
theorem dM_bar_18 : decode bM_bar 18 = .ok (.goto (4), 3) := by decide +kernel
theorem dM_bar_21 : decode bM_bar 21 = .ok (.iconst 0, 1) := by decide +kernel
theorem dM_bar_22 : decode bM_bar 22 = .ok (.invokevirtual 83, 3) := by decide +kernel
theorem dM_bar_25 : decode bM_bar 25 = .ok (.ifCond .eq (4), 3) := by decide +kernel
theorem dM_bar_28 : decode bM_bar 28 = .ok (.return_, 1) := by decide +kernel
theorem dM_bar_29 : decode bM_bar 29 = .ok (.aload_n 0, 1) := by decide +kernel
theorem dM_bar_30 : decode bM_bar 30 = .ok (.getfield 41, 3) := by decide +kernel
theorem dM_bar_33 : decode bM_bar 33 = .ok (.iload_n 1, 1) := by decide +kernel
theorem dM_bar_34 : decode bM_bar 34 = .ok (.bipush 16, 2) := by decide +kernel
theorem dM_bar_36 : decode bM_bar 36 = .ok (.imul, 1) := by decide +kernel
theorem dM_bar_37 : decode bM_bar 37 = .ok (.iload_n 2, 1) := by decide +kernel
theorem dM_bar_38 : decode bM_bar 38 = .ok (.iadd, 1) := by decide +kernel
theorem dM_bar_39 : decode bM_bar 39 = .ok (.iload_n 3, 1) := by decide +kernel
theorem dM_bar_40 : decode bM_bar 40 = .ok (.bastore, 1) := by decide +kernel
theorem dM_bar_41 : decode bM_bar 41 = .ok (.aload_n 0, 1) := by decide +kernel
theorem dM_bar_42 : decode bM_bar 42 = .ok (.invokevirtual 120, 3) := by decide +kernel
theorem dM_bar_45 : decode bM_bar 45 = .ok (.return_, 1) := by decide +kernel
theorem dM_follow_0 : decode bM_follow 0 = .ok (.aload_n 0, 1) := by decide +kernel
theorem dM_follow_1 : decode bM_follow 1 = .ok (.iload_n 1, 1) := by decide +kernel
theorem dM_follow_2 : decode bM_follow 2 = .ok (.iconst 0, 1) := by decide +kernel
theorem dM_follow_3 : decode bM_follow 3 = .ok (.iconst 5, 1) := by decide +kernel
theorem dM_follow_4 : decode bM_follow 4 = .ok (.invokestatic 79, 3) := by decide +kernel
theorem dM_follow_7 : decode bM_follow 7 = .ok (.ifCond .eq (18), 3) := by decide +kernel
theorem dM_follow_10 : decode bM_follow 10 = .ok (.iload_n 2, 1) := by decide +kernel
theorem dM_follow_11 : decode bM_follow 11 = .ok (.bipush 33, 2) := by decide +kernel
theorem dM_follow_13 : decode bM_follow 13 = .ok (.bipush 126, 2) := by decide +kernel
theorem dM_follow_15 : decode bM_follow 15 = .ok (.invokestatic 79, 3) := by decide +kernel
theorem dM_follow_18 : decode bM_follow 18 = .ok (.ifCond .eq (7), 3) := by decide +kernel
theorem dM_follow_21 : decode bM_follow 21 = .ok (.iconst 1, 1) := by decide +kernel
theorem dM_follow_22 : decode bM_follow 22 = .ok (.goto (4), 3) := by decide +kernel
theorem dM_follow_25 : decode bM_follow 25 = .ok (.iconst 0, 1) := by decide +kernel
theorem dM_follow_26 : decode bM_follow 26 = .ok (.invokevirtual 83, 3) := by decide +kernel
theorem dM_follow_29 : decode bM_follow 29 = .ok (.ifCond .eq (4), 3) := by decide +kernel
theorem dM_follow_32 : decode bM_follow 32 = .ok (.return_, 1) := by decide +kernel
theorem dM_follow_33 : decode bM_follow 33 = .ok (.aload_n 0, 1) := by decide +kernel
theorem dM_follow_34 : decode bM_follow 34 = .ok (.getfield 45, 3) := by decide +kernel
theorem dM_follow_37 : decode bM_follow 37 = .ok (.iload_n 1, 1) := by decide +kernel
theorem dM_follow_38 : decode bM_follow 38 = .ok (.bipush 127, 2) := by decide +kernel
theorem dM_follow_40 : decode bM_follow 40 = .ok (.imul, 1) := by decide +kernel
theorem dM_follow_41 : decode bM_follow 41 = .ok (.iload_n 2, 1) := by decide +kernel
theorem dM_follow_42 : decode bM_follow 42 = .ok (.iadd, 1) := by decide +kernel
theorem dM_follow_43 : decode bM_follow 43 = .ok (.iload_n 3, 1) := by decide +kernel
theorem dM_follow_44 : decode bM_follow 44 = .ok (.ifCond .ne (7), 3) := by decide +kernel
theorem dM_follow_47 : decode bM_follow 47 = .ok (.iconst 1, 1) := by decide +kernel
theorem dM_follow_48 : decode bM_follow 48 = .ok (.goto (4), 3) := by decide +kernel
theorem dM_follow_51 : decode bM_follow 51 = .ok (.iconst 0, 1) := by decide +kernel
theorem dM_follow_52 : decode bM_follow 52 = .ok (.bastore, 1) := by decide +kernel
theorem dM_follow_53 : decode bM_follow 53 = .ok (.aload_n 0, 1) := by decide +kernel
theorem dM_follow_54 : decode bM_follow 54 = .ok (.invokevirtual 120, 3) := by decide +kernel
theorem dM_follow_57 : decode bM_follow 57 = .ok (.return_, 1) := by decide +kernel
theorem dM_undo_0 : decode bM_undo 0 = .ok (.aload_n 0, 1) := by decide +kernel
theorem dM_undo_1 : decode bM_undo 1 = .ok (.aload_n 0, 1) := by decide +kernel
theorem dM_undo_2 : decode bM_undo 2 = .ok (.getfield 101, 3) := by decide +kernel
theorem dM_undo_5 : decode bM_undo 5 = .ok (.ifCond .ne (7), 3) := by decide +kernel
theorem dM_undo_8 : decode bM_undo 8 = .ok (.iconst 1, 1) := by decide +kernel
theorem dM_undo_9 : decode bM_undo 9 = .ok (.goto (4), 3) := by decide +kernel
theorem dM_undo_12 : decode bM_undo 12 = .ok (.iconst 0, 1) := by decide +kernel
theorem dM_undo_13 : decode bM_undo 13 = .ok (.putfield 76, 3) := by decide +kernel
theorem dM_undo_16 : decode bM_undo 16 = .ok (.aload_n 0, 1) := by decide +kernel
theorem dM_undo_17 : decode bM_undo 17 = .ok (.getfield 101, 3) := by decide +kernel
theorem dM_undo_20 : decode bM_undo 20 = .ok (.ifCond .ne (4), 3) := by decide +kernel
theorem dM_undo_23 : decode bM_undo 23 = .ok (.return_, 1) := by decide +kernel
theorem dM_undo_24 : decode bM_undo 24 = .ok (.aload_n 0, 1) := by decide +kernel
theorem dM_undo_25 : decode bM_undo 25 = .ok (.dup, 1) := by decide +kernel
theorem dM_undo_26 : decode bM_undo 26 = .ok (.getfield 101, 3) := by decide +kernel
theorem dM_undo_29 : decode bM_undo 29 = .ok (.iconst 1, 1) := by decide +kernel
theorem dM_undo_30 : decode bM_undo 30 = .ok (.isub, 1) := by decide +kernel
theorem dM_undo_31 : decode bM_undo 31 = .ok (.putfield 101, 3) := by decide +kernel
theorem dM_undo_34 : decode bM_undo 34 = .ok (.iconst 0, 1) := by decide +kernel
theorem dM_undo_35 : decode bM_undo 35 = .ok (.istore_n 1, 1) := by decide +kernel
theorem dM_undo_36 : decode bM_undo 36 = .ok (.iload_n 1, 1) := by decide +kernel
theorem dM_undo_37 : decode bM_undo 37 = .ok (.bipush 16, 2) := by decide +kernel
theorem dM_undo_39 : decode bM_undo 39 = .ok (.if_icmp .ge (39), 3) := by decide +kernel
theorem dM_undo_42 : decode bM_undo 42 = .ok (.aload_n 0, 1) := by decide +kernel
theorem dM_undo_43 : decode bM_undo 43 = .ok (.getfield 41, 3) := by decide +kernel
theorem dM_undo_46 : decode bM_undo 46 = .ok (.aload_n 0, 1) := by decide +kernel
theorem dM_undo_47 : decode bM_undo 47 = .ok (.getfield 101, 3) := by decide +kernel
theorem dM_undo_50 : decode bM_undo 50 = .ok (.bipush 16, 2) := by decide +kernel
theorem dM_undo_52 : decode bM_undo 52 = .ok (.imul, 1) := by decide +kernel
theorem dM_undo_53 : decode bM_undo 53 = .ok (.iload_n 1, 1) := by decide +kernel
theorem dM_undo_54 : decode bM_undo 54 = .ok (.iadd, 1) := by decide +kernel
theorem dM_undo_55 : decode bM_undo 55 = .ok (.iconst 0, 1) := by decide +kernel
theorem dM_undo_56 : decode bM_undo 56 = .ok (.bastore, 1) := by decide +kernel
theorem dM_undo_57 : decode bM_undo 57 = .ok (.aload_n 0, 1) := by decide +kernel
theorem dM_undo_58 : decode bM_undo 58 = .ok (.getfield 41, 3) := by decide +kernel
theorem dM_undo_61 : decode bM_undo 61 = .ok (.iload_n 1, 1) := by decide +kernel
theorem dM_undo_62 : decode bM_undo 62 = .ok (.bipush 16, 2) := by decide +kernel
theorem dM_undo_64 : decode bM_undo 64 = .ok (.imul, 1) := by decide +kernel
theorem dM_undo_65 : decode bM_undo 65 = .ok (.aload_n 0, 1) := by decide +kernel
theorem dM_undo_66 : decode bM_undo 66 = .ok (.getfield 101, 3) := by decide +kernel
theorem dM_undo_69 : decode bM_undo 69 = .ok (.iadd, 1) := by decide +kernel
theorem dM_undo_70 : decode bM_undo 70 = .ok (.iconst 0, 1) := by decide +kernel
theorem dM_undo_71 : decode bM_undo 71 = .ok (.bastore, 1) := by decide +kernel
theorem dM_undo_72 : decode bM_undo 72 = .ok (.iinc 1 (1), 3) := by decide +kernel
theorem dM_undo_75 : decode bM_undo 75 = .ok (.goto (-39), 3) := by decide +kernel
theorem dM_undo_78 : decode bM_undo 78 = .ok (.aload_n 0, 1) := by decide +kernel
theorem dM_undo_79 : decode bM_undo 79 = .ok (.invokevirtual 120, 3) := by decide +kernel
theorem dM_undo_82 : decode bM_undo 82 = .ok (.return_, 1) := by decide +kernel
theorem dM_span_0 : decode bM_span 0 = .ok (.iload_n 0, 1) := by decide +kernel
theorem dM_span_1 : decode bM_span 1 = .ok (.bipush 15, 2) := by decide +kernel
theorem dM_span_3 : decode bM_span 3 = .ok (.imul, 1) := by decide +kernel
theorem dM_span_4 : decode bM_span 4 = .ok (.iload_n 1, 1) := by decide +kernel
theorem dM_span_5 : decode bM_span 5 = .ok (.iadd, 1) := by decide +kernel
theorem dM_span_6 : decode bM_span 6 = .ok (.ireturn, 1) := by decide +kernel
theorem dM_allowed_0 : decode bM_allowed 0 = .ok (.aload_n 0, 1) := by decide +kernel
theorem dM_allowed_1 : decode bM_allowed 1 = .ok (.getfield 41, 3) := by decide +kernel
theorem dM_allowed_4 : decode bM_allowed 4 = .ok (.iload_n 1, 1) := by decide +kernel
theorem dM_allowed_5 : decode bM_allowed 5 = .ok (.bipush 16, 2) := by decide +kernel
theorem dM_allowed_7 : decode bM_allowed 7 = .ok (.imul, 1) := by decide +kernel
theorem dM_allowed_8 : decode bM_allowed 8 = .ok (.iload_n 3, 1) := by decide +kernel
theorem dM_allowed_9 : decode bM_allowed 9 = .ok (.iadd, 1) := by decide +kernel
theorem dM_allowed_10 : decode bM_allowed 10 = .ok (.baload, 1) := by decide +kernel
theorem dM_allowed_11 : decode bM_allowed 11 = .ok (.ifCond .eq (5), 3) := by decide +kernel
theorem dM_allowed_14 : decode bM_allowed 14 = .ok (.iconst 0, 1) := by decide +kernel
theorem dM_allowed_15 : decode bM_allowed 15 = .ok (.ireturn, 1) := by decide +kernel
theorem dM_allowed_16 : decode bM_allowed 16 = .ok (.iload_n 1, 1) := by decide +kernel
theorem dM_allowed_17 : decode bM_allowed 17 = .ok (.iload_n 3, 1) := by decide +kernel
theorem dM_allowed_18 : decode bM_allowed 18 = .ok (.if_icmp .eq (5), 3) := by decide +kernel
theorem dM_allowed_21 : decode bM_allowed 21 = .ok (.iconst 1, 1) := by decide +kernel
theorem dM_allowed_22 : decode bM_allowed 22 = .ok (.ireturn, 1) := by decide +kernel
theorem dM_allowed_23 : decode bM_allowed 23 = .ok (.aload_n 0, 1) := by decide +kernel
theorem dM_allowed_24 : decode bM_allowed 24 = .ok (.getfield 25, 3) := by decide +kernel
theorem dM_allowed_27 : decode bM_allowed 27 = .ok (.iload_n 1, 1) := by decide +kernel
theorem dM_allowed_28 : decode bM_allowed 28 = .ok (.iaload, 1) := by decide +kernel
theorem dM_allowed_29 : decode bM_allowed 29 = .ok (.iconst 2, 1) := by decide +kernel
theorem dM_allowed_30 : decode bM_allowed 30 = .ok (.if_icmp .ne (15), 3) := by decide +kernel
theorem dM_allowed_33 : decode bM_allowed 33 = .ok (.iload_n 2, 1) := by decide +kernel
theorem dM_allowed_34 : decode bM_allowed 34 = .ok (.aload_n 0, 1) := by decide +kernel
theorem dM_allowed_35 : decode bM_allowed 35 = .ok (.getfield 19, 3) := by decide +kernel
theorem dM_allowed_38 : decode bM_allowed 38 = .ok (.iload_n 1, 1) := by decide +kernel
theorem dM_allowed_39 : decode bM_allowed 39 = .ok (.iaload, 1) := by decide +kernel
theorem dM_allowed_40 : decode bM_allowed 40 = .ok (.iconst 1, 1) := by decide +kernel
theorem dM_allowed_41 : decode bM_allowed 41 = .ok (.isub, 1) := by decide +kernel
theorem dM_allowed_42 : decode bM_allowed 42 = .ok (.if_icmp .eq (21), 3) := by decide +kernel
theorem dM_allowed_45 : decode bM_allowed 45 = .ok (.aload_n 0, 1) := by decide +kernel
theorem dM_allowed_46 : decode bM_allowed 46 = .ok (.getfield 25, 3) := by decide +kernel
theorem dM_allowed_49 : decode bM_allowed 49 = .ok (.iload_n 1, 1) := by decide +kernel
theorem dM_allowed_50 : decode bM_allowed 50 = .ok (.iaload, 1) := by decide +kernel
theorem dM_allowed_51 : decode bM_allowed 51 = .ok (.iconst 3, 1) := by decide +kernel
theorem dM_allowed_52 : decode bM_allowed 52 = .ok (.if_icmp .ne (7), 3) := by decide +kernel
theorem dM_allowed_55 : decode bM_allowed 55 = .ok (.iload_n 2, 1) := by decide +kernel
theorem dM_allowed_56 : decode bM_allowed 56 = .ok (.ifCond .eq (7), 3) := by decide +kernel
theorem dM_allowed_59 : decode bM_allowed 59 = .ok (.iconst 1, 1) := by decide +kernel
theorem dM_allowed_60 : decode bM_allowed 60 = .ok (.goto (4), 3) := by decide +kernel
theorem dM_allowed_63 : decode bM_allowed 63 = .ok (.iconst 0, 1) := by decide +kernel
theorem dM_allowed_64 : decode bM_allowed 64 = .ok (.ireturn, 1) := by decide +kernel
theorem dM_cutDown_0 : decode bM_cutDown 0 = .ok (.lload_n 0, 1) := by decide +kernel
theorem dM_cutDown_1 : decode bM_cutDown 1 = .ok (.ldc2_w 126, 3) := by decide +kernel
theorem dM_cutDown_4 : decode bM_cutDown 4 = .ok (.lcmp, 1) := by decide +kernel
theorem dM_cutDown_5 : decode bM_cutDown 5 = .ok (.ifCond .le (8), 3) := by decide +kernel
theorem dM_cutDown_8 : decode bM_cutDown 8 = .ok (.ldc 128, 2) := by decide +kernel
theorem dM_cutDown_10 : decode bM_cutDown 10 = .ok (.goto (5), 3) := by decide +kernel
theorem dM_cutDown_13 : decode bM_cutDown 13 = .ok (.lload_n 0, 1) := by decide +kernel
theorem dM_cutDown_14 : decode bM_cutDown 14 = .ok (.l2i, 1) := by decide +kernel
theorem dM_cutDown_15 : decode bM_cutDown 15 = .ok (.ireturn, 1) := by decide +kernel
theorem dM_heaviest_0 : decode bM_heaviest 0 = .ok (.iconst (-1), 1) := by decide +kernel
theorem dM_heaviest_1 : decode bM_heaviest 1 = .ok (.istore 6, 2) := by decide +kernel
theorem dM_heaviest_3 : decode bM_heaviest 3 = .ok (.iconst 0, 1) := by decide +kernel
theorem dM_heaviest_4 : decode bM_heaviest 4 = .ok (.istore 7, 2) := by decide +kernel
theorem dM_heaviest_6 : decode bM_heaviest 6 = .ok (.iload 7, 2) := by decide +kernel
theorem dM_heaviest_8 : decode bM_heaviest 8 = .ok (.aload_n 0, 1) := by decide +kernel
theorem dM_heaviest_9 : decode bM_heaviest 9 = .ok (.getfield 101, 3) := by decide +kernel
theorem dM_heaviest_12 : decode bM_heaviest 12 = .ok (.if_icmp .ge (122), 3) := by decide +kernel
theorem dM_heaviest_15 : decode bM_heaviest 15 = .ok (.aload_n 0, 1) := by decide +kernel
theorem dM_heaviest_16 : decode bM_heaviest 16 = .ok (.getfield 16, 3) := by decide +kernel
theorem dM_heaviest_19 : decode bM_heaviest 19 = .ok (.iload 7, 2) := by decide +kernel
theorem dM_heaviest_21 : decode bM_heaviest 21 = .ok (.iaload, 1) := by decide +kernel
theorem dM_heaviest_22 : decode bM_heaviest 22 = .ok (.iload_n 3, 1) := by decide +kernel
theorem dM_heaviest_23 : decode bM_heaviest 23 = .ok (.if_icmp .ne (105), 3) := by decide +kernel
theorem dM_heaviest_26 : decode bM_heaviest 26 = .ok (.aload_n 0, 1) := by decide +kernel
theorem dM_heaviest_27 : decode bM_heaviest 27 = .ok (.getfield 25, 3) := by decide +kernel
theorem dM_heaviest_30 : decode bM_heaviest 30 = .ok (.iload 7, 2) := by decide +kernel
theorem dM_heaviest_32 : decode bM_heaviest 32 = .ok (.iaload, 1) := by decide +kernel
theorem dM_heaviest_33 : decode bM_heaviest 33 = .ok (.iconst 1, 1) := by decide +kernel
theorem dM_heaviest_34 : decode bM_heaviest 34 = .ok (.if_icmp .eq (94), 3) := by decide +kernel
theorem dM_heaviest_37 : decode bM_heaviest 37 = .ok (.aload_n 0, 1) := by decide +kernel
theorem dM_heaviest_38 : decode bM_heaviest 38 = .ok (.getfield 51, 3) := by decide +kernel
theorem dM_heaviest_41 : decode bM_heaviest 41 = .ok (.iload 7, 2) := by decide +kernel
theorem dM_heaviest_43 : decode bM_heaviest 43 = .ok (.sipush 225, 3) := by decide +kernel
theorem dM_heaviest_46 : decode bM_heaviest 46 = .ok (.imul, 1) := by decide +kernel
theorem dM_heaviest_47 : decode bM_heaviest 47 = .ok (.iload 4, 2) := by decide +kernel
theorem dM_heaviest_49 : decode bM_heaviest 49 = .ok (.iload 5, 2) := by decide +kernel
theorem dM_heaviest_51 : decode bM_heaviest 51 = .ok (.invokestatic 129, 3) := by decide +kernel
theorem dM_heaviest_54 : decode bM_heaviest 54 = .ok (.iadd, 1) := by decide +kernel
theorem dM_heaviest_55 : decode bM_heaviest 55 = .ok (.iaload, 1) := by decide +kernel
theorem dM_heaviest_56 : decode bM_heaviest 56 = .ok (.ifCond .eq (72), 3) := by decide +kernel
theorem dM_heaviest_59 : decode bM_heaviest 59 = .ok (.iload_n 1, 1) := by decide +kernel
theorem dM_heaviest_60 : decode bM_heaviest 60 = .ok (.ifCond .lt (17), 3) := by decide +kernel
theorem dM_heaviest_63 : decode bM_heaviest 63 = .ok (.aload_n 0, 1) := by decide +kernel
theorem dM_heaviest_64 : decode bM_heaviest 64 = .ok (.iload_n 1, 1) := by decide +kernel
theorem dM_heaviest_65 : decode bM_heaviest 65 = .ok (.iload_n 2, 1) := by decide +kernel
theorem dM_heaviest_66 : decode bM_heaviest 66 = .ok (.iload 7, 2) := by decide +kernel
theorem dM_heaviest_68 : decode bM_heaviest 68 = .ok (.invokevirtual 133, 3) := by decide +kernel
theorem dM_heaviest_71 : decode bM_heaviest 71 = .ok (.ifCond .ne (6), 3) := by decide +kernel
theorem dM_heaviest_74 : decode bM_heaviest 74 = .ok (.goto (54), 3) := by decide +kernel
theorem dM_heaviest_77 : decode bM_heaviest 77 = .ok (.iload 6, 2) := by decide +kernel
theorem dM_heaviest_79 : decode bM_heaviest 79 = .ok (.ifCond .lt (45), 3) := by decide +kernel
theorem dM_heaviest_82 : decode bM_heaviest 82 = .ok (.aload_n 0, 1) := by decide +kernel
theorem dM_heaviest_83 : decode bM_heaviest 83 = .ok (.getfield 38, 3) := by decide +kernel
theorem dM_heaviest_86 : decode bM_heaviest 86 = .ok (.iload 7, 2) := by decide +kernel
theorem dM_heaviest_88 : decode bM_heaviest 88 = .ok (.sipush 225, 3) := by decide +kernel
theorem dM_heaviest_91 : decode bM_heaviest 91 = .ok (.imul, 1) := by decide +kernel
theorem dM_heaviest_92 : decode bM_heaviest 92 = .ok (.iload 4, 2) := by decide +kernel
theorem dM_heaviest_94 : decode bM_heaviest 94 = .ok (.iload 5, 2) := by decide +kernel
theorem dM_heaviest_96 : decode bM_heaviest 96 = .ok (.invokestatic 129, 3) := by decide +kernel
theorem dM_heaviest_99 : decode bM_heaviest 99 = .ok (.iadd, 1) := by decide +kernel
theorem dM_heaviest_100 : decode bM_heaviest 100 = .ok (.daload, 1) := by decide +kernel
theorem dM_heaviest_101 : decode bM_heaviest 101 = .ok (.aload_n 0, 1) := by decide +kernel
theorem dM_heaviest_102 : decode bM_heaviest 102 = .ok (.getfield 38, 3) := by decide +kernel
theorem dM_heaviest_105 : decode bM_heaviest 105 = .ok (.iload 6, 2) := by decide +kernel
theorem dM_heaviest_107 : decode bM_heaviest 107 = .ok (.sipush 225, 3) := by decide +kernel
theorem dM_heaviest_110 : decode bM_heaviest 110 = .ok (.imul, 1) := by decide +kernel
theorem dM_heaviest_111 : decode bM_heaviest 111 = .ok (.iload 4, 2) := by decide +kernel
theorem dM_heaviest_113 : decode bM_heaviest 113 = .ok (.iload 5, 2) := by decide +kernel
theorem dM_heaviest_115 : decode bM_heaviest 115 = .ok (.invokestatic 129, 3) := by decide +kernel
theorem dM_heaviest_118 : decode bM_heaviest 118 = .ok (.iadd, 1) := by decide +kernel
theorem dM_heaviest_119 : decode bM_heaviest 119 = .ok (.daload, 1) := by decide +kernel
theorem dM_heaviest_120 : decode bM_heaviest 120 = .ok (.dcmp .l, 1) := by decide +kernel
theorem dM_heaviest_121 : decode bM_heaviest 121 = .ok (.ifCond .le (7), 3) := by decide +kernel
theorem dM_heaviest_124 : decode bM_heaviest 124 = .ok (.iload 7, 2) := by decide +kernel
theorem dM_heaviest_126 : decode bM_heaviest 126 = .ok (.istore 6, 2) := by decide +kernel
theorem dM_heaviest_128 : decode bM_heaviest 128 = .ok (.iinc 7 (1), 3) := by decide +kernel
theorem dM_heaviest_131 : decode bM_heaviest 131 = .ok (.goto (-125), 3) := by decide +kernel
theorem dM_heaviest_134 : decode bM_heaviest 134 = .ok (.iload 6, 2) := by decide +kernel
theorem dM_heaviest_136 : decode bM_heaviest 136 = .ok (.ireturn, 1) := by decide +kernel
theorem dM_count5_0 : decode bM_count5 0 = .ok (.lconst 0, 1) := by decide +kernel
theorem dM_count5_1 : decode bM_count5 1 = .ok (.lstore 6, 2) := by decide +kernel
theorem dM_count5_3 : decode bM_count5 3 = .ok (.iconst 0, 1) := by decide +kernel
theorem dM_count5_4 : decode bM_count5 4 = .ok (.istore 8, 2) := by decide +kernel
theorem dM_count5_6 : decode bM_count5 6 = .ok (.iload 8, 2) := by decide +kernel
theorem dM_count5_8 : decode bM_count5 8 = .ok (.aload_n 0, 1) := by decide +kernel
theorem dM_count5_9 : decode bM_count5 9 = .ok (.getfield 101, 3) := by decide +kernel
theorem dM_count5_12 : decode bM_count5 12 = .ok (.if_icmp .ge (75), 3) := by decide +kernel
theorem dM_count5_15 : decode bM_count5 15 = .ok (.aload_n 0, 1) := by decide +kernel
theorem dM_count5_16 : decode bM_count5 16 = .ok (.getfield 16, 3) := by decide +kernel
theorem dM_count5_19 : decode bM_count5 19 = .ok (.iload 8, 2) := by decide +kernel
theorem dM_count5_21 : decode bM_count5 21 = .ok (.iaload, 1) := by decide +kernel
theorem dM_count5_22 : decode bM_count5 22 = .ok (.iload_n 3, 1) := by decide +kernel
theorem dM_count5_23 : decode bM_count5 23 = .ok (.if_icmp .ne (58), 3) := by decide +kernel
theorem dM_count5_26 : decode bM_count5 26 = .ok (.aload_n 0, 1) := by decide +kernel
theorem dM_count5_27 : decode bM_count5 27 = .ok (.getfield 25, 3) := by decide +kernel
theorem dM_count5_30 : decode bM_count5 30 = .ok (.iload 8, 2) := by decide +kernel
theorem dM_count5_32 : decode bM_count5 32 = .ok (.iaload, 1) := by decide +kernel
theorem dM_count5_33 : decode bM_count5 33 = .ok (.iconst 1, 1) := by decide +kernel
theorem dM_count5_34 : decode bM_count5 34 = .ok (.if_icmp .eq (47), 3) := by decide +kernel
theorem dM_count5_37 : decode bM_count5 37 = .ok (.iload_n 1, 1) := by decide +kernel
theorem dM_count5_38 : decode bM_count5 38 = .ok (.ifCond .lt (14), 3) := by decide +kernel
theorem dM_count5_41 : decode bM_count5 41 = .ok (.aload_n 0, 1) := by decide +kernel
theorem dM_count5_42 : decode bM_count5 42 = .ok (.iload_n 1, 1) := by decide +kernel
theorem dM_count5_43 : decode bM_count5 43 = .ok (.iload_n 2, 1) := by decide +kernel
theorem dM_count5_44 : decode bM_count5 44 = .ok (.iload 8, 2) := by decide +kernel
theorem dM_count5_46 : decode bM_count5 46 = .ok (.invokevirtual 133, 3) := by decide +kernel
theorem dM_count5_49 : decode bM_count5 49 = .ok (.ifCond .eq (32), 3) := by decide +kernel
theorem dM_count5_52 : decode bM_count5 52 = .ok (.lload 6, 2) := by decide +kernel
theorem dM_count5_54 : decode bM_count5 54 = .ok (.aload_n 0, 1) := by decide +kernel
theorem dM_count5_55 : decode bM_count5 55 = .ok (.getfield 51, 3) := by decide +kernel
theorem dM_count5_58 : decode bM_count5 58 = .ok (.iload 8, 2) := by decide +kernel
theorem dM_count5_60 : decode bM_count5 60 = .ok (.sipush 225, 3) := by decide +kernel
theorem dM_count5_63 : decode bM_count5 63 = .ok (.imul, 1) := by decide +kernel
theorem dM_count5_64 : decode bM_count5 64 = .ok (.iload 4, 2) := by decide +kernel
theorem dM_count5_66 : decode bM_count5 66 = .ok (.iload 5, 2) := by decide +kernel
theorem dM_count5_68 : decode bM_count5 68 = .ok (.invokestatic 129, 3) := by decide +kernel
theorem dM_count5_71 : decode bM_count5 71 = .ok (.iadd, 1) := by decide +kernel
theorem dM_count5_72 : decode bM_count5 72 = .ok (.iaload, 1) := by decide +kernel
theorem dM_count5_73 : decode bM_count5 73 = .ok (.i2l, 1) := by decide +kernel
theorem dM_count5_74 : decode bM_count5 74 = .ok (.ladd, 1) := by decide +kernel
theorem dM_count5_75 : decode bM_count5 75 = .ok (.invokestatic 136, 3) := by decide +kernel
theorem dM_count5_78 : decode bM_count5 78 = .ok (.i2l, 1) := by decide +kernel
theorem dM_count5_79 : decode bM_count5 79 = .ok (.lstore 6, 2) := by decide +kernel
theorem dM_count5_81 : decode bM_count5 81 = .ok (.iinc 8 (1), 3) := by decide +kernel
theorem dM_count5_84 : decode bM_count5 84 = .ok (.goto (-78), 3) := by decide +kernel
theorem dM_count5_87 : decode bM_count5 87 = .ok (.lload 6, 2) := by decide +kernel
theorem dM_count5_89 : decode bM_count5 89 = .ok (.l2i, 1) := by decide +kernel
theorem dM_count5_90 : decode bM_count5 90 = .ok (.ireturn, 1) := by decide +kernel
theorem dM_stands_0 : decode bM_stands 0 = .ok (.iload_n 1, 1) := by decide +kernel
theorem dM_stands_1 : decode bM_stands 1 = .ok (.bipush 35, 2) := by decide +kernel
theorem dM_stands_3 : decode bM_stands 3 = .ok (.if_icmp .ne (14), 3) := by decide +kernel
theorem dM_stands_6 : decode bM_stands 6 = .ok (.iload_n 2, 1) := by decide +kernel
theorem dM_stands_7 : decode bM_stands 7 = .ok (.bipush 48, 2) := by decide +kernel
theorem dM_stands_9 : decode bM_stands 9 = .ok (.bipush 57, 2) := by decide +kernel
theorem dM_stands_11 : decode bM_stands 11 = .ok (.invokestatic 79, 3) := by decide +kernel
theorem dM_stands_14 : decode bM_stands 14 = .ok (.goto (30), 3) := by decide +kernel
theorem dM_stands_17 : decode bM_stands 17 = .ok (.iload_n 1, 1) := by decide +kernel
theorem dM_stands_18 : decode bM_stands 18 = .ok (.bipush 64, 2) := by decide +kernel
theorem dM_stands_20 : decode bM_stands 20 = .ok (.if_icmp .ne (14), 3) := by decide +kernel
theorem dM_stands_23 : decode bM_stands 23 = .ok (.iload_n 2, 1) := by decide +kernel
theorem dM_stands_24 : decode bM_stands 24 = .ok (.bipush 97, 2) := by decide +kernel
theorem dM_stands_26 : decode bM_stands 26 = .ok (.bipush 122, 2) := by decide +kernel
theorem dM_stands_28 : decode bM_stands 28 = .ok (.invokestatic 79, 3) := by decide +kernel
theorem dM_stands_31 : decode bM_stands 31 = .ok (.goto (13), 3) := by decide +kernel
theorem dM_stands_34 : decode bM_stands 34 = .ok (.iload_n 1, 1) := by decide +kernel
theorem dM_stands_35 : decode bM_stands 35 = .ok (.iload_n 2, 1) := by decide +kernel
theorem dM_stands_36 : decode bM_stands 36 = .ok (.if_icmp .ne (7), 3) := by decide +kernel
theorem dM_stands_39 : decode bM_stands 39 = .ok (.iconst 1, 1) := by decide +kernel
theorem dM_stands_40 : decode bM_stands 40 = .ok (.goto (4), 3) := by decide +kernel
theorem dM_stands_43 : decode bM_stands 43 = .ok (.iconst 0, 1) := by decide +kernel
theorem dM_stands_44 : decode bM_stands 44 = .ok (.ireturn, 1) := by decide +kernel
theorem dM_symbol_0 : decode bM_symbol 0 = .ok (.aload_n 0, 1) := by decide +kernel
theorem dM_symbol_1 : decode bM_symbol 1 = .ok (.getfield 22, 3) := by decide +kernel
theorem dM_symbol_4 : decode bM_symbol 4 = .ok (.iload_n 1, 1) := by decide +kernel
theorem dM_symbol_5 : decode bM_symbol 5 = .ok (.iconst 4, 1) := by decide +kernel
theorem dM_symbol_6 : decode bM_symbol 6 = .ok (.imul, 1) := by decide +kernel
theorem dM_symbol_7 : decode bM_symbol 7 = .ok (.iload_n 2, 1) := by decide +kernel
theorem dM_symbol_8 : decode bM_symbol 8 = .ok (.iadd, 1) := by decide +kernel
theorem dM_symbol_9 : decode bM_symbol 9 = .ok (.iaload, 1) := by decide +kernel
theorem dM_symbol_10 : decode bM_symbol 10 = .ok (.istore 5, 2) := by decide +kernel
theorem dM_symbol_12 : decode bM_symbol 12 = .ok (.iload 5, 2) := by decide +kernel
theorem dM_symbol_14 : decode bM_symbol 14 = .ok (.bipush 65, 2) := by decide +kernel
theorem dM_symbol_16 : decode bM_symbol 16 = .ok (.bipush 70, 2) := by decide +kernel
theorem dM_symbol_18 : decode bM_symbol 18 = .ok (.invokestatic 79, 3) := by decide +kernel
theorem dM_symbol_21 : decode bM_symbol 21 = .ok (.ifCond .ne (32), 3) := by decide +kernel
theorem dM_symbol_24 : decode bM_symbol 24 = .ok (.iload 4, 2) := by decide +kernel
theorem dM_symbol_26 : decode bM_symbol 26 = .ok (.iload_n 3, 1) := by decide +kernel
theorem dM_symbol_27 : decode bM_symbol 27 = .ok (.iconst 1, 1) := by decide +kernel
theorem dM_symbol_28 : decode bM_symbol 28 = .ok (.iadd, 1) := by decide +kernel
theorem dM_symbol_29 : decode bM_symbol 29 = .ok (.if_icmp .ne (22), 3) := by decide +kernel
theorem dM_symbol_32 : decode bM_symbol 32 = .ok (.aload_n 0, 1) := by decide +kernel
theorem dM_symbol_33 : decode bM_symbol 33 = .ok (.iload 5, 2) := by decide +kernel
theorem dM_symbol_35 : decode bM_symbol 35 = .ok (.aload_n 0, 1) := by decide +kernel
theorem dM_symbol_36 : decode bM_symbol 36 = .ok (.getfield 13, 3) := by decide +kernel
theorem dM_symbol_39 : decode bM_symbol 39 = .ok (.iload_n 3, 1) := by decide +kernel
theorem dM_symbol_40 : decode bM_symbol 40 = .ok (.iaload, 1) := by decide +kernel
theorem dM_symbol_41 : decode bM_symbol 41 = .ok (.invokevirtual 140, 3) := by decide +kernel
theorem dM_symbol_44 : decode bM_symbol 44 = .ok (.ifCond .eq (7), 3) := by decide +kernel
theorem dM_symbol_47 : decode bM_symbol 47 = .ok (.iconst 1, 1) := by decide +kernel
theorem dM_symbol_48 : decode bM_symbol 48 = .ok (.goto (4), 3) := by decide +kernel
theorem dM_symbol_51 : decode bM_symbol 51 = .ok (.iconst 0, 1) := by decide +kernel
theorem dM_symbol_52 : decode bM_symbol 52 = .ok (.ireturn, 1) := by decide +kernel
theorem dM_symbol_53 : decode bM_symbol 53 = .ok (.aload_n 0, 1) := by decide +kernel
theorem dM_symbol_54 : decode bM_symbol 54 = .ok (.getfield 48, 3) := by decide +kernel
theorem dM_symbol_57 : decode bM_symbol 57 = .ok (.iload 5, 2) := by decide +kernel
theorem dM_symbol_59 : decode bM_symbol 59 = .ok (.bipush 65, 2) := by decide +kernel
theorem dM_symbol_61 : decode bM_symbol 61 = .ok (.isub, 1) := by decide +kernel
theorem dM_symbol_62 : decode bM_symbol 62 = .ok (.sipush 225, 3) := by decide +kernel
theorem dM_symbol_65 : decode bM_symbol 65 = .ok (.imul, 1) := by decide +kernel
theorem dM_symbol_66 : decode bM_symbol 66 = .ok (.iload_n 3, 1) := by decide +kernel
theorem dM_symbol_67 : decode bM_symbol 67 = .ok (.iload 4, 2) := by decide +kernel
theorem dM_symbol_69 : decode bM_symbol 69 = .ok (.invokestatic 129, 3) := by decide +kernel
theorem dM_symbol_72 : decode bM_symbol 72 = .ok (.iadd, 1) := by decide +kernel
theorem dM_symbol_73 : decode bM_symbol 73 = .ok (.baload, 1) := by decide +kernel
theorem dM_symbol_74 : decode bM_symbol 74 = .ok (.ifCond .eq (20), 3) := by decide +kernel
theorem dM_symbol_77 : decode bM_symbol 77 = .ok (.aload_n 0, 1) := by decide +kernel
theorem dM_symbol_78 : decode bM_symbol 78 = .ok (.iload_n 1, 1) := by decide +kernel
theorem dM_symbol_79 : decode bM_symbol 79 = .ok (.iload_n 2, 1) := by decide +kernel
theorem dM_symbol_80 : decode bM_symbol 80 = .ok (.iload 5, 2) := by decide +kernel
theorem dM_symbol_82 : decode bM_symbol 82 = .ok (.bipush 65, 2) := by decide +kernel
theorem dM_symbol_84 : decode bM_symbol 84 = .ok (.isub, 1) := by decide +kernel
theorem dM_symbol_85 : decode bM_symbol 85 = .ok (.iload_n 3, 1) := by decide +kernel
theorem dM_symbol_86 : decode bM_symbol 86 = .ok (.iload 4, 2) := by decide +kernel
theorem dM_symbol_88 : decode bM_symbol 88 = .ok (.invokevirtual 143, 3) := by decide +kernel
theorem dM_symbol_91 : decode bM_symbol 91 = .ok (.goto (4), 3) := by decide +kernel
theorem dM_symbol_94 : decode bM_symbol 94 = .ok (.iconst 0, 1) := by decide +kernel
theorem dM_symbol_95 : decode bM_symbol 95 = .ok (.ireturn, 1) := by decide +kernel
theorem dM_next_0 : decode bM_next 0 = .ok (.iload_n 1, 1) := by decide +kernel
theorem dM_next_1 : decode bM_next 1 = .ok (.iconst 1, 1) := by decide +kernel
theorem dM_next_2 : decode bM_next 2 = .ok (.isub, 1) := by decide +kernel
theorem dM_next_3 : decode bM_next 3 = .ok (.istore_n 3, 1) := by decide +kernel
theorem dM_next_4 : decode bM_next 4 = .ok (.iload_n 3, 1) := by decide +kernel
theorem dM_next_5 : decode bM_next 5 = .ok (.ifCond .le (23), 3) := by decide +kernel
theorem dM_next_8 : decode bM_next 8 = .ok (.aload_n 0, 1) := by decide +kernel
theorem dM_next_9 : decode bM_next 9 = .ok (.getfield 28, 3) := by decide +kernel
theorem dM_next_12 : decode bM_next 12 = .ok (.iload_n 3, 1) := by decide +kernel
theorem dM_next_13 : decode bM_next 13 = .ok (.iaload, 1) := by decide +kernel
theorem dM_next_14 : decode bM_next 14 = .ok (.iload_n 2, 1) := by decide +kernel
theorem dM_next_15 : decode bM_next 15 = .ok (.iload_n 1, 1) := by decide +kernel
theorem dM_next_16 : decode bM_next 16 = .ok (.isub, 1) := by decide +kernel
theorem dM_next_17 : decode bM_next 17 = .ok (.iload_n 3, 1) := by decide +kernel
theorem dM_next_18 : decode bM_next 18 = .ok (.iadd, 1) := by decide +kernel
theorem dM_next_19 : decode bM_next 19 = .ok (.if_icmp .ne (9), 3) := by decide +kernel
theorem dM_next_22 : decode bM_next 22 = .ok (.iinc 3 (-1), 3) := by decide +kernel
theorem dM_next_25 : decode bM_next 25 = .ok (.goto (-21), 3) := by decide +kernel
theorem dM_next_28 : decode bM_next 28 = .ok (.iload_n 3, 1) := by decide +kernel
theorem dM_next_29 : decode bM_next 29 = .ok (.ifCond .ne (5), 3) := by decide +kernel
theorem dM_next_32 : decode bM_next 32 = .ok (.iconst 0, 1) := by decide +kernel
theorem dM_next_33 : decode bM_next 33 = .ok (.ireturn, 1) := by decide +kernel
theorem dM_next_34 : decode bM_next 34 = .ok (.aload_n 0, 1) := by decide +kernel
theorem dM_next_35 : decode bM_next 35 = .ok (.getfield 28, 3) := by decide +kernel
theorem dM_next_38 : decode bM_next 38 = .ok (.iload_n 3, 1) := by decide +kernel
theorem dM_next_39 : decode bM_next 39 = .ok (.dup2, 1) := by decide +kernel
theorem dM_next_40 : decode bM_next 40 = .ok (.iaload, 1) := by decide +kernel
theorem dM_next_41 : decode bM_next 41 = .ok (.iconst 1, 1) := by decide +kernel
theorem dM_next_42 : decode bM_next 42 = .ok (.iadd, 1) := by decide +kernel
theorem dM_next_43 : decode bM_next 43 = .ok (.iastore, 1) := by decide +kernel
theorem dM_next_44 : decode bM_next 44 = .ok (.iload_n 3, 1) := by decide +kernel
theorem dM_next_45 : decode bM_next 45 = .ok (.iconst 1, 1) := by decide +kernel
theorem dM_next_46 : decode bM_next 46 = .ok (.iadd, 1) := by decide +kernel
theorem dM_next_47 : decode bM_next 47 = .ok (.istore 4, 2) := by decide +kernel
theorem dM_next_49 : decode bM_next 49 = .ok (.iload 4, 2) := by decide +kernel
theorem dM_next_51 : decode bM_next 51 = .ok (.iload_n 1, 1) := by decide +kernel
theorem dM_next_52 : decode bM_next 52 = .ok (.if_icmp .ge (27), 3) := by decide +kernel
theorem dM_next_55 : decode bM_next 55 = .ok (.aload_n 0, 1) := by decide +kernel
theorem dM_next_56 : decode bM_next 56 = .ok (.getfield 28, 3) := by decide +kernel
theorem dM_next_59 : decode bM_next 59 = .ok (.iload 4, 2) := by decide +kernel
theorem dM_next_61 : decode bM_next 61 = .ok (.aload_n 0, 1) := by decide +kernel
theorem dM_next_62 : decode bM_next 62 = .ok (.getfield 28, 3) := by decide +kernel
theorem dM_next_65 : decode bM_next 65 = .ok (.iload 4, 2) := by decide +kernel
theorem dM_next_67 : decode bM_next 67 = .ok (.iconst 1, 1) := by decide +kernel
theorem dM_next_68 : decode bM_next 68 = .ok (.isub, 1) := by decide +kernel
theorem dM_next_69 : decode bM_next 69 = .ok (.iaload, 1) := by decide +kernel
theorem dM_next_70 : decode bM_next 70 = .ok (.iconst 1, 1) := by decide +kernel
theorem dM_next_71 : decode bM_next 71 = .ok (.iadd, 1) := by decide +kernel
theorem dM_next_72 : decode bM_next 72 = .ok (.iastore, 1) := by decide +kernel
theorem dM_next_73 : decode bM_next 73 = .ok (.iinc 4 (1), 3) := by decide +kernel
theorem dM_next_76 : decode bM_next 76 = .ok (.goto (-27), 3) := by decide +kernel
theorem dM_next_79 : decode bM_next 79 = .ok (.iconst 1, 1) := by decide +kernel
theorem dM_next_80 : decode bM_next 80 = .ok (.ireturn, 1) := by decide +kernel
theorem dM_divide_0 : decode bM_divide 0 = .ok (.aload_n 0, 1) := by decide +kernel
theorem dM_divide_1 : decode bM_divide 1 = .ok (.getfield 19, 3) := by decide +kernel
theorem dM_divide_4 : decode bM_divide 4 = .ok (.iload_n 1, 1) := by decide +kernel
theorem dM_divide_5 : decode bM_divide 5 = .ok (.iaload, 1) := by decide +kernel
theorem dM_divide_6 : decode bM_divide 6 = .ok (.istore 4, 2) := by decide +kernel
theorem dM_divide_8 : decode bM_divide 8 = .ok (.lconst 0, 1) := by decide +kernel
theorem dM_divide_9 : decode bM_divide 9 = .ok (.lstore 5, 2) := by decide +kernel
theorem dM_divide_11 : decode bM_divide 11 = .ok (.dconst 0, 1) := by decide +kernel
theorem dM_divide_12 : decode bM_divide 12 = .ok (.dstore 7, 2) := by decide +kernel
theorem dM_divide_14 : decode bM_divide 14 = .ok (.iconst 0, 1) := by decide +kernel
theorem dM_divide_15 : decode bM_divide 15 = .ok (.istore 9, 2) := by decide +kernel
theorem dM_divide_17 : decode bM_divide 17 = .ok (.iconst 0, 1) := by decide +kernel
theorem dM_divide_18 : decode bM_divide 18 = .ok (.istore 10, 2) := by decide +kernel
theorem dM_divide_20 : decode bM_divide 20 = .ok (.iload 10, 2) := by decide +kernel
theorem dM_divide_22 : decode bM_divide 22 = .ok (.iload 4, 2) := by decide +kernel
theorem dM_divide_24 : decode bM_divide 24 = .ok (.if_icmp .gt (20), 3) := by decide +kernel
theorem dM_divide_27 : decode bM_divide 27 = .ok (.aload_n 0, 1) := by decide +kernel
theorem dM_divide_28 : decode bM_divide 28 = .ok (.getfield 28, 3) := by decide +kernel
theorem dM_divide_31 : decode bM_divide 31 = .ok (.iload 10, 2) := by decide +kernel
theorem dM_divide_33 : decode bM_divide 33 = .ok (.iload_n 2, 1) := by decide +kernel
theorem dM_divide_34 : decode bM_divide 34 = .ok (.iload 10, 2) := by decide +kernel
theorem dM_divide_36 : decode bM_divide 36 = .ok (.iadd, 1) := by decide +kernel
theorem dM_divide_37 : decode bM_divide 37 = .ok (.iastore, 1) := by decide +kernel
theorem dM_divide_38 : decode bM_divide 38 = .ok (.iinc 10 (1), 3) := by decide +kernel
theorem dM_divide_41 : decode bM_divide 41 = .ok (.goto (-21), 3) := by decide +kernel
theorem dM_divide_44 : decode bM_divide 44 = .ok (.aload_n 0, 1) := by decide +kernel
theorem dM_divide_45 : decode bM_divide 45 = .ok (.getfield 28, 3) := by decide +kernel
theorem dM_divide_48 : decode bM_divide 48 = .ok (.iload 4, 2) := by decide +kernel
theorem dM_divide_50 : decode bM_divide 50 = .ok (.iload_n 3, 1) := by decide +kernel
theorem dM_divide_51 : decode bM_divide 51 = .ok (.iastore, 1) := by decide +kernel
theorem dM_divide_52 : decode bM_divide 52 = .ok (.iload_n 3, 1) := by decide +kernel
theorem dM_divide_53 : decode bM_divide 53 = .ok (.iload_n 2, 1) := by decide +kernel
theorem dM_divide_54 : decode bM_divide 54 = .ok (.isub, 1) := by decide +kernel
theorem dM_divide_55 : decode bM_divide 55 = .ok (.iload 4, 2) := by decide +kernel
theorem dM_divide_57 : decode bM_divide 57 = .ok (.if_icmp .lt (7), 3) := by decide +kernel
theorem dM_divide_60 : decode bM_divide 60 = .ok (.iconst 1, 1) := by decide +kernel
theorem dM_divide_61 : decode bM_divide 61 = .ok (.goto (4), 3) := by decide +kernel
theorem dM_divide_64 : decode bM_divide 64 = .ok (.iconst 0, 1) := by decide +kernel
theorem dM_divide_65 : decode bM_divide 65 = .ok (.istore 10, 2) := by decide +kernel
theorem dM_divide_67 : decode bM_divide 67 = .ok (.iload 10, 2) := by decide +kernel
theorem dM_divide_69 : decode bM_divide 69 = .ok (.ifCond .eq (149), 3) := by decide +kernel
theorem dM_divide_72 : decode bM_divide 72 = .ok (.lconst 1, 1) := by decide +kernel
theorem dM_divide_73 : decode bM_divide 73 = .ok (.lstore 11, 2) := by decide +kernel
theorem dM_divide_75 : decode bM_divide 75 = .ok (.iconst 0, 1) := by decide +kernel
theorem dM_divide_76 : decode bM_divide 76 = .ok (.istore 13, 2) := by decide +kernel
theorem dM_divide_78 : decode bM_divide 78 = .ok (.iload 13, 2) := by decide +kernel
theorem dM_divide_80 : decode bM_divide 80 = .ok (.iload 4, 2) := by decide +kernel
theorem dM_divide_82 : decode bM_divide 82 = .ok (.if_icmp .ge (49), 3) := by decide +kernel
theorem dM_divide_85 : decode bM_divide 85 = .ok (.lload 11, 2) := by decide +kernel
theorem dM_divide_87 : decode bM_divide 87 = .ok (.lconst 0, 1) := by decide +kernel
theorem dM_divide_88 : decode bM_divide 88 = .ok (.lcmp, 1) := by decide +kernel
theorem dM_divide_89 : decode bM_divide 89 = .ok (.ifCond .le (42), 3) := by decide +kernel
theorem dM_divide_92 : decode bM_divide 92 = .ok (.lload 11, 2) := by decide +kernel
theorem dM_divide_94 : decode bM_divide 94 = .ok (.aload_n 0, 1) := by decide +kernel
theorem dM_divide_95 : decode bM_divide 95 = .ok (.iload_n 1, 1) := by decide +kernel
theorem dM_divide_96 : decode bM_divide 96 = .ok (.iload 13, 2) := by decide +kernel
theorem dM_divide_98 : decode bM_divide 98 = .ok (.aload_n 0, 1) := by decide +kernel
theorem dM_divide_99 : decode bM_divide 99 = .ok (.getfield 28, 3) := by decide +kernel
theorem dM_divide_102 : decode bM_divide 102 = .ok (.iload 13, 2) := by decide +kernel
theorem dM_divide_104 : decode bM_divide 104 = .ok (.iaload, 1) := by decide +kernel
theorem dM_divide_105 : decode bM_divide 105 = .ok (.aload_n 0, 1) := by decide +kernel
theorem dM_divide_106 : decode bM_divide 106 = .ok (.getfield 28, 3) := by decide +kernel
theorem dM_divide_109 : decode bM_divide 109 = .ok (.iload 13, 2) := by decide +kernel
theorem dM_divide_111 : decode bM_divide 111 = .ok (.iconst 1, 1) := by decide +kernel
theorem dM_divide_112 : decode bM_divide 112 = .ok (.iadd, 1) := by decide +kernel
theorem dM_divide_113 : decode bM_divide 113 = .ok (.iaload, 1) := by decide +kernel
theorem dM_divide_114 : decode bM_divide 114 = .ok (.invokevirtual 147, 3) := by decide +kernel
theorem dM_divide_117 : decode bM_divide 117 = .ok (.i2l, 1) := by decide +kernel
theorem dM_divide_118 : decode bM_divide 118 = .ok (.lmul, 1) := by decide +kernel
theorem dM_divide_119 : decode bM_divide 119 = .ok (.invokestatic 136, 3) := by decide +kernel
theorem dM_divide_122 : decode bM_divide 122 = .ok (.i2l, 1) := by decide +kernel
theorem dM_divide_123 : decode bM_divide 123 = .ok (.lstore 11, 2) := by decide +kernel
theorem dM_divide_125 : decode bM_divide 125 = .ok (.iinc 13 (1), 3) := by decide +kernel
theorem dM_divide_128 : decode bM_divide 128 = .ok (.goto (-50), 3) := by decide +kernel
theorem dM_divide_131 : decode bM_divide 131 = .ok (.lload 5, 2) := by decide +kernel
theorem dM_divide_133 : decode bM_divide 133 = .ok (.lload 11, 2) := by decide +kernel
theorem dM_divide_135 : decode bM_divide 135 = .ok (.ladd, 1) := by decide +kernel
theorem dM_divide_136 : decode bM_divide 136 = .ok (.invokestatic 136, 3) := by decide +kernel
theorem dM_divide_139 : decode bM_divide 139 = .ok (.i2l, 1) := by decide +kernel
theorem dM_divide_140 : decode bM_divide 140 = .ok (.lstore 5, 2) := by decide +kernel
theorem dM_divide_142 : decode bM_divide 142 = .ok (.lload 11, 2) := by decide +kernel
theorem dM_divide_144 : decode bM_divide 144 = .ok (.lconst 0, 1) := by decide +kernel
theorem dM_divide_145 : decode bM_divide 145 = .ok (.lcmp, 1) := by decide +kernel
theorem dM_divide_146 : decode bM_divide 146 = .ok (.ifCond .le (60), 3) := by decide +kernel
theorem dM_divide_149 : decode bM_divide 149 = .ok (.aload_n 0, 1) := by decide +kernel
theorem dM_divide_150 : decode bM_divide 150 = .ok (.iload_n 1, 1) := by decide +kernel
theorem dM_divide_151 : decode bM_divide 151 = .ok (.invokevirtual 151, 3) := by decide +kernel
theorem dM_divide_154 : decode bM_divide 154 = .ok (.dstore 13, 2) := by decide +kernel
theorem dM_divide_156 : decode bM_divide 156 = .ok (.iload 9, 2) := by decide +kernel
theorem dM_divide_158 : decode bM_divide 158 = .ok (.ifCond .eq (11), 3) := by decide +kernel
theorem dM_divide_161 : decode bM_divide 161 = .ok (.dload 13, 2) := by decide +kernel
theorem dM_divide_163 : decode bM_divide 163 = .ok (.dload 7, 2) := by decide +kernel
theorem dM_divide_165 : decode bM_divide 165 = .ok (.dcmp .l, 1) := by decide +kernel
theorem dM_divide_166 : decode bM_divide 166 = .ok (.ifCond .le (37), 3) := by decide +kernel
theorem dM_divide_169 : decode bM_divide 169 = .ok (.dload 13, 2) := by decide +kernel
theorem dM_divide_171 : decode bM_divide 171 = .ok (.dstore 7, 2) := by decide +kernel
theorem dM_divide_173 : decode bM_divide 173 = .ok (.iconst 0, 1) := by decide +kernel
theorem dM_divide_174 : decode bM_divide 174 = .ok (.istore 15, 2) := by decide +kernel
theorem dM_divide_176 : decode bM_divide 176 = .ok (.iload 15, 2) := by decide +kernel
theorem dM_divide_178 : decode bM_divide 178 = .ok (.iload 4, 2) := by decide +kernel
theorem dM_divide_180 : decode bM_divide 180 = .ok (.if_icmp .gt (23), 3) := by decide +kernel
theorem dM_divide_183 : decode bM_divide 183 = .ok (.aload_n 0, 1) := by decide +kernel
theorem dM_divide_184 : decode bM_divide 184 = .ok (.getfield 31, 3) := by decide +kernel
theorem dM_divide_187 : decode bM_divide 187 = .ok (.iload 15, 2) := by decide +kernel
theorem dM_divide_189 : decode bM_divide 189 = .ok (.aload_n 0, 1) := by decide +kernel
theorem dM_divide_190 : decode bM_divide 190 = .ok (.getfield 28, 3) := by decide +kernel
theorem dM_divide_193 : decode bM_divide 193 = .ok (.iload 15, 2) := by decide +kernel
theorem dM_divide_195 : decode bM_divide 195 = .ok (.iaload, 1) := by decide +kernel
theorem dM_divide_196 : decode bM_divide 196 = .ok (.iastore, 1) := by decide +kernel
theorem dM_divide_197 : decode bM_divide 197 = .ok (.iinc 15 (1), 3) := by decide +kernel
theorem dM_divide_200 : decode bM_divide 200 = .ok (.goto (-24), 3) := by decide +kernel
theorem dM_divide_203 : decode bM_divide 203 = .ok (.iconst 1, 1) := by decide +kernel
theorem dM_divide_204 : decode bM_divide 204 = .ok (.istore 9, 2) := by decide +kernel
theorem dM_divide_206 : decode bM_divide 206 = .ok (.aload_n 0, 1) := by decide +kernel
theorem dM_divide_207 : decode bM_divide 207 = .ok (.iload 4, 2) := by decide +kernel
theorem dM_divide_209 : decode bM_divide 209 = .ok (.iload_n 3, 1) := by decide +kernel
theorem dM_divide_210 : decode bM_divide 210 = .ok (.invokevirtual 155, 3) := by decide +kernel
theorem dM_divide_213 : decode bM_divide 213 = .ok (.istore 10, 2) := by decide +kernel
theorem dM_divide_215 : decode bM_divide 215 = .ok (.goto (-148), 3) := by decide +kernel
theorem dM_divide_218 : decode bM_divide 218 = .ok (.aload_n 0, 1) := by decide +kernel
theorem dM_divide_219 : decode bM_divide 219 = .ok (.getfield 51, 3) := by decide +kernel
theorem dM_divide_222 : decode bM_divide 222 = .ok (.iload_n 1, 1) := by decide +kernel
theorem dM_divide_223 : decode bM_divide 223 = .ok (.sipush 225, 3) := by decide +kernel
theorem dM_divide_226 : decode bM_divide 226 = .ok (.imul, 1) := by decide +kernel
theorem dM_divide_227 : decode bM_divide 227 = .ok (.iload_n 2, 1) := by decide +kernel
theorem dM_divide_228 : decode bM_divide 228 = .ok (.iload_n 3, 1) := by decide +kernel
theorem dM_divide_229 : decode bM_divide 229 = .ok (.invokestatic 129, 3) := by decide +kernel
theorem dM_divide_232 : decode bM_divide 232 = .ok (.iadd, 1) := by decide +kernel
theorem dM_divide_233 : decode bM_divide 233 = .ok (.lload 5, 2) := by decide +kernel
theorem dM_divide_235 : decode bM_divide 235 = .ok (.l2i, 1) := by decide +kernel
theorem dM_divide_236 : decode bM_divide 236 = .ok (.iastore, 1) := by decide +kernel
theorem dM_divide_237 : decode bM_divide 237 = .ok (.aload_n 0, 1) := by decide +kernel
theorem dM_divide_238 : decode bM_divide 238 = .ok (.getfield 38, 3) := by decide +kernel
theorem dM_divide_241 : decode bM_divide 241 = .ok (.iload_n 1, 1) := by decide +kernel
theorem dM_divide_242 : decode bM_divide 242 = .ok (.sipush 225, 3) := by decide +kernel
theorem dM_divide_245 : decode bM_divide 245 = .ok (.imul, 1) := by decide +kernel
theorem dM_divide_246 : decode bM_divide 246 = .ok (.iload_n 2, 1) := by decide +kernel
theorem dM_divide_247 : decode bM_divide 247 = .ok (.iload_n 3, 1) := by decide +kernel
theorem dM_divide_248 : decode bM_divide 248 = .ok (.invokestatic 129, 3) := by decide +kernel
theorem dM_divide_251 : decode bM_divide 251 = .ok (.iadd, 1) := by decide +kernel
theorem dM_divide_252 : decode bM_divide 252 = .ok (.dload 7, 2) := by decide +kernel
theorem dM_divide_254 : decode bM_divide 254 = .ok (.dastore, 1) := by decide +kernel
theorem dM_divide_255 : decode bM_divide 255 = .ok (.return_, 1) := by decide +kernel
theorem dM_weightOf_0 : decode bM_weightOf 0 = .ok (.aload_n 0, 1) := by decide +kernel
theorem dM_weightOf_1 : decode bM_weightOf 1 = .ok (.getfield 34, 3) := by decide +kernel
theorem dM_weightOf_4 : decode bM_weightOf 4 = .ok (.iload_n 1, 1) := by decide +kernel
theorem dM_weightOf_5 : decode bM_weightOf 5 = .ok (.daload, 1) := by decide +kernel
theorem dM_weightOf_6 : decode bM_weightOf 6 = .ok (.dstore_n 2, 1) := by decide +kernel
theorem dM_weightOf_7 : decode bM_weightOf 7 = .ok (.iconst 0, 1) := by decide +kernel
theorem dM_weightOf_8 : decode bM_weightOf 8 = .ok (.istore 4, 2) := by decide +kernel
theorem dM_weightOf_10 : decode bM_weightOf 10 = .ok (.iload 4, 2) := by decide +kernel
theorem dM_weightOf_12 : decode bM_weightOf 12 = .ok (.aload_n 0, 1) := by decide +kernel
theorem dM_weightOf_13 : decode bM_weightOf 13 = .ok (.getfield 19, 3) := by decide +kernel
theorem dM_weightOf_16 : decode bM_weightOf 16 = .ok (.iload_n 1, 1) := by decide +kernel
theorem dM_weightOf_17 : decode bM_weightOf 17 = .ok (.iaload, 1) := by decide +kernel
theorem dM_weightOf_18 : decode bM_weightOf 18 = .ok (.if_icmp .ge (101), 3) := by decide +kernel
theorem dM_weightOf_21 : decode bM_weightOf 21 = .ok (.aload_n 0, 1) := by decide +kernel
theorem dM_weightOf_22 : decode bM_weightOf 22 = .ok (.getfield 22, 3) := by decide +kernel
theorem dM_weightOf_25 : decode bM_weightOf 25 = .ok (.iload_n 1, 1) := by decide +kernel
theorem dM_weightOf_26 : decode bM_weightOf 26 = .ok (.iconst 4, 1) := by decide +kernel
theorem dM_weightOf_27 : decode bM_weightOf 27 = .ok (.imul, 1) := by decide +kernel
theorem dM_weightOf_28 : decode bM_weightOf 28 = .ok (.iload 4, 2) := by decide +kernel
theorem dM_weightOf_30 : decode bM_weightOf 30 = .ok (.iadd, 1) := by decide +kernel
theorem dM_weightOf_31 : decode bM_weightOf 31 = .ok (.iaload, 1) := by decide +kernel
theorem dM_weightOf_32 : decode bM_weightOf 32 = .ok (.istore 5, 2) := by decide +kernel
theorem dM_weightOf_34 : decode bM_weightOf 34 = .ok (.iload 5, 2) := by decide +kernel
theorem dM_weightOf_36 : decode bM_weightOf 36 = .ok (.bipush 65, 2) := by decide +kernel
theorem dM_weightOf_38 : decode bM_weightOf 38 = .ok (.bipush 70, 2) := by decide +kernel
theorem dM_weightOf_40 : decode bM_weightOf 40 = .ok (.invokestatic 79, 3) := by decide +kernel
theorem dM_weightOf_43 : decode bM_weightOf 43 = .ok (.ifCond .ne (6), 3) := by decide +kernel
theorem dM_weightOf_46 : decode bM_weightOf 46 = .ok (.goto (67), 3) := by decide +kernel
theorem dM_weightOf_49 : decode bM_weightOf 49 = .ok (.aload_n 0, 1) := by decide +kernel
theorem dM_weightOf_50 : decode bM_weightOf 50 = .ok (.iload_n 1, 1) := by decide +kernel
theorem dM_weightOf_51 : decode bM_weightOf 51 = .ok (.iload 4, 2) := by decide +kernel
theorem dM_weightOf_53 : decode bM_weightOf 53 = .ok (.iload 5, 2) := by decide +kernel
theorem dM_weightOf_55 : decode bM_weightOf 55 = .ok (.bipush 65, 2) := by decide +kernel
theorem dM_weightOf_57 : decode bM_weightOf 57 = .ok (.isub, 1) := by decide +kernel
theorem dM_weightOf_58 : decode bM_weightOf 58 = .ok (.aload_n 0, 1) := by decide +kernel
theorem dM_weightOf_59 : decode bM_weightOf 59 = .ok (.getfield 28, 3) := by decide +kernel
theorem dM_weightOf_62 : decode bM_weightOf 62 = .ok (.iload 4, 2) := by decide +kernel
theorem dM_weightOf_64 : decode bM_weightOf 64 = .ok (.iaload, 1) := by decide +kernel
theorem dM_weightOf_65 : decode bM_weightOf 65 = .ok (.aload_n 0, 1) := by decide +kernel
theorem dM_weightOf_66 : decode bM_weightOf 66 = .ok (.getfield 28, 3) := by decide +kernel
theorem dM_weightOf_69 : decode bM_weightOf 69 = .ok (.iload 4, 2) := by decide +kernel
theorem dM_weightOf_71 : decode bM_weightOf 71 = .ok (.iconst 1, 1) := by decide +kernel
theorem dM_weightOf_72 : decode bM_weightOf 72 = .ok (.iadd, 1) := by decide +kernel
theorem dM_weightOf_73 : decode bM_weightOf 73 = .ok (.iaload, 1) := by decide +kernel
theorem dM_weightOf_74 : decode bM_weightOf 74 = .ok (.invokevirtual 158, 3) := by decide +kernel
theorem dM_weightOf_77 : decode bM_weightOf 77 = .ok (.istore 6, 2) := by decide +kernel
theorem dM_weightOf_79 : decode bM_weightOf 79 = .ok (.dload_n 2, 1) := by decide +kernel
theorem dM_weightOf_80 : decode bM_weightOf 80 = .ok (.aload_n 0, 1) := by decide +kernel
theorem dM_weightOf_81 : decode bM_weightOf 81 = .ok (.getfield 38, 3) := by decide +kernel
theorem dM_weightOf_84 : decode bM_weightOf 84 = .ok (.iload 6, 2) := by decide +kernel
theorem dM_weightOf_86 : decode bM_weightOf 86 = .ok (.sipush 225, 3) := by decide +kernel
theorem dM_weightOf_89 : decode bM_weightOf 89 = .ok (.imul, 1) := by decide +kernel
theorem dM_weightOf_90 : decode bM_weightOf 90 = .ok (.aload_n 0, 1) := by decide +kernel
theorem dM_weightOf_91 : decode bM_weightOf 91 = .ok (.getfield 28, 3) := by decide +kernel
theorem dM_weightOf_94 : decode bM_weightOf 94 = .ok (.iload 4, 2) := by decide +kernel
theorem dM_weightOf_96 : decode bM_weightOf 96 = .ok (.iaload, 1) := by decide +kernel
theorem dM_weightOf_97 : decode bM_weightOf 97 = .ok (.aload_n 0, 1) := by decide +kernel
theorem dM_weightOf_98 : decode bM_weightOf 98 = .ok (.getfield 28, 3) := by decide +kernel
theorem dM_weightOf_101 : decode bM_weightOf 101 = .ok (.iload 4, 2) := by decide +kernel
theorem dM_weightOf_103 : decode bM_weightOf 103 = .ok (.iconst 1, 1) := by decide +kernel
theorem dM_weightOf_104 : decode bM_weightOf 104 = .ok (.iadd, 1) := by decide +kernel
theorem dM_weightOf_105 : decode bM_weightOf 105 = .ok (.iaload, 1) := by decide +kernel
theorem dM_weightOf_106 : decode bM_weightOf 106 = .ok (.invokestatic 129, 3) := by decide +kernel
theorem dM_weightOf_109 : decode bM_weightOf 109 = .ok (.iadd, 1) := by decide +kernel
theorem dM_weightOf_110 : decode bM_weightOf 110 = .ok (.daload, 1) := by decide +kernel
theorem dM_weightOf_111 : decode bM_weightOf 111 = .ok (.dmul, 1) := by decide +kernel
theorem dM_weightOf_112 : decode bM_weightOf 112 = .ok (.dstore_n 2, 1) := by decide +kernel
theorem dM_weightOf_113 : decode bM_weightOf 113 = .ok (.iinc 4 (1), 3) := by decide +kernel
theorem dM_weightOf_116 : decode bM_weightOf 116 = .ok (.goto (-106), 3) := by decide +kernel
theorem dM_weightOf_119 : decode bM_weightOf 119 = .ok (.dload_n 2, 1) := by decide +kernel
theorem dM_weightOf_120 : decode bM_weightOf 120 = .ok (.dreturn, 1) := by decide +kernel
theorem dM_isGood_0 : decode bM_isGood 0 = .ok (.iconst 0, 1) := by decide +kernel
theorem dM_isGood_1 : decode bM_isGood 1 = .ok (.istore 4, 2) := by decide +kernel
theorem dM_isGood_3 : decode bM_isGood 3 = .ok (.iload 4, 2) := by decide +kernel
theorem dM_isGood_5 : decode bM_isGood 5 = .ok (.aload_n 0, 1) := by decide +kernel
theorem dM_isGood_6 : decode bM_isGood 6 = .ok (.getfield 101, 3) := by decide +kernel
theorem dM_isGood_9 : decode bM_isGood 9 = .ok (.if_icmp .ge (53), 3) := by decide +kernel
theorem dM_isGood_12 : decode bM_isGood 12 = .ok (.aload_n 0, 1) := by decide +kernel
theorem dM_isGood_13 : decode bM_isGood 13 = .ok (.getfield 16, 3) := by decide +kernel
theorem dM_isGood_16 : decode bM_isGood 16 = .ok (.iload 4, 2) := by decide +kernel
theorem dM_isGood_18 : decode bM_isGood 18 = .ok (.iaload, 1) := by decide +kernel
theorem dM_isGood_19 : decode bM_isGood 19 = .ok (.iload_n 1, 1) := by decide +kernel
theorem dM_isGood_20 : decode bM_isGood 20 = .ok (.if_icmp .ne (36), 3) := by decide +kernel
theorem dM_isGood_23 : decode bM_isGood 23 = .ok (.aload_n 0, 1) := by decide +kernel
theorem dM_isGood_24 : decode bM_isGood 24 = .ok (.getfield 25, 3) := by decide +kernel
theorem dM_isGood_27 : decode bM_isGood 27 = .ok (.iload 4, 2) := by decide +kernel
theorem dM_isGood_29 : decode bM_isGood 29 = .ok (.iaload, 1) := by decide +kernel
theorem dM_isGood_30 : decode bM_isGood 30 = .ok (.iconst 1, 1) := by decide +kernel
theorem dM_isGood_31 : decode bM_isGood 31 = .ok (.if_icmp .ne (25), 3) := by decide +kernel
theorem dM_isGood_34 : decode bM_isGood 34 = .ok (.aload_n 0, 1) := by decide +kernel
theorem dM_isGood_35 : decode bM_isGood 35 = .ok (.getfield 51, 3) := by decide +kernel
theorem dM_isGood_38 : decode bM_isGood 38 = .ok (.iload 4, 2) := by decide +kernel
theorem dM_isGood_40 : decode bM_isGood 40 = .ok (.sipush 225, 3) := by decide +kernel
theorem dM_isGood_43 : decode bM_isGood 43 = .ok (.imul, 1) := by decide +kernel
theorem dM_isGood_44 : decode bM_isGood 44 = .ok (.iload_n 2, 1) := by decide +kernel
theorem dM_isGood_45 : decode bM_isGood 45 = .ok (.iload_n 3, 1) := by decide +kernel
theorem dM_isGood_46 : decode bM_isGood 46 = .ok (.invokestatic 129, 3) := by decide +kernel
theorem dM_isGood_49 : decode bM_isGood 49 = .ok (.iadd, 1) := by decide +kernel
theorem dM_isGood_50 : decode bM_isGood 50 = .ok (.iaload, 1) := by decide +kernel
theorem dM_isGood_51 : decode bM_isGood 51 = .ok (.ifCond .le (5), 3) := by decide +kernel
theorem dM_isGood_54 : decode bM_isGood 54 = .ok (.iconst 0, 1) := by decide +kernel
theorem dM_isGood_55 : decode bM_isGood 55 = .ok (.ireturn, 1) := by decide +kernel
theorem dM_isGood_56 : decode bM_isGood 56 = .ok (.iinc 4 (1), 3) := by decide +kernel
theorem dM_isGood_59 : decode bM_isGood 59 = .ok (.goto (-56), 3) := by decide +kernel
theorem dM_isGood_62 : decode bM_isGood 62 = .ok (.iload_n 3, 1) := by decide +kernel
theorem dM_isGood_63 : decode bM_isGood 63 = .ok (.aload_n 0, 1) := by decide +kernel
theorem dM_isGood_64 : decode bM_isGood 64 = .ok (.getfield 161, 3) := by decide +kernel
theorem dM_isGood_67 : decode bM_isGood 67 = .ok (.if_icmp .eq (22), 3) := by decide +kernel
theorem dM_isGood_70 : decode bM_isGood 70 = .ok (.aload_n 0, 1) := by decide +kernel
theorem dM_isGood_71 : decode bM_isGood 71 = .ok (.getfield 45, 3) := by decide +kernel
theorem dM_isGood_74 : decode bM_isGood 74 = .ok (.iload_n 1, 1) := by decide +kernel
theorem dM_isGood_75 : decode bM_isGood 75 = .ok (.bipush 127, 2) := by decide +kernel
theorem dM_isGood_77 : decode bM_isGood 77 = .ok (.imul, 1) := by decide +kernel
theorem dM_isGood_78 : decode bM_isGood 78 = .ok (.aload_n 0, 1) := by decide +kernel
theorem dM_isGood_79 : decode bM_isGood 79 = .ok (.getfield 13, 3) := by decide +kernel
theorem dM_isGood_82 : decode bM_isGood 82 = .ok (.iload_n 3, 1) := by decide +kernel
theorem dM_isGood_83 : decode bM_isGood 83 = .ok (.iaload, 1) := by decide +kernel
theorem dM_isGood_84 : decode bM_isGood 84 = .ok (.iadd, 1) := by decide +kernel
theorem dM_isGood_85 : decode bM_isGood 85 = .ok (.baload, 1) := by decide +kernel
theorem dM_isGood_86 : decode bM_isGood 86 = .ok (.ifCond .ne (7), 3) := by decide +kernel
theorem dM_isGood_89 : decode bM_isGood 89 = .ok (.iconst 1, 1) := by decide +kernel
theorem dM_isGood_90 : decode bM_isGood 90 = .ok (.goto (4), 3) := by decide +kernel
theorem dM_isGood_93 : decode bM_isGood 93 = .ok (.iconst 0, 1) := by decide +kernel
theorem dM_isGood_94 : decode bM_isGood 94 = .ok (.ireturn, 1) := by decide +kernel
theorem dM_fill_0 : decode bM_fill 0 = .ok (.iconst 0, 1) := by decide +kernel
theorem dM_fill_1 : decode bM_fill 1 = .ok (.istore_n 3, 1) := by decide +kernel
theorem dM_fill_2 : decode bM_fill 2 = .ok (.iload_n 3, 1) := by decide +kernel
theorem dM_fill_3 : decode bM_fill 3 = .ok (.aload_n 0, 1) := by decide +kernel
theorem dM_fill_4 : decode bM_fill 4 = .ok (.getfield 101, 3) := by decide +kernel
theorem dM_fill_7 : decode bM_fill 7 = .ok (.if_icmp .ge (41), 3) := by decide +kernel
theorem dM_fill_10 : decode bM_fill 10 = .ok (.aload_n 0, 1) := by decide +kernel
theorem dM_fill_11 : decode bM_fill 11 = .ok (.getfield 51, 3) := by decide +kernel
theorem dM_fill_14 : decode bM_fill 14 = .ok (.iload_n 3, 1) := by decide +kernel
theorem dM_fill_15 : decode bM_fill 15 = .ok (.sipush 225, 3) := by decide +kernel
theorem dM_fill_18 : decode bM_fill 18 = .ok (.imul, 1) := by decide +kernel
theorem dM_fill_19 : decode bM_fill 19 = .ok (.iload_n 1, 1) := by decide +kernel
theorem dM_fill_20 : decode bM_fill 20 = .ok (.iload_n 2, 1) := by decide +kernel
theorem dM_fill_21 : decode bM_fill 21 = .ok (.invokestatic 129, 3) := by decide +kernel
theorem dM_fill_24 : decode bM_fill 24 = .ok (.iadd, 1) := by decide +kernel
theorem dM_fill_25 : decode bM_fill 25 = .ok (.iconst 0, 1) := by decide +kernel
theorem dM_fill_26 : decode bM_fill 26 = .ok (.iastore, 1) := by decide +kernel
theorem dM_fill_27 : decode bM_fill 27 = .ok (.aload_n 0, 1) := by decide +kernel
theorem dM_fill_28 : decode bM_fill 28 = .ok (.iload_n 3, 1) := by decide +kernel
theorem dM_fill_29 : decode bM_fill 29 = .ok (.invokevirtual 104, 3) := by decide +kernel
theorem dM_fill_32 : decode bM_fill 32 = .ok (.ifCond .ne (10), 3) := by decide +kernel
theorem dM_fill_35 : decode bM_fill 35 = .ok (.aload_n 0, 1) := by decide +kernel
theorem dM_fill_36 : decode bM_fill 36 = .ok (.iload_n 3, 1) := by decide +kernel
theorem dM_fill_37 : decode bM_fill 37 = .ok (.iload_n 1, 1) := by decide +kernel
theorem dM_fill_38 : decode bM_fill 38 = .ok (.iload_n 2, 1) := by decide +kernel
theorem dM_fill_39 : decode bM_fill 39 = .ok (.invokevirtual 164, 3) := by decide +kernel
theorem dM_fill_42 : decode bM_fill 42 = .ok (.iinc 3 (1), 3) := by decide +kernel
theorem dM_fill_45 : decode bM_fill 45 = .ok (.goto (-43), 3) := by decide +kernel
theorem dM_fill_48 : decode bM_fill 48 = .ok (.iconst 0, 1) := by decide +kernel
theorem dM_fill_49 : decode bM_fill 49 = .ok (.istore_n 3, 1) := by decide +kernel
theorem dM_fill_50 : decode bM_fill 50 = .ok (.iload_n 3, 1) := by decide +kernel
theorem dM_fill_51 : decode bM_fill 51 = .ok (.bipush 7, 2) := by decide +kernel
theorem dM_fill_53 : decode bM_fill 53 = .ok (.if_icmp .ge (85), 3) := by decide +kernel
theorem dM_fill_56 : decode bM_fill 56 = .ok (.iconst 0, 1) := by decide +kernel
theorem dM_fill_57 : decode bM_fill 57 = .ok (.istore 4, 2) := by decide +kernel
theorem dM_fill_59 : decode bM_fill 59 = .ok (.iload 4, 2) := by decide +kernel
theorem dM_fill_61 : decode bM_fill 61 = .ok (.bipush 6, 2) := by decide +kernel
theorem dM_fill_63 : decode bM_fill 63 = .ok (.if_icmp .ge (34), 3) := by decide +kernel
theorem dM_fill_66 : decode bM_fill 66 = .ok (.aload_n 0, 1) := by decide +kernel
theorem dM_fill_67 : decode bM_fill 67 = .ok (.getfield 48, 3) := by decide +kernel
theorem dM_fill_70 : decode bM_fill 70 = .ok (.iload 4, 2) := by decide +kernel
theorem dM_fill_72 : decode bM_fill 72 = .ok (.sipush 225, 3) := by decide +kernel
theorem dM_fill_75 : decode bM_fill 75 = .ok (.imul, 1) := by decide +kernel
theorem dM_fill_76 : decode bM_fill 76 = .ok (.iload_n 1, 1) := by decide +kernel
theorem dM_fill_77 : decode bM_fill 77 = .ok (.iload_n 2, 1) := by decide +kernel
theorem dM_fill_78 : decode bM_fill 78 = .ok (.invokestatic 129, 3) := by decide +kernel
theorem dM_fill_81 : decode bM_fill 81 = .ok (.iadd, 1) := by decide +kernel
theorem dM_fill_82 : decode bM_fill 82 = .ok (.aload_n 0, 1) := by decide +kernel
theorem dM_fill_83 : decode bM_fill 83 = .ok (.iload 4, 2) := by decide +kernel
theorem dM_fill_85 : decode bM_fill 85 = .ok (.iload_n 1, 1) := by decide +kernel
theorem dM_fill_86 : decode bM_fill 86 = .ok (.iload_n 2, 1) := by decide +kernel
theorem dM_fill_87 : decode bM_fill 87 = .ok (.invokevirtual 168, 3) := by decide +kernel
theorem dM_fill_90 : decode bM_fill 90 = .ok (.bastore, 1) := by decide +kernel
theorem dM_fill_91 : decode bM_fill 91 = .ok (.iinc 4 (1), 3) := by decide +kernel
theorem dM_fill_94 : decode bM_fill 94 = .ok (.goto (-35), 3) := by decide +kernel
theorem dM_fill_97 : decode bM_fill 97 = .ok (.iconst 0, 1) := by decide +kernel
theorem dM_fill_98 : decode bM_fill 98 = .ok (.istore 4, 2) := by decide +kernel
theorem dM_fill_100 : decode bM_fill 100 = .ok (.iload 4, 2) := by decide +kernel
theorem dM_fill_102 : decode bM_fill 102 = .ok (.aload_n 0, 1) := by decide +kernel
theorem dM_fill_103 : decode bM_fill 103 = .ok (.getfield 101, 3) := by decide +kernel
theorem dM_fill_106 : decode bM_fill 106 = .ok (.if_icmp .ge (26), 3) := by decide +kernel
theorem dM_fill_109 : decode bM_fill 109 = .ok (.aload_n 0, 1) := by decide +kernel
theorem dM_fill_110 : decode bM_fill 110 = .ok (.iload 4, 2) := by decide +kernel
theorem dM_fill_112 : decode bM_fill 112 = .ok (.invokevirtual 104, 3) := by decide +kernel
theorem dM_fill_115 : decode bM_fill 115 = .ok (.ifCond .eq (11), 3) := by decide +kernel
theorem dM_fill_118 : decode bM_fill 118 = .ok (.aload_n 0, 1) := by decide +kernel
theorem dM_fill_119 : decode bM_fill 119 = .ok (.iload 4, 2) := by decide +kernel
theorem dM_fill_121 : decode bM_fill 121 = .ok (.iload_n 1, 1) := by decide +kernel
theorem dM_fill_122 : decode bM_fill 122 = .ok (.iload_n 2, 1) := by decide +kernel
theorem dM_fill_123 : decode bM_fill 123 = .ok (.invokevirtual 164, 3) := by decide +kernel
theorem dM_fill_126 : decode bM_fill 126 = .ok (.iinc 4 (1), 3) := by decide +kernel
theorem dM_fill_129 : decode bM_fill 129 = .ok (.goto (-29), 3) := by decide +kernel
theorem dM_fill_132 : decode bM_fill 132 = .ok (.iinc 3 (1), 3) := by decide +kernel
theorem dM_fill_135 : decode bM_fill 135 = .ok (.goto (-85), 3) := by decide +kernel
theorem dM_fill_138 : decode bM_fill 138 = .ok (.iconst 0, 1) := by decide +kernel
theorem dM_fill_139 : decode bM_fill 139 = .ok (.istore_n 3, 1) := by decide +kernel
theorem dM_fill_140 : decode bM_fill 140 = .ok (.iload_n 3, 1) := by decide +kernel
theorem dM_fill_141 : decode bM_fill 141 = .ok (.bipush 6, 2) := by decide +kernel
theorem dM_fill_143 : decode bM_fill 143 = .ok (.if_icmp .ge (32), 3) := by decide +kernel
theorem dM_fill_146 : decode bM_fill 146 = .ok (.aload_n 0, 1) := by decide +kernel
theorem dM_fill_147 : decode bM_fill 147 = .ok (.getfield 48, 3) := by decide +kernel
theorem dM_fill_150 : decode bM_fill 150 = .ok (.iload_n 3, 1) := by decide +kernel
theorem dM_fill_151 : decode bM_fill 151 = .ok (.sipush 225, 3) := by decide +kernel
theorem dM_fill_154 : decode bM_fill 154 = .ok (.imul, 1) := by decide +kernel
theorem dM_fill_155 : decode bM_fill 155 = .ok (.iload_n 1, 1) := by decide +kernel
theorem dM_fill_156 : decode bM_fill 156 = .ok (.iload_n 2, 1) := by decide +kernel
theorem dM_fill_157 : decode bM_fill 157 = .ok (.invokestatic 129, 3) := by decide +kernel
theorem dM_fill_160 : decode bM_fill 160 = .ok (.iadd, 1) := by decide +kernel
theorem dM_fill_161 : decode bM_fill 161 = .ok (.aload_n 0, 1) := by decide +kernel
theorem dM_fill_162 : decode bM_fill 162 = .ok (.iload_n 3, 1) := by decide +kernel
theorem dM_fill_163 : decode bM_fill 163 = .ok (.iload_n 1, 1) := by decide +kernel
theorem dM_fill_164 : decode bM_fill 164 = .ok (.iload_n 2, 1) := by decide +kernel
theorem dM_fill_165 : decode bM_fill 165 = .ok (.invokevirtual 168, 3) := by decide +kernel
theorem dM_fill_168 : decode bM_fill 168 = .ok (.bastore, 1) := by decide +kernel
theorem dM_fill_169 : decode bM_fill 169 = .ok (.iinc 3 (1), 3) := by decide +kernel
theorem dM_fill_172 : decode bM_fill 172 = .ok (.goto (-32), 3) := by decide +kernel
theorem dM_fill_175 : decode bM_fill 175 = .ok (.return_, 1) := by decide +kernel
theorem dM_parse_0 : decode bM_parse 0 = .ok (.aload_n 0, 1) := by decide +kernel
theorem dM_parse_1 : decode bM_parse 1 = .ok (.iload_n 1, 1) := by decide +kernel
theorem dM_parse_2 : decode bM_parse 2 = .ok (.iconst 0, 1) := by decide +kernel
theorem dM_parse_3 : decode bM_parse 3 = .ok (.iconst 5, 1) := by decide +kernel
theorem dM_parse_4 : decode bM_parse 4 = .ok (.invokestatic 79, 3) := by decide +kernel
theorem dM_parse_7 : decode bM_parse 7 = .ok (.ifCond .eq (14), 3) := by decide +kernel
theorem dM_parse_10 : decode bM_parse 10 = .ok (.aload_n 0, 1) := by decide +kernel
theorem dM_parse_11 : decode bM_parse 11 = .ok (.getfield 87, 3) := by decide +kernel
theorem dM_parse_14 : decode bM_parse 14 = .ok (.ifCond .le (7), 3) := by decide +kernel
theorem dM_parse_17 : decode bM_parse 17 = .ok (.iconst 1, 1) := by decide +kernel
theorem dM_parse_18 : decode bM_parse 18 = .ok (.goto (4), 3) := by decide +kernel
theorem dM_parse_21 : decode bM_parse 21 = .ok (.iconst 0, 1) := by decide +kernel
theorem dM_parse_22 : decode bM_parse 22 = .ok (.invokevirtual 83, 3) := by decide +kernel
theorem dM_parse_25 : decode bM_parse 25 = .ok (.ifCond .eq (5), 3) := by decide +kernel
theorem dM_parse_28 : decode bM_parse 28 = .ok (.iconst 0, 1) := by decide +kernel
theorem dM_parse_29 : decode bM_parse 29 = .ok (.ireturn, 1) := by decide +kernel
theorem dM_parse_30 : decode bM_parse 30 = .ok (.aload_n 0, 1) := by decide +kernel
theorem dM_parse_31 : decode bM_parse 31 = .ok (.aload_n 0, 1) := by decide +kernel
theorem dM_parse_32 : decode bM_parse 32 = .ok (.getfield 87, 3) := by decide +kernel
theorem dM_parse_35 : decode bM_parse 35 = .ok (.putfield 161, 3) := by decide +kernel
theorem dM_parse_38 : decode bM_parse 38 = .ok (.iconst 0, 1) := by decide +kernel
theorem dM_parse_39 : decode bM_parse 39 = .ok (.istore_n 2, 1) := by decide +kernel
theorem dM_parse_40 : decode bM_parse 40 = .ok (.iload_n 2, 1) := by decide +kernel
theorem dM_parse_41 : decode bM_parse 41 = .ok (.aload_n 0, 1) := by decide +kernel
theorem dM_parse_42 : decode bM_parse 42 = .ok (.getfield 87, 3) := by decide +kernel
theorem dM_parse_45 : decode bM_parse 45 = .ok (.if_icmp .ge (21), 3) := by decide +kernel
theorem dM_parse_48 : decode bM_parse 48 = .ok (.aload_n 0, 1) := by decide +kernel
theorem dM_parse_49 : decode bM_parse 49 = .ok (.getfield 13, 3) := by decide +kernel
theorem dM_parse_52 : decode bM_parse 52 = .ok (.iload_n 2, 1) := by decide +kernel
theorem dM_parse_53 : decode bM_parse 53 = .ok (.aload_n 0, 1) := by decide +kernel
theorem dM_parse_54 : decode bM_parse 54 = .ok (.getfield 7, 3) := by decide +kernel
theorem dM_parse_57 : decode bM_parse 57 = .ok (.iload_n 2, 1) := by decide +kernel
theorem dM_parse_58 : decode bM_parse 58 = .ok (.iaload, 1) := by decide +kernel
theorem dM_parse_59 : decode bM_parse 59 = .ok (.iastore, 1) := by decide +kernel
theorem dM_parse_60 : decode bM_parse 60 = .ok (.iinc 2 (1), 3) := by decide +kernel
theorem dM_parse_63 : decode bM_parse 63 = .ok (.goto (-23), 3) := by decide +kernel
theorem dM_parse_66 : decode bM_parse 66 = .ok (.aload_n 0, 1) := by decide +kernel
theorem dM_parse_67 : decode bM_parse 67 = .ok (.iconst 0, 1) := by decide +kernel
theorem dM_parse_68 : decode bM_parse 68 = .ok (.putfield 87, 3) := by decide +kernel
theorem dM_parse_71 : decode bM_parse 71 = .ok (.iconst 1, 1) := by decide +kernel
theorem dM_parse_72 : decode bM_parse 72 = .ok (.istore_n 2, 1) := by decide +kernel
theorem dM_parse_73 : decode bM_parse 73 = .ok (.iload_n 2, 1) := by decide +kernel
theorem dM_parse_74 : decode bM_parse 74 = .ok (.aload_n 0, 1) := by decide +kernel
theorem dM_parse_75 : decode bM_parse 75 = .ok (.getfield 161, 3) := by decide +kernel
theorem dM_parse_78 : decode bM_parse 78 = .ok (.if_icmp .gt (35), 3) := by decide +kernel
theorem dM_parse_81 : decode bM_parse 81 = .ok (.iconst 0, 1) := by decide +kernel
theorem dM_parse_82 : decode bM_parse 82 = .ok (.istore_n 3, 1) := by decide +kernel
theorem dM_parse_83 : decode bM_parse 83 = .ok (.iload_n 3, 1) := by decide +kernel
theorem dM_parse_84 : decode bM_parse 84 = .ok (.iload_n 2, 1) := by decide +kernel
theorem dM_parse_85 : decode bM_parse 85 = .ok (.iadd, 1) := by decide +kernel
theorem dM_parse_86 : decode bM_parse 86 = .ok (.aload_n 0, 1) := by decide +kernel
theorem dM_parse_87 : decode bM_parse 87 = .ok (.getfield 161, 3) := by decide +kernel
theorem dM_parse_90 : decode bM_parse 90 = .ok (.if_icmp .gt (17), 3) := by decide +kernel
theorem dM_parse_93 : decode bM_parse 93 = .ok (.aload_n 0, 1) := by decide +kernel
theorem dM_parse_94 : decode bM_parse 94 = .ok (.iload_n 3, 1) := by decide +kernel
theorem dM_parse_95 : decode bM_parse 95 = .ok (.iload_n 3, 1) := by decide +kernel
theorem dM_parse_96 : decode bM_parse 96 = .ok (.iload_n 2, 1) := by decide +kernel
theorem dM_parse_97 : decode bM_parse 97 = .ok (.iadd, 1) := by decide +kernel
theorem dM_parse_98 : decode bM_parse 98 = .ok (.invokevirtual 171, 3) := by decide +kernel
theorem dM_parse_101 : decode bM_parse 101 = .ok (.iinc 3 (1), 3) := by decide +kernel
theorem dM_parse_104 : decode bM_parse 104 = .ok (.goto (-21), 3) := by decide +kernel
theorem dM_parse_107 : decode bM_parse 107 = .ok (.iinc 2 (1), 3) := by decide +kernel
theorem dM_parse_110 : decode bM_parse 110 = .ok (.goto (-37), 3) := by decide +kernel
theorem dM_parse_113 : decode bM_parse 113 = .ok (.aload_n 0, 1) := by decide +kernel
theorem dM_parse_114 : decode bM_parse 114 = .ok (.iconst 1, 1) := by decide +kernel
theorem dM_parse_115 : decode bM_parse 115 = .ok (.putfield 94, 3) := by decide +kernel
theorem dM_parse_118 : decode bM_parse 118 = .ok (.aload_n 0, 1) := by decide +kernel
theorem dM_parse_119 : decode bM_parse 119 = .ok (.iconst 0, 1) := by decide +kernel
theorem dM_parse_120 : decode bM_parse 120 = .ok (.putfield 98, 3) := by decide +kernel
theorem dM_parse_123 : decode bM_parse 123 = .ok (.aload_n 0, 1) := by decide +kernel
theorem dM_parse_124 : decode bM_parse 124 = .ok (.getfield 48, 3) := by decide +kernel
theorem dM_parse_127 : decode bM_parse 127 = .ok (.iload_n 1, 1) := by decide +kernel
theorem dM_parse_128 : decode bM_parse 128 = .ok (.sipush 225, 3) := by decide +kernel
theorem dM_parse_131 : decode bM_parse 131 = .ok (.imul, 1) := by decide +kernel
theorem dM_parse_132 : decode bM_parse 132 = .ok (.iconst 0, 1) := by decide +kernel
theorem dM_parse_133 : decode bM_parse 133 = .ok (.aload_n 0, 1) := by decide +kernel
theorem dM_parse_134 : decode bM_parse 134 = .ok (.getfield 161, 3) := by decide +kernel
theorem dM_parse_137 : decode bM_parse 137 = .ok (.invokestatic 129, 3) := by decide +kernel
theorem dM_parse_140 : decode bM_parse 140 = .ok (.iadd, 1) := by decide +kernel
theorem dM_parse_141 : decode bM_parse 141 = .ok (.baload, 1) := by decide +kernel
theorem dM_parse_142 : decode bM_parse 142 = .ok (.ifCond .eq (18), 3) := by decide +kernel
theorem dM_parse_145 : decode bM_parse 145 = .ok (.aload_n 0, 1) := by decide +kernel
theorem dM_parse_146 : decode bM_parse 146 = .ok (.iconst (-1), 1) := by decide +kernel
theorem dM_parse_147 : decode bM_parse 147 = .ok (.iconst 0, 1) := by decide +kernel
theorem dM_parse_148 : decode bM_parse 148 = .ok (.iload_n 1, 1) := by decide +kernel
theorem dM_parse_149 : decode bM_parse 149 = .ok (.iconst 0, 1) := by decide +kernel
theorem dM_parse_150 : decode bM_parse 150 = .ok (.aload_n 0, 1) := by decide +kernel
theorem dM_parse_151 : decode bM_parse 151 = .ok (.getfield 161, 3) := by decide +kernel
theorem dM_parse_154 : decode bM_parse 154 = .ok (.invokevirtual 143, 3) := by decide +kernel
theorem dM_parse_157 : decode bM_parse 157 = .ok (.goto (4), 3) := by decide +kernel
theorem dM_parse_160 : decode bM_parse 160 = .ok (.iconst 0, 1) := by decide +kernel
theorem dM_parse_161 : decode bM_parse 161 = .ok (.istore_n 2, 1) := by decide +kernel
theorem dM_parse_162 : decode bM_parse 162 = .ok (.iload_n 2, 1) := by decide +kernel
theorem dM_parse_163 : decode bM_parse 163 = .ok (.ifCond .ne (9), 3) := by decide +kernel
theorem dM_parse_166 : decode bM_parse 166 = .ok (.aload_n 0, 1) := by decide +kernel
theorem dM_parse_167 : decode bM_parse 167 = .ok (.iconst 2, 1) := by decide +kernel
theorem dM_parse_168 : decode bM_parse 168 = .ok (.invokevirtual 90, 3) := by decide +kernel
theorem dM_parse_171 : decode bM_parse 171 = .ok (.ireturn, 1) := by decide +kernel
theorem dM_parse_172 : decode bM_parse 172 = .ok (.aload_n 0, 1) := by decide +kernel
theorem dM_parse_173 : decode bM_parse 173 = .ok (.iconst 1, 1) := by decide +kernel
theorem dM_parse_174 : decode bM_parse 174 = .ok (.putfield 98, 3) := by decide +kernel
theorem dM_parse_177 : decode bM_parse 177 = .ok (.aload_n 0, 1) := by decide +kernel
theorem dM_parse_178 : decode bM_parse 178 = .ok (.aload_n 0, 1) := by decide +kernel
theorem dM_parse_179 : decode bM_parse 179 = .ok (.iconst (-1), 1) := by decide +kernel
theorem dM_parse_180 : decode bM_parse 180 = .ok (.iconst 0, 1) := by decide +kernel
theorem dM_parse_181 : decode bM_parse 181 = .ok (.iload_n 1, 1) := by decide +kernel
theorem dM_parse_182 : decode bM_parse 182 = .ok (.iconst 0, 1) := by decide +kernel
theorem dM_parse_183 : decode bM_parse 183 = .ok (.aload_n 0, 1) := by decide +kernel
theorem dM_parse_184 : decode bM_parse 184 = .ok (.getfield 161, 3) := by decide +kernel
theorem dM_parse_187 : decode bM_parse 187 = .ok (.invokevirtual 158, 3) := by decide +kernel
theorem dM_parse_190 : decode bM_parse 190 = .ok (.invokevirtual 175, 3) := by decide +kernel
theorem dM_parse_193 : decode bM_parse 193 = .ok (.iload_n 2, 1) := by decide +kernel
theorem dM_parse_194 : decode bM_parse 194 = .ok (.ireturn, 1) := by decide +kernel
theorem dM_put_0 : decode bM_put 0 = .ok (.aload_n 0, 1) := by decide +kernel
theorem dM_put_1 : decode bM_put 1 = .ok (.getfield 69, 3) := by decide +kernel
theorem dM_put_4 : decode bM_put 4 = .ok (.iload_n 1, 1) := by decide +kernel
theorem dM_put_5 : decode bM_put 5 = .ok (.iload_n 2, 1) := by decide +kernel
theorem dM_put_6 : decode bM_put 6 = .ok (.iastore, 1) := by decide +kernel
theorem dM_put_7 : decode bM_put 7 = .ok (.aload_n 0, 1) := by decide +kernel
theorem dM_put_8 : decode bM_put 8 = .ok (.getfield 69, 3) := by decide +kernel
theorem dM_put_11 : decode bM_put 11 = .ok (.iload_n 1, 1) := by decide +kernel
theorem dM_put_12 : decode bM_put 12 = .ok (.iconst 1, 1) := by decide +kernel
theorem dM_put_13 : decode bM_put 13 = .ok (.iadd, 1) := by decide +kernel
theorem dM_put_14 : decode bM_put 14 = .ok (.iload_n 3, 1) := by decide +kernel
theorem dM_put_15 : decode bM_put 15 = .ok (.iastore, 1) := by decide +kernel
theorem dM_put_16 : decode bM_put 16 = .ok (.aload_n 0, 1) := by decide +kernel
theorem dM_put_17 : decode bM_put 17 = .ok (.getfield 69, 3) := by decide +kernel
theorem dM_put_20 : decode bM_put 20 = .ok (.iload_n 1, 1) := by decide +kernel
theorem dM_put_21 : decode bM_put 21 = .ok (.iconst 2, 1) := by decide +kernel
theorem dM_put_22 : decode bM_put 22 = .ok (.iadd, 1) := by decide +kernel
theorem dM_put_23 : decode bM_put 23 = .ok (.iload 4, 2) := by decide +kernel
theorem dM_put_25 : decode bM_put 25 = .ok (.iastore, 1) := by decide +kernel
theorem dM_put_26 : decode bM_put 26 = .ok (.aload_n 0, 1) := by decide +kernel
theorem dM_put_27 : decode bM_put 27 = .ok (.getfield 69, 3) := by decide +kernel
theorem dM_put_30 : decode bM_put 30 = .ok (.iload_n 1, 1) := by decide +kernel
theorem dM_put_31 : decode bM_put 31 = .ok (.iconst 3, 1) := by decide +kernel
theorem dM_put_32 : decode bM_put 32 = .ok (.iadd, 1) := by decide +kernel
theorem dM_put_33 : decode bM_put 33 = .ok (.iload 5, 2) := by decide +kernel
theorem dM_put_35 : decode bM_put 35 = .ok (.iastore, 1) := by decide +kernel
theorem dM_put_36 : decode bM_put 36 = .ok (.iload_n 1, 1) := by decide +kernel
theorem dM_put_37 : decode bM_put 37 = .ok (.iconst 4, 1) := by decide +kernel
theorem dM_put_38 : decode bM_put 38 = .ok (.iadd, 1) := by decide +kernel
theorem dM_put_39 : decode bM_put 39 = .ok (.ireturn, 1) := by decide +kernel
theorem dM_grow_0 : decode bM_grow 0 = .ok (.aload_n 0, 1) := by decide +kernel
theorem dM_grow_1 : decode bM_grow 1 = .ok (.aload_n 0, 1) := by decide +kernel
theorem dM_grow_2 : decode bM_grow 2 = .ok (.getfield 38, 3) := by decide +kernel
theorem dM_grow_5 : decode bM_grow 5 = .ok (.iload_n 1, 1) := by decide +kernel
theorem dM_grow_6 : decode bM_grow 6 = .ok (.sipush 225, 3) := by decide +kernel
theorem dM_grow_9 : decode bM_grow 9 = .ok (.imul, 1) := by decide +kernel
theorem dM_grow_10 : decode bM_grow 10 = .ok (.iconst 0, 1) := by decide +kernel
theorem dM_grow_11 : decode bM_grow 11 = .ok (.aload_n 0, 1) := by decide +kernel
theorem dM_grow_12 : decode bM_grow 12 = .ok (.getfield 161, 3) := by decide +kernel
theorem dM_grow_15 : decode bM_grow 15 = .ok (.invokestatic 129, 3) := by decide +kernel
theorem dM_grow_18 : decode bM_grow 18 = .ok (.iadd, 1) := by decide +kernel
theorem dM_grow_19 : decode bM_grow 19 = .ok (.daload, 1) := by decide +kernel
theorem dM_grow_20 : decode bM_grow 20 = .ok (.putfield 179, 3) := by decide +kernel
theorem dM_grow_23 : decode bM_grow 23 = .ok (.aload_n 0, 1) := by decide +kernel
theorem dM_grow_24 : decode bM_grow 24 = .ok (.iconst 0, 1) := by decide +kernel
theorem dM_grow_25 : decode bM_grow 25 = .ok (.putfield 183, 3) := by decide +kernel
theorem dM_grow_28 : decode bM_grow 28 = .ok (.aload_n 0, 1) := by decide +kernel
theorem dM_grow_29 : decode bM_grow 29 = .ok (.iconst 0, 1) := by decide +kernel
theorem dM_grow_30 : decode bM_grow 30 = .ok (.iload_n 1, 1) := by decide +kernel
theorem dM_grow_31 : decode bM_grow 31 = .ok (.iconst 0, 1) := by decide +kernel
theorem dM_grow_32 : decode bM_grow 32 = .ok (.aload_n 0, 1) := by decide +kernel
theorem dM_grow_33 : decode bM_grow 33 = .ok (.getfield 161, 3) := by decide +kernel
theorem dM_grow_36 : decode bM_grow 36 = .ok (.iconst (-1), 1) := by decide +kernel
theorem dM_grow_37 : decode bM_grow 37 = .ok (.invokevirtual 186, 3) := by decide +kernel
theorem dM_grow_40 : decode bM_grow 40 = .ok (.istore_n 2, 1) := by decide +kernel
theorem dM_grow_41 : decode bM_grow 41 = .ok (.iload_n 2, 1) := by decide +kernel
theorem dM_grow_42 : decode bM_grow 42 = .ok (.ifCond .le (243), 3) := by decide +kernel
theorem dM_grow_45 : decode bM_grow 45 = .ok (.iinc 2 (-4), 3) := by decide +kernel
theorem dM_grow_48 : decode bM_grow 48 = .ok (.aload_n 0, 1) := by decide +kernel
theorem dM_grow_49 : decode bM_grow 49 = .ok (.getfield 183, 3) := by decide +kernel
theorem dM_grow_52 : decode bM_grow 52 = .ok (.istore_n 3, 1) := by decide +kernel
theorem dM_grow_53 : decode bM_grow 53 = .ok (.aload_n 0, 1) := by decide +kernel
theorem dM_grow_54 : decode bM_grow 54 = .ok (.getfield 69, 3) := by decide +kernel
theorem dM_grow_57 : decode bM_grow 57 = .ok (.iload_n 2, 1) := by decide +kernel
theorem dM_grow_58 : decode bM_grow 58 = .ok (.iaload, 1) := by decide +kernel
theorem dM_grow_59 : decode bM_grow 59 = .ok (.istore 4, 2) := by decide +kernel
theorem dM_grow_61 : decode bM_grow 61 = .ok (.aload_n 0, 1) := by decide +kernel
theorem dM_grow_62 : decode bM_grow 62 = .ok (.getfield 69, 3) := by decide +kernel
theorem dM_grow_65 : decode bM_grow 65 = .ok (.iload_n 2, 1) := by decide +kernel
theorem dM_grow_66 : decode bM_grow 66 = .ok (.iconst 1, 1) := by decide +kernel
theorem dM_grow_67 : decode bM_grow 67 = .ok (.iadd, 1) := by decide +kernel
theorem dM_grow_68 : decode bM_grow 68 = .ok (.iaload, 1) := by decide +kernel
theorem dM_grow_69 : decode bM_grow 69 = .ok (.istore 5, 2) := by decide +kernel
theorem dM_grow_71 : decode bM_grow 71 = .ok (.aload_n 0, 1) := by decide +kernel
theorem dM_grow_72 : decode bM_grow 72 = .ok (.getfield 69, 3) := by decide +kernel
theorem dM_grow_75 : decode bM_grow 75 = .ok (.iload_n 2, 1) := by decide +kernel
theorem dM_grow_76 : decode bM_grow 76 = .ok (.iconst 2, 1) := by decide +kernel
theorem dM_grow_77 : decode bM_grow 77 = .ok (.iadd, 1) := by decide +kernel
theorem dM_grow_78 : decode bM_grow 78 = .ok (.iaload, 1) := by decide +kernel
theorem dM_grow_79 : decode bM_grow 79 = .ok (.istore 6, 2) := by decide +kernel
theorem dM_grow_81 : decode bM_grow 81 = .ok (.aload_n 0, 1) := by decide +kernel
theorem dM_grow_82 : decode bM_grow 82 = .ok (.getfield 54, 3) := by decide +kernel
theorem dM_grow_85 : decode bM_grow 85 = .ok (.iload_n 3, 1) := by decide +kernel
theorem dM_grow_86 : decode bM_grow 86 = .ok (.iload 4, 2) := by decide +kernel
theorem dM_grow_88 : decode bM_grow 88 = .ok (.iastore, 1) := by decide +kernel
theorem dM_grow_89 : decode bM_grow 89 = .ok (.aload_n 0, 1) := by decide +kernel
theorem dM_grow_90 : decode bM_grow 90 = .ok (.getfield 57, 3) := by decide +kernel
theorem dM_grow_93 : decode bM_grow 93 = .ok (.iload_n 3, 1) := by decide +kernel
theorem dM_grow_94 : decode bM_grow 94 = .ok (.iload 5, 2) := by decide +kernel
theorem dM_grow_96 : decode bM_grow 96 = .ok (.iastore, 1) := by decide +kernel
theorem dM_grow_97 : decode bM_grow 97 = .ok (.aload_n 0, 1) := by decide +kernel
theorem dM_grow_98 : decode bM_grow 98 = .ok (.getfield 60, 3) := by decide +kernel
theorem dM_grow_101 : decode bM_grow 101 = .ok (.iload_n 3, 1) := by decide +kernel
theorem dM_grow_102 : decode bM_grow 102 = .ok (.iload 6, 2) := by decide +kernel
theorem dM_grow_104 : decode bM_grow 104 = .ok (.iastore, 1) := by decide +kernel
theorem dM_grow_105 : decode bM_grow 105 = .ok (.aload_n 0, 1) := by decide +kernel
theorem dM_grow_106 : decode bM_grow 106 = .ok (.getfield 63, 3) := by decide +kernel
theorem dM_grow_109 : decode bM_grow 109 = .ok (.iload_n 3, 1) := by decide +kernel
theorem dM_grow_110 : decode bM_grow 110 = .ok (.aload_n 0, 1) := by decide +kernel
theorem dM_grow_111 : decode bM_grow 111 = .ok (.getfield 69, 3) := by decide +kernel
theorem dM_grow_114 : decode bM_grow 114 = .ok (.iload_n 2, 1) := by decide +kernel
theorem dM_grow_115 : decode bM_grow 115 = .ok (.iconst 3, 1) := by decide +kernel
theorem dM_grow_116 : decode bM_grow 116 = .ok (.iadd, 1) := by decide +kernel
theorem dM_grow_117 : decode bM_grow 117 = .ok (.iaload, 1) := by decide +kernel
theorem dM_grow_118 : decode bM_grow 118 = .ok (.iastore, 1) := by decide +kernel
theorem dM_grow_119 : decode bM_grow 119 = .ok (.aload_n 0, 1) := by decide +kernel
theorem dM_grow_120 : decode bM_grow 120 = .ok (.getfield 66, 3) := by decide +kernel
theorem dM_grow_123 : decode bM_grow 123 = .ok (.iload_n 3, 1) := by decide +kernel
theorem dM_grow_124 : decode bM_grow 124 = .ok (.iconst 0, 1) := by decide +kernel
theorem dM_grow_125 : decode bM_grow 125 = .ok (.iastore, 1) := by decide +kernel
theorem dM_grow_126 : decode bM_grow 126 = .ok (.aload_n 0, 1) := by decide +kernel
theorem dM_grow_127 : decode bM_grow 127 = .ok (.getfield 63, 3) := by decide +kernel
theorem dM_grow_130 : decode bM_grow 130 = .ok (.iload_n 3, 1) := by decide +kernel
theorem dM_grow_131 : decode bM_grow 131 = .ok (.iaload, 1) := by decide +kernel
theorem dM_grow_132 : decode bM_grow 132 = .ok (.istore 7, 2) := by decide +kernel
theorem dM_grow_134 : decode bM_grow 134 = .ok (.iload 7, 2) := by decide +kernel
theorem dM_grow_136 : decode bM_grow 136 = .ok (.ifCond .lt (26), 3) := by decide +kernel
theorem dM_grow_139 : decode bM_grow 139 = .ok (.aload_n 0, 1) := by decide +kernel
theorem dM_grow_140 : decode bM_grow 140 = .ok (.getfield 66, 3) := by decide +kernel
theorem dM_grow_143 : decode bM_grow 143 = .ok (.iload 7, 2) := by decide +kernel
theorem dM_grow_145 : decode bM_grow 145 = .ok (.dup2, 1) := by decide +kernel
theorem dM_grow_146 : decode bM_grow 146 = .ok (.iaload, 1) := by decide +kernel
theorem dM_grow_147 : decode bM_grow 147 = .ok (.iconst 1, 1) := by decide +kernel
theorem dM_grow_148 : decode bM_grow 148 = .ok (.iadd, 1) := by decide +kernel
theorem dM_grow_149 : decode bM_grow 149 = .ok (.iastore, 1) := by decide +kernel
theorem dM_grow_150 : decode bM_grow 150 = .ok (.aload_n 0, 1) := by decide +kernel
theorem dM_grow_151 : decode bM_grow 151 = .ok (.getfield 63, 3) := by decide +kernel
theorem dM_grow_154 : decode bM_grow 154 = .ok (.iload 7, 2) := by decide +kernel
theorem dM_grow_156 : decode bM_grow 156 = .ok (.iaload, 1) := by decide +kernel
theorem dM_grow_157 : decode bM_grow 157 = .ok (.istore 7, 2) := by decide +kernel
theorem dM_grow_159 : decode bM_grow 159 = .ok (.goto (-25), 3) := by decide +kernel
theorem dM_grow_162 : decode bM_grow 162 = .ok (.aload_n 0, 1) := by decide +kernel
theorem dM_grow_163 : decode bM_grow 163 = .ok (.dup, 1) := by decide +kernel
theorem dM_grow_164 : decode bM_grow 164 = .ok (.getfield 183, 3) := by decide +kernel
theorem dM_grow_167 : decode bM_grow 167 = .ok (.iconst 1, 1) := by decide +kernel
theorem dM_grow_168 : decode bM_grow 168 = .ok (.iadd, 1) := by decide +kernel
theorem dM_grow_169 : decode bM_grow 169 = .ok (.putfield 183, 3) := by decide +kernel
theorem dM_grow_172 : decode bM_grow 172 = .ok (.aload_n 0, 1) := by decide +kernel
theorem dM_grow_173 : decode bM_grow 173 = .ok (.iload 4, 2) := by decide +kernel
theorem dM_grow_175 : decode bM_grow 175 = .ok (.iload 5, 2) := by decide +kernel
theorem dM_grow_177 : decode bM_grow 177 = .ok (.iload 6, 2) := by decide +kernel
theorem dM_grow_179 : decode bM_grow 179 = .ok (.invokevirtual 164, 3) := by decide +kernel
theorem dM_grow_182 : decode bM_grow 182 = .ok (.aload_n 0, 1) := by decide +kernel
theorem dM_grow_183 : decode bM_grow 183 = .ok (.getfield 19, 3) := by decide +kernel
theorem dM_grow_186 : decode bM_grow 186 = .ok (.iload 4, 2) := by decide +kernel
theorem dM_grow_188 : decode bM_grow 188 = .ok (.iaload, 1) := by decide +kernel
theorem dM_grow_189 : decode bM_grow 189 = .ok (.iconst 1, 1) := by decide +kernel
theorem dM_grow_190 : decode bM_grow 190 = .ok (.isub, 1) := by decide +kernel
theorem dM_grow_191 : decode bM_grow 191 = .ok (.istore 7, 2) := by decide +kernel
theorem dM_grow_193 : decode bM_grow 193 = .ok (.iload 7, 2) := by decide +kernel
theorem dM_grow_195 : decode bM_grow 195 = .ok (.ifCond .lt (87), 3) := by decide +kernel
theorem dM_grow_198 : decode bM_grow 198 = .ok (.aload_n 0, 1) := by decide +kernel
theorem dM_grow_199 : decode bM_grow 199 = .ok (.getfield 22, 3) := by decide +kernel
theorem dM_grow_202 : decode bM_grow 202 = .ok (.iload 4, 2) := by decide +kernel
theorem dM_grow_204 : decode bM_grow 204 = .ok (.iconst 4, 1) := by decide +kernel
theorem dM_grow_205 : decode bM_grow 205 = .ok (.imul, 1) := by decide +kernel
theorem dM_grow_206 : decode bM_grow 206 = .ok (.iload 7, 2) := by decide +kernel
theorem dM_grow_208 : decode bM_grow 208 = .ok (.iadd, 1) := by decide +kernel
theorem dM_grow_209 : decode bM_grow 209 = .ok (.iaload, 1) := by decide +kernel
theorem dM_grow_210 : decode bM_grow 210 = .ok (.istore 8, 2) := by decide +kernel
theorem dM_grow_212 : decode bM_grow 212 = .ok (.iload 8, 2) := by decide +kernel
theorem dM_grow_214 : decode bM_grow 214 = .ok (.bipush 65, 2) := by decide +kernel
theorem dM_grow_216 : decode bM_grow 216 = .ok (.bipush 70, 2) := by decide +kernel
theorem dM_grow_218 : decode bM_grow 218 = .ok (.invokestatic 79, 3) := by decide +kernel
theorem dM_grow_221 : decode bM_grow 221 = .ok (.ifCond .eq (55), 3) := by decide +kernel
theorem dM_grow_224 : decode bM_grow 224 = .ok (.aload_n 0, 1) := by decide +kernel
theorem dM_grow_225 : decode bM_grow 225 = .ok (.iload_n 2, 1) := by decide +kernel
theorem dM_grow_226 : decode bM_grow 226 = .ok (.aload_n 0, 1) := by decide +kernel
theorem dM_grow_227 : decode bM_grow 227 = .ok (.iload 4, 2) := by decide +kernel
theorem dM_grow_229 : decode bM_grow 229 = .ok (.iload 7, 2) := by decide +kernel
theorem dM_grow_231 : decode bM_grow 231 = .ok (.iload 8, 2) := by decide +kernel
theorem dM_grow_233 : decode bM_grow 233 = .ok (.bipush 65, 2) := by decide +kernel
theorem dM_grow_235 : decode bM_grow 235 = .ok (.isub, 1) := by decide +kernel
theorem dM_grow_236 : decode bM_grow 236 = .ok (.aload_n 0, 1) := by decide +kernel
theorem dM_grow_237 : decode bM_grow 237 = .ok (.getfield 31, 3) := by decide +kernel
theorem dM_grow_240 : decode bM_grow 240 = .ok (.iload 7, 2) := by decide +kernel
theorem dM_grow_242 : decode bM_grow 242 = .ok (.iaload, 1) := by decide +kernel
theorem dM_grow_243 : decode bM_grow 243 = .ok (.aload_n 0, 1) := by decide +kernel
theorem dM_grow_244 : decode bM_grow 244 = .ok (.getfield 31, 3) := by decide +kernel
theorem dM_grow_247 : decode bM_grow 247 = .ok (.iload 7, 2) := by decide +kernel
theorem dM_grow_249 : decode bM_grow 249 = .ok (.iconst 1, 1) := by decide +kernel
theorem dM_grow_250 : decode bM_grow 250 = .ok (.iadd, 1) := by decide +kernel
theorem dM_grow_251 : decode bM_grow 251 = .ok (.iaload, 1) := by decide +kernel
theorem dM_grow_252 : decode bM_grow 252 = .ok (.invokevirtual 158, 3) := by decide +kernel
theorem dM_grow_255 : decode bM_grow 255 = .ok (.aload_n 0, 1) := by decide +kernel
theorem dM_grow_256 : decode bM_grow 256 = .ok (.getfield 31, 3) := by decide +kernel
theorem dM_grow_259 : decode bM_grow 259 = .ok (.iload 7, 2) := by decide +kernel
theorem dM_grow_261 : decode bM_grow 261 = .ok (.iaload, 1) := by decide +kernel
theorem dM_grow_262 : decode bM_grow 262 = .ok (.aload_n 0, 1) := by decide +kernel
theorem dM_grow_263 : decode bM_grow 263 = .ok (.getfield 31, 3) := by decide +kernel
theorem dM_grow_266 : decode bM_grow 266 = .ok (.iload 7, 2) := by decide +kernel
theorem dM_grow_268 : decode bM_grow 268 = .ok (.iconst 1, 1) := by decide +kernel
theorem dM_grow_269 : decode bM_grow 269 = .ok (.iadd, 1) := by decide +kernel
theorem dM_grow_270 : decode bM_grow 270 = .ok (.iaload, 1) := by decide +kernel
theorem dM_grow_271 : decode bM_grow 271 = .ok (.iload_n 3, 1) := by decide +kernel
theorem dM_grow_272 : decode bM_grow 272 = .ok (.invokevirtual 186, 3) := by decide +kernel
theorem dM_grow_275 : decode bM_grow 275 = .ok (.istore_n 2, 1) := by decide +kernel
theorem dM_grow_276 : decode bM_grow 276 = .ok (.iinc 7 (-1), 3) := by decide +kernel
theorem dM_grow_279 : decode bM_grow 279 = .ok (.goto (-86), 3) := by decide +kernel
theorem dM_grow_282 : decode bM_grow 282 = .ok (.goto (-241), 3) := by decide +kernel
theorem dM_grow_285 : decode bM_grow 285 = .ok (.return_, 1) := by decide +kernel
theorem dM_weight_0 : decode bM_weight 0 = .ok (.aload_n 0, 1) := by decide +kernel
theorem dM_weight_1 : decode bM_weight 1 = .ok (.aload_n 0, 1) := by decide +kernel
theorem dM_weight_2 : decode bM_weight 2 = .ok (.getfield 98, 3) := by decide +kernel
theorem dM_weight_5 : decode bM_weight 5 = .ok (.ifCond .eq (7), 3) := by decide +kernel
theorem dM_weight_8 : decode bM_weight 8 = .ok (.iconst 0, 1) := by decide +kernel
theorem dM_weight_9 : decode bM_weight 9 = .ok (.goto (4), 3) := by decide +kernel
theorem dM_weight_12 : decode bM_weight 12 = .ok (.iconst 1, 1) := by decide +kernel
theorem dM_weight_13 : decode bM_weight 13 = .ok (.putfield 76, 3) := by decide +kernel
theorem dM_weight_16 : decode bM_weight 16 = .ok (.aload_n 0, 1) := by decide +kernel
theorem dM_weight_17 : decode bM_weight 17 = .ok (.getfield 98, 3) := by decide +kernel
theorem dM_weight_20 : decode bM_weight 20 = .ok (.ifCond .eq (10), 3) := by decide +kernel
theorem dM_weight_23 : decode bM_weight 23 = .ok (.aload_n 0, 1) := by decide +kernel
theorem dM_weight_24 : decode bM_weight 24 = .ok (.getfield 179, 3) := by decide +kernel
theorem dM_weight_27 : decode bM_weight 27 = .ok (.goto (4), 3) := by decide +kernel
theorem dM_weight_30 : decode bM_weight 30 = .ok (.dconst 0, 1) := by decide +kernel
theorem dM_weight_31 : decode bM_weight 31 = .ok (.dreturn, 1) := by decide +kernel
theorem dM_node_0 : decode bM_node 0 = .ok (.aload_n 0, 1) := by decide +kernel
theorem dM_node_1 : decode bM_node 1 = .ok (.iload_n 2, 1) := by decide +kernel
theorem dM_node_2 : decode bM_node 2 = .ok (.iconst 0, 1) := by decide +kernel
theorem dM_node_3 : decode bM_node 3 = .ok (.iconst 3, 1) := by decide +kernel
theorem dM_node_4 : decode bM_node 4 = .ok (.invokestatic 79, 3) := by decide +kernel
theorem dM_node_7 : decode bM_node 7 = .ok (.invokevirtual 83, 3) := by decide +kernel
theorem dM_node_10 : decode bM_node 10 = .ok (.ifCond .eq (5), 3) := by decide +kernel
theorem dM_node_13 : decode bM_node 13 = .ok (.iconst 0, 1) := by decide +kernel
theorem dM_node_14 : decode bM_node 14 = .ok (.ireturn, 1) := by decide +kernel
theorem dM_node_15 : decode bM_node 15 = .ok (.aload_n 0, 1) := by decide +kernel
theorem dM_node_16 : decode bM_node 16 = .ok (.getfield 98, 3) := by decide +kernel
theorem dM_node_19 : decode bM_node 19 = .ok (.ifCond .eq (17), 3) := by decide +kernel
theorem dM_node_22 : decode bM_node 22 = .ok (.iload_n 1, 1) := by decide +kernel
theorem dM_node_23 : decode bM_node 23 = .ok (.iconst 0, 1) := by decide +kernel
theorem dM_node_24 : decode bM_node 24 = .ok (.aload_n 0, 1) := by decide +kernel
theorem dM_node_25 : decode bM_node 25 = .ok (.getfield 183, 3) := by decide +kernel
theorem dM_node_28 : decode bM_node 28 = .ok (.iconst 1, 1) := by decide +kernel
theorem dM_node_29 : decode bM_node 29 = .ok (.isub, 1) := by decide +kernel
theorem dM_node_30 : decode bM_node 30 = .ok (.invokestatic 79, 3) := by decide +kernel
theorem dM_node_33 : decode bM_node 33 = .ok (.ifCond .ne (9), 3) := by decide +kernel
theorem dM_node_36 : decode bM_node 36 = .ok (.aload_n 0, 1) := by decide +kernel
theorem dM_node_37 : decode bM_node 37 = .ok (.iconst 2, 1) := by decide +kernel
theorem dM_node_38 : decode bM_node 38 = .ok (.invokevirtual 90, 3) := by decide +kernel
theorem dM_node_41 : decode bM_node 41 = .ok (.ireturn, 1) := by decide +kernel
theorem dM_node_42 : decode bM_node 42 = .ok (.iload_n 2, 1) := by decide +kernel
theorem dM_node_43 : decode bM_node 43 = .ok (.ifCond .ne (12), 3) := by decide +kernel
theorem dM_node_46 : decode bM_node 46 = .ok (.aload_n 0, 1) := by decide +kernel
theorem dM_node_47 : decode bM_node 47 = .ok (.getfield 54, 3) := by decide +kernel
theorem dM_node_50 : decode bM_node 50 = .ok (.iload_n 1, 1) := by decide +kernel
theorem dM_node_51 : decode bM_node 51 = .ok (.iaload, 1) := by decide +kernel
theorem dM_node_52 : decode bM_node 52 = .ok (.goto (37), 3) := by decide +kernel
theorem dM_node_55 : decode bM_node 55 = .ok (.iload_n 2, 1) := by decide +kernel
theorem dM_node_56 : decode bM_node 56 = .ok (.iconst 1, 1) := by decide +kernel
theorem dM_node_57 : decode bM_node 57 = .ok (.if_icmp .ne (12), 3) := by decide +kernel
theorem dM_node_60 : decode bM_node 60 = .ok (.aload_n 0, 1) := by decide +kernel
theorem dM_node_61 : decode bM_node 61 = .ok (.getfield 57, 3) := by decide +kernel
theorem dM_node_64 : decode bM_node 64 = .ok (.iload_n 1, 1) := by decide +kernel
theorem dM_node_65 : decode bM_node 65 = .ok (.iaload, 1) := by decide +kernel
theorem dM_node_66 : decode bM_node 66 = .ok (.goto (23), 3) := by decide +kernel
theorem dM_node_69 : decode bM_node 69 = .ok (.iload_n 2, 1) := by decide +kernel
theorem dM_node_70 : decode bM_node 70 = .ok (.iconst 2, 1) := by decide +kernel
theorem dM_node_71 : decode bM_node 71 = .ok (.if_icmp .ne (12), 3) := by decide +kernel
theorem dM_node_74 : decode bM_node 74 = .ok (.aload_n 0, 1) := by decide +kernel
theorem dM_node_75 : decode bM_node 75 = .ok (.getfield 60, 3) := by decide +kernel
theorem dM_node_78 : decode bM_node 78 = .ok (.iload_n 1, 1) := by decide +kernel
theorem dM_node_79 : decode bM_node 79 = .ok (.iaload, 1) := by decide +kernel
theorem dM_node_80 : decode bM_node 80 = .ok (.goto (9), 3) := by decide +kernel
theorem dM_node_83 : decode bM_node 83 = .ok (.aload_n 0, 1) := by decide +kernel
theorem dM_node_84 : decode bM_node 84 = .ok (.getfield 66, 3) := by decide +kernel
theorem dM_node_87 : decode bM_node 87 = .ok (.iload_n 1, 1) := by decide +kernel
theorem dM_node_88 : decode bM_node 88 = .ok (.iaload, 1) := by decide +kernel
theorem dM_node_89 : decode bM_node 89 = .ok (.ireturn, 1) := by decide +kernel
theorem dM_many_0 : decode bM_many 0 = .ok (.aload_n 0, 1) := by decide +kernel
theorem dM_many_1 : decode bM_many 1 = .ok (.aload_n 0, 1) := by decide +kernel
theorem dM_many_2 : decode bM_many 2 = .ok (.iload_n 1, 1) := by decide +kernel
theorem dM_many_3 : decode bM_many 3 = .ok (.invokevirtual 123, 3) := by decide +kernel
theorem dM_many_6 : decode bM_many 6 = .ok (.invokevirtual 83, 3) := by decide +kernel
theorem dM_many_9 : decode bM_many 9 = .ok (.ifCond .eq (5), 3) := by decide +kernel
theorem dM_many_12 : decode bM_many 12 = .ok (.iconst 0, 1) := by decide +kernel
theorem dM_many_13 : decode bM_many 13 = .ok (.ireturn, 1) := by decide +kernel
theorem dM_many_14 : decode bM_many 14 = .ok (.aload_n 0, 1) := by decide +kernel
theorem dM_many_15 : decode bM_many 15 = .ok (.getfield 94, 3) := by decide +kernel
theorem dM_many_18 : decode bM_many 18 = .ok (.ifCond .eq (20), 3) := by decide +kernel
theorem dM_many_21 : decode bM_many 21 = .ok (.iload_n 2, 1) := by decide +kernel
theorem dM_many_22 : decode bM_many 22 = .ok (.ifCond .lt (16), 3) := by decide +kernel
theorem dM_many_25 : decode bM_many 25 = .ok (.iload_n 3, 1) := by decide +kernel
theorem dM_many_26 : decode bM_many 26 = .ok (.aload_n 0, 1) := by decide +kernel
theorem dM_many_27 : decode bM_many 27 = .ok (.getfield 161, 3) := by decide +kernel
theorem dM_many_30 : decode bM_many 30 = .ok (.if_icmp .gt (8), 3) := by decide +kernel
theorem dM_many_33 : decode bM_many 33 = .ok (.iload_n 2, 1) := by decide +kernel
theorem dM_many_34 : decode bM_many 34 = .ok (.iload_n 3, 1) := by decide +kernel
theorem dM_many_35 : decode bM_many 35 = .ok (.if_icmp .lt (9), 3) := by decide +kernel
theorem dM_many_38 : decode bM_many 38 = .ok (.aload_n 0, 1) := by decide +kernel
theorem dM_many_39 : decode bM_many 39 = .ok (.iconst 2, 1) := by decide +kernel
theorem dM_many_40 : decode bM_many 40 = .ok (.invokevirtual 90, 3) := by decide +kernel
theorem dM_many_43 : decode bM_many 43 = .ok (.ireturn, 1) := by decide +kernel
theorem dM_many_44 : decode bM_many 44 = .ok (.aload_n 0, 1) := by decide +kernel
theorem dM_many_45 : decode bM_many 45 = .ok (.getfield 51, 3) := by decide +kernel
theorem dM_many_48 : decode bM_many 48 = .ok (.iload_n 1, 1) := by decide +kernel
theorem dM_many_49 : decode bM_many 49 = .ok (.sipush 225, 3) := by decide +kernel
theorem dM_many_52 : decode bM_many 52 = .ok (.imul, 1) := by decide +kernel
theorem dM_many_53 : decode bM_many 53 = .ok (.iload_n 2, 1) := by decide +kernel
theorem dM_many_54 : decode bM_many 54 = .ok (.iload_n 3, 1) := by decide +kernel
theorem dM_many_55 : decode bM_many 55 = .ok (.invokestatic 129, 3) := by decide +kernel
theorem dM_many_58 : decode bM_many 58 = .ok (.iadd, 1) := by decide +kernel
theorem dM_many_59 : decode bM_many 59 = .ok (.iaload, 1) := by decide +kernel
theorem dM_many_60 : decode bM_many 60 = .ok (.ireturn, 1) := by decide +kernel
theorem dM_count1_0 : decode bM_count1 0 = .ok (.aload_n 0, 1) := by decide +kernel
theorem dM_count1_1 : decode bM_count1 1 = .ok (.iconst 0, 1) := by decide +kernel
theorem dM_count1_2 : decode bM_count1 2 = .ok (.putfield 76, 3) := by decide +kernel
theorem dM_count1_5 : decode bM_count1 5 = .ok (.iload_n 1, 1) := by decide +kernel
theorem dM_count1_6 : decode bM_count1 6 = .ok (.tableswitch 81 0 4 #[34, 39, 44, 49, 65], 34) := by decide +kernel
theorem dM_count1_40 : decode bM_count1 40 = .ok (.aload_n 0, 1) := by decide +kernel
theorem dM_count1_41 : decode bM_count1 41 = .ok (.getfield 101, 3) := by decide +kernel
theorem dM_count1_44 : decode bM_count1 44 = .ok (.ireturn, 1) := by decide +kernel
theorem dM_count1_45 : decode bM_count1 45 = .ok (.aload_n 0, 1) := by decide +kernel
theorem dM_count1_46 : decode bM_count1 46 = .ok (.getfield 72, 3) := by decide +kernel
theorem dM_count1_49 : decode bM_count1 49 = .ok (.ireturn, 1) := by decide +kernel
theorem dM_count1_50 : decode bM_count1 50 = .ok (.aload_n 0, 1) := by decide +kernel
theorem dM_count1_51 : decode bM_count1 51 = .ok (.getfield 87, 3) := by decide +kernel
theorem dM_count1_54 : decode bM_count1 54 = .ok (.ireturn, 1) := by decide +kernel
theorem dM_count1_55 : decode bM_count1 55 = .ok (.aload_n 0, 1) := by decide +kernel
theorem dM_count1_56 : decode bM_count1 56 = .ok (.getfield 98, 3) := by decide +kernel
theorem dM_count1_59 : decode bM_count1 59 = .ok (.ifCond .eq (10), 3) := by decide +kernel
theorem dM_count1_62 : decode bM_count1 62 = .ok (.aload_n 0, 1) := by decide +kernel
theorem dM_count1_63 : decode bM_count1 63 = .ok (.getfield 183, 3) := by decide +kernel
theorem dM_count1_66 : decode bM_count1 66 = .ok (.goto (4), 3) := by decide +kernel
theorem dM_count1_69 : decode bM_count1 69 = .ok (.iconst 0, 1) := by decide +kernel
theorem dM_count1_70 : decode bM_count1 70 = .ok (.ireturn, 1) := by decide +kernel
theorem dM_count1_71 : decode bM_count1 71 = .ok (.aload_n 0, 1) := by decide +kernel
theorem dM_count1_72 : decode bM_count1 72 = .ok (.getfield 94, 3) := by decide +kernel
theorem dM_count1_75 : decode bM_count1 75 = .ok (.ifCond .eq (10), 3) := by decide +kernel
theorem dM_count1_78 : decode bM_count1 78 = .ok (.aload_n 0, 1) := by decide +kernel
theorem dM_count1_79 : decode bM_count1 79 = .ok (.getfield 161, 3) := by decide +kernel
theorem dM_count1_82 : decode bM_count1 82 = .ok (.goto (4), 3) := by decide +kernel
theorem dM_count1_85 : decode bM_count1 85 = .ok (.iconst 0, 1) := by decide +kernel
theorem dM_count1_86 : decode bM_count1 86 = .ok (.ireturn, 1) := by decide +kernel
theorem dM_count1_87 : decode bM_count1 87 = .ok (.iconst (-1), 1) := by decide +kernel
theorem dM_count1_88 : decode bM_count1 88 = .ok (.ireturn, 1) := by decide +kernel
