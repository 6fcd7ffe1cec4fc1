theorem dL_type_0 : decode bL_type 0 = .ok (.aload_n 3, 1) := by decide +kernel
theorem dL_type_1 : decode bL_type 1 = .ok (.iconst 0, 1) := by decide +kernel
theorem dL_type_2 : decode bL_type 2 = .ok (.aload_n 0, 1) := by decide +kernel
theorem dL_type_3 : decode bL_type 3 = .ok (.lload_n 1, 1) := by decide +kernel
theorem dL_type_4 : decode bL_type 4 = .ok (.invokevirtual 7, 3) := by decide +kernel
theorem dL_type_7 : decode bL_type 7 = .ok (.i2l, 1) := by decide +kernel
theorem dL_type_8 : decode bL_type 8 = .ok (.lastore, 1) := by decide +kernel
theorem dL_type_9 : decode bL_type 9 = .ok (.goto (11), 3) := by decide +kernel
theorem dL_type_12 : decode bL_type 12 = .ok (.astore 4, 2) := by decide +kernel
theorem dL_type_14 : decode bL_type 14 = .ok (.iconst 1, 1) := by decide +kernel
theorem dL_type_15 : decode bL_type 15 = .ok (.ireturn, 1) := by decide +kernel
theorem dL_type_16 : decode bL_type 16 = .ok (.astore 4, 2) := by decide +kernel
theorem dL_type_18 : decode bL_type 18 = .ok (.iconst 2, 1) := by decide +kernel
theorem dL_type_19 : decode bL_type 19 = .ok (.ireturn, 1) := by decide +kernel
theorem dL_type_20 : decode bL_type 20 = .ok (.iconst 0, 1) := by decide +kernel
theorem dL_type_21 : decode bL_type 21 = .ok (.ireturn, 1) := by decide +kernel
theorem dL_rule_0 : decode bL_rule 0 = .ok (.aload_n 3, 1) := by decide +kernel
theorem dL_rule_1 : decode bL_rule 1 = .ok (.iconst 0, 1) := by decide +kernel
theorem dL_rule_2 : decode bL_rule 2 = .ok (.aload_n 0, 1) := by decide +kernel
theorem dL_rule_3 : decode bL_rule 3 = .ok (.dload_n 1, 1) := by decide +kernel
theorem dL_rule_4 : decode bL_rule 4 = .ok (.invokevirtual 17, 3) := by decide +kernel
theorem dL_rule_7 : decode bL_rule 7 = .ok (.i2l, 1) := by decide +kernel
theorem dL_rule_8 : decode bL_rule 8 = .ok (.lastore, 1) := by decide +kernel
theorem dL_rule_9 : decode bL_rule 9 = .ok (.goto (15), 3) := by decide +kernel
theorem dL_rule_12 : decode bL_rule 12 = .ok (.astore 4, 2) := by decide +kernel
theorem dL_rule_14 : decode bL_rule 14 = .ok (.iconst 1, 1) := by decide +kernel
theorem dL_rule_15 : decode bL_rule 15 = .ok (.ireturn, 1) := by decide +kernel
theorem dL_rule_16 : decode bL_rule 16 = .ok (.astore 4, 2) := by decide +kernel
theorem dL_rule_18 : decode bL_rule 18 = .ok (.iconst 2, 1) := by decide +kernel
theorem dL_rule_19 : decode bL_rule 19 = .ok (.ireturn, 1) := by decide +kernel
theorem dL_rule_20 : decode bL_rule 20 = .ok (.astore 4, 2) := by decide +kernel
theorem dL_rule_22 : decode bL_rule 22 = .ok (.iconst 3, 1) := by decide +kernel
theorem dL_rule_23 : decode bL_rule 23 = .ok (.ireturn, 1) := by decide +kernel
theorem dL_rule_24 : decode bL_rule 24 = .ok (.iconst 0, 1) := by decide +kernel
theorem dL_rule_25 : decode bL_rule 25 = .ok (.ireturn, 1) := by decide +kernel
theorem dL_mark_0 : decode bL_mark 0 = .ok (.aload_n 0, 1) := by decide +kernel
theorem dL_mark_1 : decode bL_mark 1 = .ok (.iload_n 1, 1) := by decide +kernel
theorem dL_mark_2 : decode bL_mark 2 = .ok (.iload_n 2, 1) := by decide +kernel
theorem dL_mark_3 : decode bL_mark 3 = .ok (.invokevirtual 23, 3) := by decide +kernel
theorem dL_mark_6 : decode bL_mark 6 = .ok (.goto (6), 3) := by decide +kernel
theorem dL_mark_9 : decode bL_mark 9 = .ok (.astore_n 3, 1) := by decide +kernel
theorem dL_mark_10 : decode bL_mark 10 = .ok (.iconst 1, 1) := by decide +kernel
theorem dL_mark_11 : decode bL_mark 11 = .ok (.ireturn, 1) := by decide +kernel
theorem dL_mark_12 : decode bL_mark 12 = .ok (.iconst 0, 1) := by decide +kernel
theorem dL_mark_13 : decode bL_mark 13 = .ok (.ireturn, 1) := by decide +kernel
theorem dL_bar_0 : decode bL_bar 0 = .ok (.aload_n 0, 1) := by decide +kernel
theorem dL_bar_1 : decode bL_bar 1 = .ok (.iload_n 1, 1) := by decide +kernel
theorem dL_bar_2 : decode bL_bar 2 = .ok (.iload_n 2, 1) := by decide +kernel
theorem dL_bar_3 : decode bL_bar 3 = .ok (.iload_n 3, 1) := by decide +kernel
theorem dL_bar_4 : decode bL_bar 4 = .ok (.invokevirtual 27, 3) := by decide +kernel
theorem dL_bar_7 : decode bL_bar 7 = .ok (.goto (7), 3) := by decide +kernel
theorem dL_bar_10 : decode bL_bar 10 = .ok (.astore 4, 2) := by decide +kernel
theorem dL_bar_12 : decode bL_bar 12 = .ok (.iconst 1, 1) := by decide +kernel
theorem dL_bar_13 : decode bL_bar 13 = .ok (.ireturn, 1) := by decide +kernel
theorem dL_bar_14 : decode bL_bar 14 = .ok (.iconst 0, 1) := by decide +kernel
theorem dL_bar_15 : decode bL_bar 15 = .ok (.ireturn, 1) := by decide +kernel
theorem dL_follow_0 : decode bL_follow 0 = .ok (.aload_n 0, 1) := by decide +kernel
theorem dL_follow_1 : decode bL_follow 1 = .ok (.iload_n 1, 1) := by decide +kernel
theorem dL_follow_2 : decode bL_follow 2 = .ok (.iload_n 2, 1) := by decide +kernel
theorem dL_follow_3 : decode bL_follow 3 = .ok (.iload_n 3, 1) := by decide +kernel
theorem dL_follow_4 : decode bL_follow 4 = .ok (.invokevirtual 31, 3) := by decide +kernel
theorem dL_follow_7 : decode bL_follow 7 = .ok (.goto (7), 3) := by decide +kernel
theorem dL_follow_10 : decode bL_follow 10 = .ok (.astore 4, 2) := by decide +kernel
theorem dL_follow_12 : decode bL_follow 12 = .ok (.iconst 1, 1) := by decide +kernel
theorem dL_follow_13 : decode bL_follow 13 = .ok (.ireturn, 1) := by decide +kernel
theorem dL_follow_14 : decode bL_follow 14 = .ok (.iconst 0, 1) := by decide +kernel
theorem dL_follow_15 : decode bL_follow 15 = .ok (.ireturn, 1) := by decide +kernel
theorem dL_undo_0 : decode bL_undo 0 = .ok (.aload_n 0, 1) := by decide +kernel
theorem dL_undo_1 : decode bL_undo 1 = .ok (.invokevirtual 34, 3) := by decide +kernel
theorem dL_undo_4 : decode bL_undo 4 = .ok (.goto (6), 3) := by decide +kernel
theorem dL_undo_7 : decode bL_undo 7 = .ok (.astore_n 1, 1) := by decide +kernel
theorem dL_undo_8 : decode bL_undo 8 = .ok (.iconst 1, 1) := by decide +kernel
theorem dL_undo_9 : decode bL_undo 9 = .ok (.ireturn, 1) := by decide +kernel
theorem dL_undo_10 : decode bL_undo 10 = .ok (.iconst 0, 1) := by decide +kernel
theorem dL_undo_11 : decode bL_undo 11 = .ok (.ireturn, 1) := by decide +kernel
theorem dL_parse_0 : decode bL_parse 0 = .ok (.aload_n 2, 1) := by decide +kernel
theorem dL_parse_1 : decode bL_parse 1 = .ok (.iconst 0, 1) := by decide +kernel
theorem dL_parse_2 : decode bL_parse 2 = .ok (.aload_n 0, 1) := by decide +kernel
theorem dL_parse_3 : decode bL_parse 3 = .ok (.iload_n 1, 1) := by decide +kernel
theorem dL_parse_4 : decode bL_parse 4 = .ok (.invokevirtual 39, 3) := by decide +kernel
theorem dL_parse_7 : decode bL_parse 7 = .ok (.i2l, 1) := by decide +kernel
theorem dL_parse_8 : decode bL_parse 8 = .ok (.lastore, 1) := by decide +kernel
theorem dL_parse_9 : decode bL_parse 9 = .ok (.goto (9), 3) := by decide +kernel
theorem dL_parse_12 : decode bL_parse 12 = .ok (.astore_n 3, 1) := by decide +kernel
theorem dL_parse_13 : decode bL_parse 13 = .ok (.iconst 1, 1) := by decide +kernel
theorem dL_parse_14 : decode bL_parse 14 = .ok (.ireturn, 1) := by decide +kernel
theorem dL_parse_15 : decode bL_parse 15 = .ok (.astore_n 3, 1) := by decide +kernel
theorem dL_parse_16 : decode bL_parse 16 = .ok (.iconst 2, 1) := by decide +kernel
theorem dL_parse_17 : decode bL_parse 17 = .ok (.ireturn, 1) := by decide +kernel
theorem dL_parse_18 : decode bL_parse 18 = .ok (.iconst 0, 1) := by decide +kernel
theorem dL_parse_19 : decode bL_parse 19 = .ok (.ireturn, 1) := by decide +kernel
theorem dL_weight_0 : decode bL_weight 0 = .ok (.aload_n 1, 1) := by decide +kernel
theorem dL_weight_1 : decode bL_weight 1 = .ok (.iconst 0, 1) := by decide +kernel
theorem dL_weight_2 : decode bL_weight 2 = .ok (.aload_n 0, 1) := by decide +kernel
theorem dL_weight_3 : decode bL_weight 3 = .ok (.invokevirtual 43, 3) := by decide +kernel
theorem dL_weight_6 : decode bL_weight 6 = .ok (.dastore, 1) := by decide +kernel
theorem dL_weight_7 : decode bL_weight 7 = .ok (.goto (6), 3) := by decide +kernel
theorem dL_weight_10 : decode bL_weight 10 = .ok (.astore_n 2, 1) := by decide +kernel
theorem dL_weight_11 : decode bL_weight 11 = .ok (.iconst 1, 1) := by decide +kernel
theorem dL_weight_12 : decode bL_weight 12 = .ok (.ireturn, 1) := by decide +kernel
theorem dL_weight_13 : decode bL_weight 13 = .ok (.iconst 0, 1) := by decide +kernel
theorem dL_weight_14 : decode bL_weight 14 = .ok (.ireturn, 1) := by decide +kernel
theorem dL_node_0 : decode bL_node 0 = .ok (.aload_n 3, 1) := by decide +kernel
theorem dL_node_1 : decode bL_node 1 = .ok (.iconst 0, 1) := by decide +kernel
theorem dL_node_2 : decode bL_node 2 = .ok (.aload_n 0, 1) := by decide +kernel
theorem dL_node_3 : decode bL_node 3 = .ok (.iload_n 1, 1) := by decide +kernel
theorem dL_node_4 : decode bL_node 4 = .ok (.iload_n 2, 1) := by decide +kernel
theorem dL_node_5 : decode bL_node 5 = .ok (.invokevirtual 47, 3) := by decide +kernel
theorem dL_node_8 : decode bL_node 8 = .ok (.i2l, 1) := by decide +kernel
theorem dL_node_9 : decode bL_node 9 = .ok (.lastore, 1) := by decide +kernel
theorem dL_node_10 : decode bL_node 10 = .ok (.goto (11), 3) := by decide +kernel
theorem dL_node_13 : decode bL_node 13 = .ok (.astore 4, 2) := by decide +kernel
theorem dL_node_15 : decode bL_node 15 = .ok (.iconst 1, 1) := by decide +kernel
theorem dL_node_16 : decode bL_node 16 = .ok (.ireturn, 1) := by decide +kernel
theorem dL_node_17 : decode bL_node 17 = .ok (.astore 4, 2) := by decide +kernel
theorem dL_node_19 : decode bL_node 19 = .ok (.iconst 2, 1) := by decide +kernel
theorem dL_node_20 : decode bL_node 20 = .ok (.ireturn, 1) := by decide +kernel
theorem dL_node_21 : decode bL_node 21 = .ok (.iconst 0, 1) := by decide +kernel
theorem dL_node_22 : decode bL_node 22 = .ok (.ireturn, 1) := by decide +kernel
theorem dL_many_0 : decode bL_many 0 = .ok (.aload 4, 2) := by decide +kernel
theorem dL_many_2 : decode bL_many 2 = .ok (.iconst 0, 1) := by decide +kernel
theorem dL_many_3 : decode bL_many 3 = .ok (.aload_n 0, 1) := by decide +kernel
theorem dL_many_4 : decode bL_many 4 = .ok (.iload_n 1, 1) := by decide +kernel
theorem dL_many_5 : decode bL_many 5 = .ok (.iload_n 2, 1) := by decide +kernel
theorem dL_many_6 : decode bL_many 6 = .ok (.iload_n 3, 1) := by decide +kernel
theorem dL_many_7 : decode bL_many 7 = .ok (.invokevirtual 51, 3) := by decide +kernel
theorem dL_many_10 : decode bL_many 10 = .ok (.i2l, 1) := by decide +kernel
theorem dL_many_11 : decode bL_many 11 = .ok (.lastore, 1) := by decide +kernel
theorem dL_many_12 : decode bL_many 12 = .ok (.goto (11), 3) := by decide +kernel
theorem dL_many_15 : decode bL_many 15 = .ok (.astore 5, 2) := by decide +kernel
theorem dL_many_17 : decode bL_many 17 = .ok (.iconst 1, 1) := by decide +kernel
theorem dL_many_18 : decode bL_many 18 = .ok (.ireturn, 1) := by decide +kernel
theorem dL_many_19 : decode bL_many 19 = .ok (.astore 5, 2) := by decide +kernel
theorem dL_many_21 : decode bL_many 21 = .ok (.iconst 2, 1) := by decide +kernel
theorem dL_many_22 : decode bL_many 22 = .ok (.ireturn, 1) := by decide +kernel
theorem dL_many_23 : decode bL_many 23 = .ok (.iconst 0, 1) := by decide +kernel
theorem dL_many_24 : decode bL_many 24 = .ok (.ireturn, 1) := by decide +kernel
theorem dL_law_0 : decode bL_law 0 = .ok (.new 8, 3) := by decide +kernel
theorem dL_law_3 : decode bL_law 3 = .ok (.dup, 1) := by decide +kernel
theorem dL_law_4 : decode bL_law 4 = .ok (.invokespecial 55, 3) := by decide +kernel
theorem dL_law_7 : decode bL_law 7 = .ok (.astore_n 1, 1) := by decide +kernel
theorem dL_law_8 : decode bL_law 8 = .ok (.new 56, 3) := by decide +kernel
theorem dL_law_11 : decode bL_law 11 = .ok (.dup, 1) := by decide +kernel
theorem dL_law_12 : decode bL_law 12 = .ok (.invokespecial 58, 3) := by decide +kernel
theorem dL_law_15 : decode bL_law 15 = .ok (.astore_n 2, 1) := by decide +kernel
theorem dL_law_16 : decode bL_law 16 = .ok (.iconst 1, 1) := by decide +kernel
theorem dL_law_17 : decode bL_law 17 = .ok (.newarray .long, 2) := by decide +kernel
theorem dL_law_19 : decode bL_law 19 = .ok (.astore_n 3, 1) := by decide +kernel
theorem dL_law_20 : decode bL_law 20 = .ok (.iconst 1, 1) := by decide +kernel
theorem dL_law_21 : decode bL_law 21 = .ok (.newarray .double, 2) := by decide +kernel
theorem dL_law_23 : decode bL_law 23 = .ok (.astore 4, 2) := by decide +kernel
theorem dL_law_25 : decode bL_law 25 = .ok (.iconst 0, 1) := by decide +kernel
theorem dL_law_26 : decode bL_law 26 = .ok (.istore 5, 2) := by decide +kernel
theorem dL_law_28 : decode bL_law 28 = .ok (.iload 5, 2) := by decide +kernel
theorem dL_law_30 : decode bL_law 30 = .ok (.aload_n 0, 1) := by decide +kernel
theorem dL_law_31 : decode bL_law 31 = .ok (.arraylength, 1) := by decide +kernel
theorem dL_law_32 : decode bL_law 32 = .ok (.iconst 4, 1) := by decide +kernel
theorem dL_law_33 : decode bL_law 33 = .ok (.isub, 1) := by decide +kernel
theorem dL_law_34 : decode bL_law 34 = .ok (.if_icmp .gt (748), 3) := by decide +kernel
theorem dL_law_37 : decode bL_law 37 = .ok (.aload_n 0, 1) := by decide +kernel
theorem dL_law_38 : decode bL_law 38 = .ok (.iload 5, 2) := by decide +kernel
theorem dL_law_40 : decode bL_law 40 = .ok (.iaload, 1) := by decide +kernel
theorem dL_law_41 : decode bL_law 41 = .ok (.bipush 15, 2) := by decide +kernel
theorem dL_law_43 : decode bL_law 43 = .ok (.iand, 1) := by decide +kernel
theorem dL_law_44 : decode bL_law 44 = .ok (.tableswitch 732 0 10 #[60, 148, 214, 262, 338, 414, 438, 494, 559, 627, 707], 60) := by decide +kernel
theorem dL_law_104 : decode bL_law 104 = .ok (.aload_n 1, 1) := by decide +kernel
theorem dL_law_105 : decode bL_law 105 = .ok (.aload_n 0, 1) := by decide +kernel
theorem dL_law_106 : decode bL_law 106 = .ok (.iload 5, 2) := by decide +kernel
theorem dL_law_108 : decode bL_law 108 = .ok (.iconst 1, 1) := by decide +kernel
theorem dL_law_109 : decode bL_law 109 = .ok (.iadd, 1) := by decide +kernel
theorem dL_law_110 : decode bL_law 110 = .ok (.iaload, 1) := by decide +kernel
theorem dL_law_111 : decode bL_law 111 = .ok (.i2l, 1) := by decide +kernel
theorem dL_law_112 : decode bL_law 112 = .ok (.bipush 32, 2) := by decide +kernel
theorem dL_law_114 : decode bL_law 114 = .ok (.lshl, 1) := by decide +kernel
theorem dL_law_115 : decode bL_law 115 = .ok (.aload_n 0, 1) := by decide +kernel
theorem dL_law_116 : decode bL_law 116 = .ok (.iload 5, 2) := by decide +kernel
theorem dL_law_118 : decode bL_law 118 = .ok (.iconst 2, 1) := by decide +kernel
theorem dL_law_119 : decode bL_law 119 = .ok (.iadd, 1) := by decide +kernel
theorem dL_law_120 : decode bL_law 120 = .ok (.iaload, 1) := by decide +kernel
theorem dL_law_121 : decode bL_law 121 = .ok (.i2l, 1) := by decide +kernel
theorem dL_law_122 : decode bL_law 122 = .ok (.ldc2_w 59, 3) := by decide +kernel
theorem dL_law_125 : decode bL_law 125 = .ok (.land, 1) := by decide +kernel
theorem dL_law_126 : decode bL_law 126 = .ok (.lor, 1) := by decide +kernel
theorem dL_law_127 : decode bL_law 127 = .ok (.aload_n 3, 1) := by decide +kernel
theorem dL_law_128 : decode bL_law 128 = .ok (.invokestatic 61, 3) := by decide +kernel
theorem dL_law_131 : decode bL_law 131 = .ok (.istore 6, 2) := by decide +kernel
theorem dL_law_133 : decode bL_law 133 = .ok (.aload_n 2, 1) := by decide +kernel
theorem dL_law_134 : decode bL_law 134 = .ok (.aload_n 0, 1) := by decide +kernel
theorem dL_law_135 : decode bL_law 135 = .ok (.iload 5, 2) := by decide +kernel
theorem dL_law_137 : decode bL_law 137 = .ok (.iconst 1, 1) := by decide +kernel
theorem dL_law_138 : decode bL_law 138 = .ok (.iadd, 1) := by decide +kernel
theorem dL_law_139 : decode bL_law 139 = .ok (.iaload, 1) := by decide +kernel
theorem dL_law_140 : decode bL_law 140 = .ok (.i2l, 1) := by decide +kernel
theorem dL_law_141 : decode bL_law 141 = .ok (.bipush 32, 2) := by decide +kernel
theorem dL_law_143 : decode bL_law 143 = .ok (.lshl, 1) := by decide +kernel
theorem dL_law_144 : decode bL_law 144 = .ok (.aload_n 0, 1) := by decide +kernel
theorem dL_law_145 : decode bL_law 145 = .ok (.iload 5, 2) := by decide +kernel
theorem dL_law_147 : decode bL_law 147 = .ok (.iconst 2, 1) := by decide +kernel
theorem dL_law_148 : decode bL_law 148 = .ok (.iadd, 1) := by decide +kernel
theorem dL_law_149 : decode bL_law 149 = .ok (.iaload, 1) := by decide +kernel
theorem dL_law_150 : decode bL_law 150 = .ok (.i2l, 1) := by decide +kernel
theorem dL_law_151 : decode bL_law 151 = .ok (.ldc2_w 59, 3) := by decide +kernel
theorem dL_law_154 : decode bL_law 154 = .ok (.land, 1) := by decide +kernel
theorem dL_law_155 : decode bL_law 155 = .ok (.lor, 1) := by decide +kernel
theorem dL_law_156 : decode bL_law 156 = .ok (.invokevirtual 66, 3) := by decide +kernel
theorem dL_law_159 : decode bL_law 159 = .ok (.istore 7, 2) := by decide +kernel
theorem dL_law_161 : decode bL_law 161 = .ok (.aload_n 2, 1) := by decide +kernel
theorem dL_law_162 : decode bL_law 162 = .ok (.invokevirtual 67, 3) := by decide +kernel
theorem dL_law_165 : decode bL_law 165 = .ok (.iload 6, 2) := by decide +kernel
theorem dL_law_167 : decode bL_law 167 = .ok (.if_icmp .eq (5), 3) := by decide +kernel
theorem dL_law_170 : decode bL_law 170 = .ok (.iconst 0, 1) := by decide +kernel
theorem dL_law_171 : decode bL_law 171 = .ok (.ireturn, 1) := by decide +kernel
theorem dL_law_172 : decode bL_law 172 = .ok (.iload 6, 2) := by decide +kernel
theorem dL_law_174 : decode bL_law 174 = .ok (.ifCond .ne (15), 3) := by decide +kernel
theorem dL_law_177 : decode bL_law 177 = .ok (.aload_n 3, 1) := by decide +kernel
theorem dL_law_178 : decode bL_law 178 = .ok (.iconst 0, 1) := by decide +kernel
theorem dL_law_179 : decode bL_law 179 = .ok (.laload, 1) := by decide +kernel
theorem dL_law_180 : decode bL_law 180 = .ok (.iload 7, 2) := by decide +kernel
theorem dL_law_182 : decode bL_law 182 = .ok (.i2l, 1) := by decide +kernel
theorem dL_law_183 : decode bL_law 183 = .ok (.lcmp, 1) := by decide +kernel
theorem dL_law_184 : decode bL_law 184 = .ok (.ifCond .eq (5), 3) := by decide +kernel
theorem dL_law_187 : decode bL_law 187 = .ok (.iconst 0, 1) := by decide +kernel
theorem dL_law_188 : decode bL_law 188 = .ok (.ireturn, 1) := by decide +kernel
theorem dL_law_189 : decode bL_law 189 = .ok (.goto (587), 3) := by decide +kernel
theorem dL_law_192 : decode bL_law 192 = .ok (.aload_n 1, 1) := by decide +kernel
theorem dL_law_193 : decode bL_law 193 = .ok (.aload_n 0, 1) := by decide +kernel
theorem dL_law_194 : decode bL_law 194 = .ok (.iload 5, 2) := by decide +kernel
theorem dL_law_196 : decode bL_law 196 = .ok (.iconst 1, 1) := by decide +kernel
theorem dL_law_197 : decode bL_law 197 = .ok (.iadd, 1) := by decide +kernel
theorem dL_law_198 : decode bL_law 198 = .ok (.iaload, 1) := by decide +kernel
theorem dL_law_199 : decode bL_law 199 = .ok (.i2d, 1) := by decide +kernel
theorem dL_law_200 : decode bL_law 200 = .ok (.ldc2_w 71, 3) := by decide +kernel
theorem dL_law_203 : decode bL_law 203 = .ok (.dmul, 1) := by decide +kernel
theorem dL_law_204 : decode bL_law 204 = .ok (.aload_n 3, 1) := by decide +kernel
theorem dL_law_205 : decode bL_law 205 = .ok (.invokestatic 73, 3) := by decide +kernel
theorem dL_law_208 : decode bL_law 208 = .ok (.istore 6, 2) := by decide +kernel
theorem dL_law_210 : decode bL_law 210 = .ok (.aload_n 2, 1) := by decide +kernel
theorem dL_law_211 : decode bL_law 211 = .ok (.aload_n 0, 1) := by decide +kernel
theorem dL_law_212 : decode bL_law 212 = .ok (.iload 5, 2) := by decide +kernel
theorem dL_law_214 : decode bL_law 214 = .ok (.iconst 1, 1) := by decide +kernel
theorem dL_law_215 : decode bL_law 215 = .ok (.iadd, 1) := by decide +kernel
theorem dL_law_216 : decode bL_law 216 = .ok (.iaload, 1) := by decide +kernel
theorem dL_law_217 : decode bL_law 217 = .ok (.i2d, 1) := by decide +kernel
theorem dL_law_218 : decode bL_law 218 = .ok (.ldc2_w 71, 3) := by decide +kernel
theorem dL_law_221 : decode bL_law 221 = .ok (.dmul, 1) := by decide +kernel
theorem dL_law_222 : decode bL_law 222 = .ok (.invokevirtual 76, 3) := by decide +kernel
theorem dL_law_225 : decode bL_law 225 = .ok (.istore 7, 2) := by decide +kernel
theorem dL_law_227 : decode bL_law 227 = .ok (.aload_n 2, 1) := by decide +kernel
theorem dL_law_228 : decode bL_law 228 = .ok (.invokevirtual 67, 3) := by decide +kernel
theorem dL_law_231 : decode bL_law 231 = .ok (.iload 6, 2) := by decide +kernel
theorem dL_law_233 : decode bL_law 233 = .ok (.if_icmp .eq (5), 3) := by decide +kernel
theorem dL_law_236 : decode bL_law 236 = .ok (.iconst 0, 1) := by decide +kernel
theorem dL_law_237 : decode bL_law 237 = .ok (.ireturn, 1) := by decide +kernel
theorem dL_law_238 : decode bL_law 238 = .ok (.iload 6, 2) := by decide +kernel
theorem dL_law_240 : decode bL_law 240 = .ok (.ifCond .ne (15), 3) := by decide +kernel
theorem dL_law_243 : decode bL_law 243 = .ok (.aload_n 3, 1) := by decide +kernel
theorem dL_law_244 : decode bL_law 244 = .ok (.iconst 0, 1) := by decide +kernel
theorem dL_law_245 : decode bL_law 245 = .ok (.laload, 1) := by decide +kernel
theorem dL_law_246 : decode bL_law 246 = .ok (.iload 7, 2) := by decide +kernel
theorem dL_law_248 : decode bL_law 248 = .ok (.i2l, 1) := by decide +kernel
theorem dL_law_249 : decode bL_law 249 = .ok (.lcmp, 1) := by decide +kernel
theorem dL_law_250 : decode bL_law 250 = .ok (.ifCond .eq (5), 3) := by decide +kernel
theorem dL_law_253 : decode bL_law 253 = .ok (.iconst 0, 1) := by decide +kernel
theorem dL_law_254 : decode bL_law 254 = .ok (.ireturn, 1) := by decide +kernel
theorem dL_law_255 : decode bL_law 255 = .ok (.goto (521), 3) := by decide +kernel
theorem dL_law_258 : decode bL_law 258 = .ok (.aload_n 1, 1) := by decide +kernel
theorem dL_law_259 : decode bL_law 259 = .ok (.aload_n 0, 1) := by decide +kernel
theorem dL_law_260 : decode bL_law 260 = .ok (.iload 5, 2) := by decide +kernel
theorem dL_law_262 : decode bL_law 262 = .ok (.iconst 1, 1) := by decide +kernel
theorem dL_law_263 : decode bL_law 263 = .ok (.iadd, 1) := by decide +kernel
theorem dL_law_264 : decode bL_law 264 = .ok (.iaload, 1) := by decide +kernel
theorem dL_law_265 : decode bL_law 265 = .ok (.aload_n 0, 1) := by decide +kernel
theorem dL_law_266 : decode bL_law 266 = .ok (.iload 5, 2) := by decide +kernel
theorem dL_law_268 : decode bL_law 268 = .ok (.iconst 2, 1) := by decide +kernel
theorem dL_law_269 : decode bL_law 269 = .ok (.iadd, 1) := by decide +kernel
theorem dL_law_270 : decode bL_law 270 = .ok (.iaload, 1) := by decide +kernel
theorem dL_law_271 : decode bL_law 271 = .ok (.invokestatic 77, 3) := by decide +kernel
theorem dL_law_274 : decode bL_law 274 = .ok (.istore 6, 2) := by decide +kernel
theorem dL_law_276 : decode bL_law 276 = .ok (.aload_n 2, 1) := by decide +kernel
theorem dL_law_277 : decode bL_law 277 = .ok (.aload_n 0, 1) := by decide +kernel
theorem dL_law_278 : decode bL_law 278 = .ok (.iload 5, 2) := by decide +kernel
theorem dL_law_280 : decode bL_law 280 = .ok (.iconst 1, 1) := by decide +kernel
theorem dL_law_281 : decode bL_law 281 = .ok (.iadd, 1) := by decide +kernel
theorem dL_law_282 : decode bL_law 282 = .ok (.iaload, 1) := by decide +kernel
theorem dL_law_283 : decode bL_law 283 = .ok (.aload_n 0, 1) := by decide +kernel
theorem dL_law_284 : decode bL_law 284 = .ok (.iload 5, 2) := by decide +kernel
theorem dL_law_286 : decode bL_law 286 = .ok (.iconst 2, 1) := by decide +kernel
theorem dL_law_287 : decode bL_law 287 = .ok (.iadd, 1) := by decide +kernel
theorem dL_law_288 : decode bL_law 288 = .ok (.iaload, 1) := by decide +kernel
theorem dL_law_289 : decode bL_law 289 = .ok (.invokevirtual 80, 3) := by decide +kernel
theorem dL_law_292 : decode bL_law 292 = .ok (.aload_n 2, 1) := by decide +kernel
theorem dL_law_293 : decode bL_law 293 = .ok (.invokevirtual 67, 3) := by decide +kernel
theorem dL_law_296 : decode bL_law 296 = .ok (.iload 6, 2) := by decide +kernel
theorem dL_law_298 : decode bL_law 298 = .ok (.if_icmp .eq (5), 3) := by decide +kernel
theorem dL_law_301 : decode bL_law 301 = .ok (.iconst 0, 1) := by decide +kernel
theorem dL_law_302 : decode bL_law 302 = .ok (.ireturn, 1) := by decide +kernel
theorem dL_law_303 : decode bL_law 303 = .ok (.goto (473), 3) := by decide +kernel
theorem dL_law_306 : decode bL_law 306 = .ok (.aload_n 1, 1) := by decide +kernel
theorem dL_law_307 : decode bL_law 307 = .ok (.aload_n 0, 1) := by decide +kernel
theorem dL_law_308 : decode bL_law 308 = .ok (.iload 5, 2) := by decide +kernel
theorem dL_law_310 : decode bL_law 310 = .ok (.iconst 1, 1) := by decide +kernel
theorem dL_law_311 : decode bL_law 311 = .ok (.iadd, 1) := by decide +kernel
theorem dL_law_312 : decode bL_law 312 = .ok (.iaload, 1) := by decide +kernel
theorem dL_law_313 : decode bL_law 313 = .ok (.aload_n 0, 1) := by decide +kernel
theorem dL_law_314 : decode bL_law 314 = .ok (.iload 5, 2) := by decide +kernel
theorem dL_law_316 : decode bL_law 316 = .ok (.iconst 2, 1) := by decide +kernel
theorem dL_law_317 : decode bL_law 317 = .ok (.iadd, 1) := by decide +kernel
theorem dL_law_318 : decode bL_law 318 = .ok (.iaload, 1) := by decide +kernel
theorem dL_law_319 : decode bL_law 319 = .ok (.aload_n 0, 1) := by decide +kernel
theorem dL_law_320 : decode bL_law 320 = .ok (.iload 5, 2) := by decide +kernel
theorem dL_law_322 : decode bL_law 322 = .ok (.iconst 3, 1) := by decide +kernel
theorem dL_law_323 : decode bL_law 323 = .ok (.iadd, 1) := by decide +kernel
theorem dL_law_324 : decode bL_law 324 = .ok (.iaload, 1) := by decide +kernel
theorem dL_law_325 : decode bL_law 325 = .ok (.ifCond .eq (7), 3) := by decide +kernel
theorem dL_law_328 : decode bL_law 328 = .ok (.iconst 1, 1) := by decide +kernel
theorem dL_law_329 : decode bL_law 329 = .ok (.goto (4), 3) := by decide +kernel
theorem dL_law_332 : decode bL_law 332 = .ok (.iconst 0, 1) := by decide +kernel
theorem dL_law_333 : decode bL_law 333 = .ok (.invokestatic 81, 3) := by decide +kernel
theorem dL_law_336 : decode bL_law 336 = .ok (.istore 6, 2) := by decide +kernel
theorem dL_law_338 : decode bL_law 338 = .ok (.aload_n 2, 1) := by decide +kernel
theorem dL_law_339 : decode bL_law 339 = .ok (.aload_n 0, 1) := by decide +kernel
theorem dL_law_340 : decode bL_law 340 = .ok (.iload 5, 2) := by decide +kernel
theorem dL_law_342 : decode bL_law 342 = .ok (.iconst 1, 1) := by decide +kernel
theorem dL_law_343 : decode bL_law 343 = .ok (.iadd, 1) := by decide +kernel
theorem dL_law_344 : decode bL_law 344 = .ok (.iaload, 1) := by decide +kernel
theorem dL_law_345 : decode bL_law 345 = .ok (.aload_n 0, 1) := by decide +kernel
theorem dL_law_346 : decode bL_law 346 = .ok (.iload 5, 2) := by decide +kernel
theorem dL_law_348 : decode bL_law 348 = .ok (.iconst 2, 1) := by decide +kernel
theorem dL_law_349 : decode bL_law 349 = .ok (.iadd, 1) := by decide +kernel
theorem dL_law_350 : decode bL_law 350 = .ok (.iaload, 1) := by decide +kernel
theorem dL_law_351 : decode bL_law 351 = .ok (.aload_n 0, 1) := by decide +kernel
theorem dL_law_352 : decode bL_law 352 = .ok (.iload 5, 2) := by decide +kernel
theorem dL_law_354 : decode bL_law 354 = .ok (.iconst 3, 1) := by decide +kernel
theorem dL_law_355 : decode bL_law 355 = .ok (.iadd, 1) := by decide +kernel
theorem dL_law_356 : decode bL_law 356 = .ok (.iaload, 1) := by decide +kernel
theorem dL_law_357 : decode bL_law 357 = .ok (.ifCond .eq (7), 3) := by decide +kernel
theorem dL_law_360 : decode bL_law 360 = .ok (.iconst 1, 1) := by decide +kernel
theorem dL_law_361 : decode bL_law 361 = .ok (.goto (4), 3) := by decide +kernel
theorem dL_law_364 : decode bL_law 364 = .ok (.iconst 0, 1) := by decide +kernel
theorem dL_law_365 : decode bL_law 365 = .ok (.invokevirtual 84, 3) := by decide +kernel
theorem dL_law_368 : decode bL_law 368 = .ok (.aload_n 2, 1) := by decide +kernel
theorem dL_law_369 : decode bL_law 369 = .ok (.invokevirtual 67, 3) := by decide +kernel
theorem dL_law_372 : decode bL_law 372 = .ok (.iload 6, 2) := by decide +kernel
theorem dL_law_374 : decode bL_law 374 = .ok (.if_icmp .eq (5), 3) := by decide +kernel
theorem dL_law_377 : decode bL_law 377 = .ok (.iconst 0, 1) := by decide +kernel
theorem dL_law_378 : decode bL_law 378 = .ok (.ireturn, 1) := by decide +kernel
theorem dL_law_379 : decode bL_law 379 = .ok (.goto (397), 3) := by decide +kernel
theorem dL_law_382 : decode bL_law 382 = .ok (.aload_n 1, 1) := by decide +kernel
theorem dL_law_383 : decode bL_law 383 = .ok (.aload_n 0, 1) := by decide +kernel
theorem dL_law_384 : decode bL_law 384 = .ok (.iload 5, 2) := by decide +kernel
theorem dL_law_386 : decode bL_law 386 = .ok (.iconst 1, 1) := by decide +kernel
theorem dL_law_387 : decode bL_law 387 = .ok (.iadd, 1) := by decide +kernel
theorem dL_law_388 : decode bL_law 388 = .ok (.iaload, 1) := by decide +kernel
theorem dL_law_389 : decode bL_law 389 = .ok (.aload_n 0, 1) := by decide +kernel
theorem dL_law_390 : decode bL_law 390 = .ok (.iload 5, 2) := by decide +kernel
theorem dL_law_392 : decode bL_law 392 = .ok (.iconst 2, 1) := by decide +kernel
theorem dL_law_393 : decode bL_law 393 = .ok (.iadd, 1) := by decide +kernel
theorem dL_law_394 : decode bL_law 394 = .ok (.iaload, 1) := by decide +kernel
theorem dL_law_395 : decode bL_law 395 = .ok (.aload_n 0, 1) := by decide +kernel
theorem dL_law_396 : decode bL_law 396 = .ok (.iload 5, 2) := by decide +kernel
theorem dL_law_398 : decode bL_law 398 = .ok (.iconst 3, 1) := by decide +kernel
theorem dL_law_399 : decode bL_law 399 = .ok (.iadd, 1) := by decide +kernel
theorem dL_law_400 : decode bL_law 400 = .ok (.iaload, 1) := by decide +kernel
theorem dL_law_401 : decode bL_law 401 = .ok (.ifCond .eq (7), 3) := by decide +kernel
theorem dL_law_404 : decode bL_law 404 = .ok (.iconst 1, 1) := by decide +kernel
theorem dL_law_405 : decode bL_law 405 = .ok (.goto (4), 3) := by decide +kernel
theorem dL_law_408 : decode bL_law 408 = .ok (.iconst 0, 1) := by decide +kernel
theorem dL_law_409 : decode bL_law 409 = .ok (.invokestatic 85, 3) := by decide +kernel
theorem dL_law_412 : decode bL_law 412 = .ok (.istore 6, 2) := by decide +kernel
theorem dL_law_414 : decode bL_law 414 = .ok (.aload_n 2, 1) := by decide +kernel
theorem dL_law_415 : decode bL_law 415 = .ok (.aload_n 0, 1) := by decide +kernel
theorem dL_law_416 : decode bL_law 416 = .ok (.iload 5, 2) := by decide +kernel
theorem dL_law_418 : decode bL_law 418 = .ok (.iconst 1, 1) := by decide +kernel
theorem dL_law_419 : decode bL_law 419 = .ok (.iadd, 1) := by decide +kernel
theorem dL_law_420 : decode bL_law 420 = .ok (.iaload, 1) := by decide +kernel
theorem dL_law_421 : decode bL_law 421 = .ok (.aload_n 0, 1) := by decide +kernel
theorem dL_law_422 : decode bL_law 422 = .ok (.iload 5, 2) := by decide +kernel
theorem dL_law_424 : decode bL_law 424 = .ok (.iconst 2, 1) := by decide +kernel
theorem dL_law_425 : decode bL_law 425 = .ok (.iadd, 1) := by decide +kernel
theorem dL_law_426 : decode bL_law 426 = .ok (.iaload, 1) := by decide +kernel
theorem dL_law_427 : decode bL_law 427 = .ok (.aload_n 0, 1) := by decide +kernel
theorem dL_law_428 : decode bL_law 428 = .ok (.iload 5, 2) := by decide +kernel
theorem dL_law_430 : decode bL_law 430 = .ok (.iconst 3, 1) := by decide +kernel
theorem dL_law_431 : decode bL_law 431 = .ok (.iadd, 1) := by decide +kernel
theorem dL_law_432 : decode bL_law 432 = .ok (.iaload, 1) := by decide +kernel
theorem dL_law_433 : decode bL_law 433 = .ok (.ifCond .eq (7), 3) := by decide +kernel
theorem dL_law_436 : decode bL_law 436 = .ok (.iconst 1, 1) := by decide +kernel
theorem dL_law_437 : decode bL_law 437 = .ok (.goto (4), 3) := by decide +kernel
theorem dL_law_440 : decode bL_law 440 = .ok (.iconst 0, 1) := by decide +kernel
theorem dL_law_441 : decode bL_law 441 = .ok (.invokevirtual 87, 3) := by decide +kernel
theorem dL_law_444 : decode bL_law 444 = .ok (.aload_n 2, 1) := by decide +kernel
theorem dL_law_445 : decode bL_law 445 = .ok (.invokevirtual 67, 3) := by decide +kernel
theorem dL_law_448 : decode bL_law 448 = .ok (.iload 6, 2) := by decide +kernel
theorem dL_law_450 : decode bL_law 450 = .ok (.if_icmp .eq (5), 3) := by decide +kernel
theorem dL_law_453 : decode bL_law 453 = .ok (.iconst 0, 1) := by decide +kernel
theorem dL_law_454 : decode bL_law 454 = .ok (.ireturn, 1) := by decide +kernel
theorem dL_law_455 : decode bL_law 455 = .ok (.goto (321), 3) := by decide +kernel
theorem dL_law_458 : decode bL_law 458 = .ok (.aload_n 1, 1) := by decide +kernel
theorem dL_law_459 : decode bL_law 459 = .ok (.invokestatic 88, 3) := by decide +kernel
theorem dL_law_462 : decode bL_law 462 = .ok (.istore 6, 2) := by decide +kernel
theorem dL_law_464 : decode bL_law 464 = .ok (.aload_n 2, 1) := by decide +kernel
theorem dL_law_465 : decode bL_law 465 = .ok (.invokevirtual 91, 3) := by decide +kernel
theorem dL_law_468 : decode bL_law 468 = .ok (.aload_n 2, 1) := by decide +kernel
theorem dL_law_469 : decode bL_law 469 = .ok (.invokevirtual 67, 3) := by decide +kernel
theorem dL_law_472 : decode bL_law 472 = .ok (.iload 6, 2) := by decide +kernel
theorem dL_law_474 : decode bL_law 474 = .ok (.if_icmp .eq (5), 3) := by decide +kernel
theorem dL_law_477 : decode bL_law 477 = .ok (.iconst 0, 1) := by decide +kernel
theorem dL_law_478 : decode bL_law 478 = .ok (.ireturn, 1) := by decide +kernel
theorem dL_law_479 : decode bL_law 479 = .ok (.goto (297), 3) := by decide +kernel
theorem dL_law_482 : decode bL_law 482 = .ok (.aload_n 1, 1) := by decide +kernel
theorem dL_law_483 : decode bL_law 483 = .ok (.aload_n 0, 1) := by decide +kernel
theorem dL_law_484 : decode bL_law 484 = .ok (.iload 5, 2) := by decide +kernel
theorem dL_law_486 : decode bL_law 486 = .ok (.iconst 1, 1) := by decide +kernel
theorem dL_law_487 : decode bL_law 487 = .ok (.iadd, 1) := by decide +kernel
theorem dL_law_488 : decode bL_law 488 = .ok (.iaload, 1) := by decide +kernel
theorem dL_law_489 : decode bL_law 489 = .ok (.aload_n 3, 1) := by decide +kernel
theorem dL_law_490 : decode bL_law 490 = .ok (.invokestatic 92, 3) := by decide +kernel
theorem dL_law_493 : decode bL_law 493 = .ok (.istore 6, 2) := by decide +kernel
theorem dL_law_495 : decode bL_law 495 = .ok (.aload_n 2, 1) := by decide +kernel
theorem dL_law_496 : decode bL_law 496 = .ok (.aload_n 0, 1) := by decide +kernel
theorem dL_law_497 : decode bL_law 497 = .ok (.iload 5, 2) := by decide +kernel
theorem dL_law_499 : decode bL_law 499 = .ok (.iconst 1, 1) := by decide +kernel
theorem dL_law_500 : decode bL_law 500 = .ok (.iadd, 1) := by decide +kernel
theorem dL_law_501 : decode bL_law 501 = .ok (.iaload, 1) := by decide +kernel
theorem dL_law_502 : decode bL_law 502 = .ok (.invokevirtual 95, 3) := by decide +kernel
theorem dL_law_505 : decode bL_law 505 = .ok (.istore 7, 2) := by decide +kernel
theorem dL_law_507 : decode bL_law 507 = .ok (.aload_n 2, 1) := by decide +kernel
theorem dL_law_508 : decode bL_law 508 = .ok (.invokevirtual 67, 3) := by decide +kernel
theorem dL_law_511 : decode bL_law 511 = .ok (.iload 6, 2) := by decide +kernel
theorem dL_law_513 : decode bL_law 513 = .ok (.if_icmp .eq (5), 3) := by decide +kernel
theorem dL_law_516 : decode bL_law 516 = .ok (.iconst 0, 1) := by decide +kernel
theorem dL_law_517 : decode bL_law 517 = .ok (.ireturn, 1) := by decide +kernel
theorem dL_law_518 : decode bL_law 518 = .ok (.iload 6, 2) := by decide +kernel
theorem dL_law_520 : decode bL_law 520 = .ok (.ifCond .ne (15), 3) := by decide +kernel
theorem dL_law_523 : decode bL_law 523 = .ok (.aload_n 3, 1) := by decide +kernel
theorem dL_law_524 : decode bL_law 524 = .ok (.iconst 0, 1) := by decide +kernel
theorem dL_law_525 : decode bL_law 525 = .ok (.laload, 1) := by decide +kernel
theorem dL_law_526 : decode bL_law 526 = .ok (.iload 7, 2) := by decide +kernel
theorem dL_law_528 : decode bL_law 528 = .ok (.i2l, 1) := by decide +kernel
theorem dL_law_529 : decode bL_law 529 = .ok (.lcmp, 1) := by decide +kernel
theorem dL_law_530 : decode bL_law 530 = .ok (.ifCond .eq (5), 3) := by decide +kernel
theorem dL_law_533 : decode bL_law 533 = .ok (.iconst 0, 1) := by decide +kernel
theorem dL_law_534 : decode bL_law 534 = .ok (.ireturn, 1) := by decide +kernel
theorem dL_law_535 : decode bL_law 535 = .ok (.goto (241), 3) := by decide +kernel
theorem dL_law_538 : decode bL_law 538 = .ok (.aload_n 1, 1) := by decide +kernel
theorem dL_law_539 : decode bL_law 539 = .ok (.aload 4, 2) := by decide +kernel
theorem dL_law_541 : decode bL_law 541 = .ok (.invokestatic 96, 3) := by decide +kernel
theorem dL_law_544 : decode bL_law 544 = .ok (.istore 6, 2) := by decide +kernel
theorem dL_law_546 : decode bL_law 546 = .ok (.aload_n 2, 1) := by decide +kernel
theorem dL_law_547 : decode bL_law 547 = .ok (.invokevirtual 99, 3) := by decide +kernel
theorem dL_law_550 : decode bL_law 550 = .ok (.dstore 7, 2) := by decide +kernel
theorem dL_law_552 : decode bL_law 552 = .ok (.aload_n 2, 1) := by decide +kernel
theorem dL_law_553 : decode bL_law 553 = .ok (.invokevirtual 67, 3) := by decide +kernel
theorem dL_law_556 : decode bL_law 556 = .ok (.iload 6, 2) := by decide +kernel
theorem dL_law_558 : decode bL_law 558 = .ok (.if_icmp .eq (5), 3) := by decide +kernel
theorem dL_law_561 : decode bL_law 561 = .ok (.iconst 0, 1) := by decide +kernel
theorem dL_law_562 : decode bL_law 562 = .ok (.ireturn, 1) := by decide +kernel
theorem dL_law_563 : decode bL_law 563 = .ok (.iload 6, 2) := by decide +kernel
theorem dL_law_565 : decode bL_law 565 = .ok (.ifCond .ne (35), 3) := by decide +kernel
theorem dL_law_568 : decode bL_law 568 = .ok (.aload 4, 2) := by decide +kernel
theorem dL_law_570 : decode bL_law 570 = .ok (.iconst 0, 1) := by decide +kernel
theorem dL_law_571 : decode bL_law 571 = .ok (.daload, 1) := by decide +kernel
theorem dL_law_572 : decode bL_law 572 = .ok (.dload 7, 2) := by decide +kernel
theorem dL_law_574 : decode bL_law 574 = .ok (.dcmp .l, 1) := by decide +kernel
theorem dL_law_575 : decode bL_law 575 = .ok (.ifCond .eq (25), 3) := by decide +kernel
theorem dL_law_578 : decode bL_law 578 = .ok (.aload 4, 2) := by decide +kernel
theorem dL_law_580 : decode bL_law 580 = .ok (.iconst 0, 1) := by decide +kernel
theorem dL_law_581 : decode bL_law 581 = .ok (.daload, 1) := by decide +kernel
theorem dL_law_582 : decode bL_law 582 = .ok (.aload 4, 2) := by decide +kernel
theorem dL_law_584 : decode bL_law 584 = .ok (.iconst 0, 1) := by decide +kernel
theorem dL_law_585 : decode bL_law 585 = .ok (.daload, 1) := by decide +kernel
theorem dL_law_586 : decode bL_law 586 = .ok (.dcmp .l, 1) := by decide +kernel
theorem dL_law_587 : decode bL_law 587 = .ok (.ifCond .eq (11), 3) := by decide +kernel
theorem dL_law_590 : decode bL_law 590 = .ok (.dload 7, 2) := by decide +kernel
theorem dL_law_592 : decode bL_law 592 = .ok (.dload 7, 2) := by decide +kernel
theorem dL_law_594 : decode bL_law 594 = .ok (.dcmp .l, 1) := by decide +kernel
theorem dL_law_595 : decode bL_law 595 = .ok (.ifCond .ne (5), 3) := by decide +kernel
theorem dL_law_598 : decode bL_law 598 = .ok (.iconst 0, 1) := by decide +kernel
theorem dL_law_599 : decode bL_law 599 = .ok (.ireturn, 1) := by decide +kernel
theorem dL_law_600 : decode bL_law 600 = .ok (.goto (176), 3) := by decide +kernel
theorem dL_law_603 : decode bL_law 603 = .ok (.aload_n 1, 1) := by decide +kernel
theorem dL_law_604 : decode bL_law 604 = .ok (.aload_n 0, 1) := by decide +kernel
theorem dL_law_605 : decode bL_law 605 = .ok (.iload 5, 2) := by decide +kernel
theorem dL_law_607 : decode bL_law 607 = .ok (.iconst 1, 1) := by decide +kernel
theorem dL_law_608 : decode bL_law 608 = .ok (.iadd, 1) := by decide +kernel
theorem dL_law_609 : decode bL_law 609 = .ok (.iaload, 1) := by decide +kernel
theorem dL_law_610 : decode bL_law 610 = .ok (.aload_n 0, 1) := by decide +kernel
theorem dL_law_611 : decode bL_law 611 = .ok (.iload 5, 2) := by decide +kernel
theorem dL_law_613 : decode bL_law 613 = .ok (.iconst 2, 1) := by decide +kernel
theorem dL_law_614 : decode bL_law 614 = .ok (.iadd, 1) := by decide +kernel
theorem dL_law_615 : decode bL_law 615 = .ok (.iaload, 1) := by decide +kernel
theorem dL_law_616 : decode bL_law 616 = .ok (.aload_n 3, 1) := by decide +kernel
theorem dL_law_617 : decode bL_law 617 = .ok (.invokestatic 100, 3) := by decide +kernel
theorem dL_law_620 : decode bL_law 620 = .ok (.istore 6, 2) := by decide +kernel
theorem dL_law_622 : decode bL_law 622 = .ok (.aload_n 2, 1) := by decide +kernel
theorem dL_law_623 : decode bL_law 623 = .ok (.aload_n 0, 1) := by decide +kernel
theorem dL_law_624 : decode bL_law 624 = .ok (.iload 5, 2) := by decide +kernel
theorem dL_law_626 : decode bL_law 626 = .ok (.iconst 1, 1) := by decide +kernel
theorem dL_law_627 : decode bL_law 627 = .ok (.iadd, 1) := by decide +kernel
theorem dL_law_628 : decode bL_law 628 = .ok (.iaload, 1) := by decide +kernel
theorem dL_law_629 : decode bL_law 629 = .ok (.aload_n 0, 1) := by decide +kernel
theorem dL_law_630 : decode bL_law 630 = .ok (.iload 5, 2) := by decide +kernel
theorem dL_law_632 : decode bL_law 632 = .ok (.iconst 2, 1) := by decide +kernel
theorem dL_law_633 : decode bL_law 633 = .ok (.iadd, 1) := by decide +kernel
theorem dL_law_634 : decode bL_law 634 = .ok (.iaload, 1) := by decide +kernel
theorem dL_law_635 : decode bL_law 635 = .ok (.invokevirtual 103, 3) := by decide +kernel
theorem dL_law_638 : decode bL_law 638 = .ok (.istore 7, 2) := by decide +kernel
theorem dL_law_640 : decode bL_law 640 = .ok (.aload_n 2, 1) := by decide +kernel
theorem dL_law_641 : decode bL_law 641 = .ok (.invokevirtual 67, 3) := by decide +kernel
theorem dL_law_644 : decode bL_law 644 = .ok (.iload 6, 2) := by decide +kernel
theorem dL_law_646 : decode bL_law 646 = .ok (.if_icmp .eq (5), 3) := by decide +kernel
theorem dL_law_649 : decode bL_law 649 = .ok (.iconst 0, 1) := by decide +kernel
theorem dL_law_650 : decode bL_law 650 = .ok (.ireturn, 1) := by decide +kernel
theorem dL_law_651 : decode bL_law 651 = .ok (.iload 6, 2) := by decide +kernel
theorem dL_law_653 : decode bL_law 653 = .ok (.ifCond .ne (15), 3) := by decide +kernel
theorem dL_law_656 : decode bL_law 656 = .ok (.aload_n 3, 1) := by decide +kernel
theorem dL_law_657 : decode bL_law 657 = .ok (.iconst 0, 1) := by decide +kernel
theorem dL_law_658 : decode bL_law 658 = .ok (.laload, 1) := by decide +kernel
theorem dL_law_659 : decode bL_law 659 = .ok (.iload 7, 2) := by decide +kernel
theorem dL_law_661 : decode bL_law 661 = .ok (.i2l, 1) := by decide +kernel
theorem dL_law_662 : decode bL_law 662 = .ok (.lcmp, 1) := by decide +kernel
theorem dL_law_663 : decode bL_law 663 = .ok (.ifCond .eq (5), 3) := by decide +kernel
theorem dL_law_666 : decode bL_law 666 = .ok (.iconst 0, 1) := by decide +kernel
theorem dL_law_667 : decode bL_law 667 = .ok (.ireturn, 1) := by decide +kernel
theorem dL_law_668 : decode bL_law 668 = .ok (.goto (108), 3) := by decide +kernel
theorem dL_law_671 : decode bL_law 671 = .ok (.aload_n 1, 1) := by decide +kernel
theorem dL_law_672 : decode bL_law 672 = .ok (.aload_n 0, 1) := by decide +kernel
theorem dL_law_673 : decode bL_law 673 = .ok (.iload 5, 2) := by decide +kernel
theorem dL_law_675 : decode bL_law 675 = .ok (.iconst 1, 1) := by decide +kernel
theorem dL_law_676 : decode bL_law 676 = .ok (.iadd, 1) := by decide +kernel
theorem dL_law_677 : decode bL_law 677 = .ok (.iaload, 1) := by decide +kernel
theorem dL_law_678 : decode bL_law 678 = .ok (.aload_n 0, 1) := by decide +kernel
theorem dL_law_679 : decode bL_law 679 = .ok (.iload 5, 2) := by decide +kernel
theorem dL_law_681 : decode bL_law 681 = .ok (.iconst 2, 1) := by decide +kernel
theorem dL_law_682 : decode bL_law 682 = .ok (.iadd, 1) := by decide +kernel
theorem dL_law_683 : decode bL_law 683 = .ok (.iaload, 1) := by decide +kernel
theorem dL_law_684 : decode bL_law 684 = .ok (.aload_n 0, 1) := by decide +kernel
theorem dL_law_685 : decode bL_law 685 = .ok (.iload 5, 2) := by decide +kernel
theorem dL_law_687 : decode bL_law 687 = .ok (.iconst 3, 1) := by decide +kernel
theorem dL_law_688 : decode bL_law 688 = .ok (.iadd, 1) := by decide +kernel
theorem dL_law_689 : decode bL_law 689 = .ok (.iaload, 1) := by decide +kernel
theorem dL_law_690 : decode bL_law 690 = .ok (.aload_n 3, 1) := by decide +kernel
theorem dL_law_691 : decode bL_law 691 = .ok (.invokestatic 104, 3) := by decide +kernel
theorem dL_law_694 : decode bL_law 694 = .ok (.istore 6, 2) := by decide +kernel
theorem dL_law_696 : decode bL_law 696 = .ok (.aload_n 2, 1) := by decide +kernel
theorem dL_law_697 : decode bL_law 697 = .ok (.aload_n 0, 1) := by decide +kernel
theorem dL_law_698 : decode bL_law 698 = .ok (.iload 5, 2) := by decide +kernel
theorem dL_law_700 : decode bL_law 700 = .ok (.iconst 1, 1) := by decide +kernel
theorem dL_law_701 : decode bL_law 701 = .ok (.iadd, 1) := by decide +kernel
theorem dL_law_702 : decode bL_law 702 = .ok (.iaload, 1) := by decide +kernel
theorem dL_law_703 : decode bL_law 703 = .ok (.aload_n 0, 1) := by decide +kernel
theorem dL_law_704 : decode bL_law 704 = .ok (.iload 5, 2) := by decide +kernel
theorem dL_law_706 : decode bL_law 706 = .ok (.iconst 2, 1) := by decide +kernel
theorem dL_law_707 : decode bL_law 707 = .ok (.iadd, 1) := by decide +kernel
theorem dL_law_708 : decode bL_law 708 = .ok (.iaload, 1) := by decide +kernel
theorem dL_law_709 : decode bL_law 709 = .ok (.aload_n 0, 1) := by decide +kernel
theorem dL_law_710 : decode bL_law 710 = .ok (.iload 5, 2) := by decide +kernel
theorem dL_law_712 : decode bL_law 712 = .ok (.iconst 3, 1) := by decide +kernel
theorem dL_law_713 : decode bL_law 713 = .ok (.iadd, 1) := by decide +kernel
theorem dL_law_714 : decode bL_law 714 = .ok (.iaload, 1) := by decide +kernel
theorem dL_law_715 : decode bL_law 715 = .ok (.invokevirtual 107, 3) := by decide +kernel
theorem dL_law_718 : decode bL_law 718 = .ok (.istore 7, 2) := by decide +kernel
theorem dL_law_720 : decode bL_law 720 = .ok (.aload_n 2, 1) := by decide +kernel
theorem dL_law_721 : decode bL_law 721 = .ok (.invokevirtual 67, 3) := by decide +kernel
theorem dL_law_724 : decode bL_law 724 = .ok (.iload 6, 2) := by decide +kernel
theorem dL_law_726 : decode bL_law 726 = .ok (.if_icmp .eq (5), 3) := by decide +kernel
theorem dL_law_729 : decode bL_law 729 = .ok (.iconst 0, 1) := by decide +kernel
theorem dL_law_730 : decode bL_law 730 = .ok (.ireturn, 1) := by decide +kernel
theorem dL_law_731 : decode bL_law 731 = .ok (.iload 6, 2) := by decide +kernel
theorem dL_law_733 : decode bL_law 733 = .ok (.ifCond .ne (15), 3) := by decide +kernel
theorem dL_law_736 : decode bL_law 736 = .ok (.aload_n 3, 1) := by decide +kernel
theorem dL_law_737 : decode bL_law 737 = .ok (.iconst 0, 1) := by decide +kernel
theorem dL_law_738 : decode bL_law 738 = .ok (.laload, 1) := by decide +kernel
theorem dL_law_739 : decode bL_law 739 = .ok (.iload 7, 2) := by decide +kernel
theorem dL_law_741 : decode bL_law 741 = .ok (.i2l, 1) := by decide +kernel
theorem dL_law_742 : decode bL_law 742 = .ok (.lcmp, 1) := by decide +kernel
theorem dL_law_743 : decode bL_law 743 = .ok (.ifCond .eq (5), 3) := by decide +kernel
theorem dL_law_746 : decode bL_law 746 = .ok (.iconst 0, 1) := by decide +kernel
theorem dL_law_747 : decode bL_law 747 = .ok (.ireturn, 1) := by decide +kernel
theorem dL_law_748 : decode bL_law 748 = .ok (.goto (28), 3) := by decide +kernel
theorem dL_law_751 : decode bL_law 751 = .ok (.aload_n 1, 1) := by decide +kernel
theorem dL_law_752 : decode bL_law 752 = .ok (.aload_n 0, 1) := by decide +kernel
theorem dL_law_753 : decode bL_law 753 = .ok (.iload 5, 2) := by decide +kernel
theorem dL_law_755 : decode bL_law 755 = .ok (.iconst 1, 1) := by decide +kernel
theorem dL_law_756 : decode bL_law 756 = .ok (.iadd, 1) := by decide +kernel
theorem dL_law_757 : decode bL_law 757 = .ok (.iaload, 1) := by decide +kernel
theorem dL_law_758 : decode bL_law 758 = .ok (.invokevirtual 108, 3) := by decide +kernel
theorem dL_law_761 : decode bL_law 761 = .ok (.aload_n 2, 1) := by decide +kernel
theorem dL_law_762 : decode bL_law 762 = .ok (.aload_n 0, 1) := by decide +kernel
theorem dL_law_763 : decode bL_law 763 = .ok (.iload 5, 2) := by decide +kernel
theorem dL_law_765 : decode bL_law 765 = .ok (.iconst 1, 1) := by decide +kernel
theorem dL_law_766 : decode bL_law 766 = .ok (.iadd, 1) := by decide +kernel
theorem dL_law_767 : decode bL_law 767 = .ok (.iaload, 1) := by decide +kernel
theorem dL_law_768 : decode bL_law 768 = .ok (.invokevirtual 111, 3) := by decide +kernel
theorem dL_law_771 : decode bL_law 771 = .ok (.if_icmp .eq (5), 3) := by decide +kernel
theorem dL_law_774 : decode bL_law 774 = .ok (.iconst 0, 1) := by decide +kernel
theorem dL_law_775 : decode bL_law 775 = .ok (.ireturn, 1) := by decide +kernel
theorem dL_law_776 : decode bL_law 776 = .ok (.iinc 5 (4), 3) := by decide +kernel
theorem dL_law_779 : decode bL_law 779 = .ok (.goto (-751), 3) := by decide +kernel
theorem dL_law_782 : decode bL_law 782 = .ok (.iconst 1, 1) := by decide +kernel
theorem dL_law_783 : decode bL_law 783 = .ok (.ireturn, 1) := by decide +kernel
