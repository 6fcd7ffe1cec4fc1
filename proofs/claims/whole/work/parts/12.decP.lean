theorem dC_init_0 : decode bC_init 0 = .ok (.aload_n 0, 1) := by decide +kernel
theorem dC_init_1 : decode bC_init 1 = .ok (.invokespecial 3, 3) := by decide +kernel
theorem dC_init_4 : decode bC_init 4 = .ok (.aload_n 0, 1) := by decide +kernel
theorem dC_init_5 : decode bC_init 5 = .ok (.sipush 1680, 3) := by decide +kernel
theorem dC_init_8 : decode bC_init 8 = .ok (.newarray .int, 2) := by decide +kernel
theorem dC_init_10 : decode bC_init 10 = .ok (.putfield 9, 3) := by decide +kernel
theorem dC_init_13 : decode bC_init 13 = .ok (.aload_n 0, 1) := by decide +kernel
theorem dC_init_14 : decode bC_init 14 = .ok (.sipush 1680, 3) := by decide +kernel
theorem dC_init_17 : decode bC_init 17 = .ok (.newarray .double, 2) := by decide +kernel
theorem dC_init_19 : decode bC_init 19 = .ok (.putfield 15, 3) := by decide +kernel
theorem dC_init_22 : decode bC_init 22 = .ok (.aload_n 0, 1) := by decide +kernel
theorem dC_init_23 : decode bC_init 23 = .ok (.sipush 1680, 3) := by decide +kernel
theorem dC_init_26 : decode bC_init 26 = .ok (.newarray .int, 2) := by decide +kernel
theorem dC_init_28 : decode bC_init 28 = .ok (.putfield 19, 3) := by decide +kernel
theorem dC_init_31 : decode bC_init 31 = .ok (.aload_n 0, 1) := by decide +kernel
theorem dC_init_32 : decode bC_init 32 = .ok (.sipush 6720, 3) := by decide +kernel
theorem dC_init_35 : decode bC_init 35 = .ok (.newarray .int, 2) := by decide +kernel
theorem dC_init_37 : decode bC_init 37 = .ok (.putfield 22, 3) := by decide +kernel
theorem dC_init_40 : decode bC_init 40 = .ok (.aload_n 0, 1) := by decide +kernel
theorem dC_init_41 : decode bC_init 41 = .ok (.sipush 6720, 3) := by decide +kernel
theorem dC_init_44 : decode bC_init 44 = .ok (.newarray .int, 2) := by decide +kernel
theorem dC_init_46 : decode bC_init 46 = .ok (.putfield 25, 3) := by decide +kernel
theorem dC_init_49 : decode bC_init 49 = .ok (.aload_n 0, 1) := by decide +kernel
theorem dC_init_50 : decode bC_init 50 = .ok (.bipush 6, 2) := by decide +kernel
theorem dC_init_52 : decode bC_init 52 = .ok (.newarray .int, 2) := by decide +kernel
theorem dC_init_54 : decode bC_init 54 = .ok (.putfield 28, 3) := by decide +kernel
theorem dC_init_57 : decode bC_init 57 = .ok (.aload_n 0, 1) := by decide +kernel
theorem dC_init_58 : decode bC_init 58 = .ok (.iconst 4, 1) := by decide +kernel
theorem dC_init_59 : decode bC_init 59 = .ok (.newarray .int, 2) := by decide +kernel
theorem dC_init_61 : decode bC_init 61 = .ok (.putfield 31, 3) := by decide +kernel
theorem dC_init_64 : decode bC_init 64 = .ok (.return_, 1) := by decide +kernel
theorem dC_fill_0 : decode bC_fill 0 = .ok (.aload_n 1, 1) := by decide +kernel
theorem dC_fill_1 : decode bC_fill 1 = .ok (.aload_n 0, 1) := by decide +kernel
theorem dC_fill_2 : decode bC_fill 2 = .ok (.getfield 28, 3) := by decide +kernel
theorem dC_fill_5 : decode bC_fill 5 = .ok (.invokevirtual 34, 3) := by decide +kernel
theorem dC_fill_8 : decode bC_fill 8 = .ok (.iconst 1, 1) := by decide +kernel
theorem dC_fill_9 : decode bC_fill 9 = .ok (.istore_n 3, 1) := by decide +kernel
theorem dC_fill_10 : decode bC_fill 10 = .ok (.iload_n 3, 1) := by decide +kernel
theorem dC_fill_11 : decode bC_fill 11 = .ok (.aload_n 2, 1) := by decide +kernel
theorem dC_fill_12 : decode bC_fill 12 = .ok (.invokevirtual 40, 3) := by decide +kernel
theorem dC_fill_15 : decode bC_fill 15 = .ok (.if_icmp .gt (41), 3) := by decide +kernel
theorem dC_fill_18 : decode bC_fill 18 = .ok (.iconst 0, 1) := by decide +kernel
theorem dC_fill_19 : decode bC_fill 19 = .ok (.istore 4, 2) := by decide +kernel
theorem dC_fill_21 : decode bC_fill 21 = .ok (.iload 4, 2) := by decide +kernel
theorem dC_fill_23 : decode bC_fill 23 = .ok (.iload_n 3, 1) := by decide +kernel
theorem dC_fill_24 : decode bC_fill 24 = .ok (.iadd, 1) := by decide +kernel
theorem dC_fill_25 : decode bC_fill 25 = .ok (.aload_n 2, 1) := by decide +kernel
theorem dC_fill_26 : decode bC_fill 26 = .ok (.invokevirtual 40, 3) := by decide +kernel
theorem dC_fill_29 : decode bC_fill 29 = .ok (.if_icmp .gt (21), 3) := by decide +kernel
theorem dC_fill_32 : decode bC_fill 32 = .ok (.aload_n 0, 1) := by decide +kernel
theorem dC_fill_33 : decode bC_fill 33 = .ok (.aload_n 1, 1) := by decide +kernel
theorem dC_fill_34 : decode bC_fill 34 = .ok (.aload_n 2, 1) := by decide +kernel
theorem dC_fill_35 : decode bC_fill 35 = .ok (.iload 4, 2) := by decide +kernel
theorem dC_fill_37 : decode bC_fill 37 = .ok (.iload 4, 2) := by decide +kernel
theorem dC_fill_39 : decode bC_fill 39 = .ok (.iload_n 3, 1) := by decide +kernel
theorem dC_fill_40 : decode bC_fill 40 = .ok (.iadd, 1) := by decide +kernel
theorem dC_fill_41 : decode bC_fill 41 = .ok (.invokevirtual 46, 3) := by decide +kernel
theorem dC_fill_44 : decode bC_fill 44 = .ok (.iinc 4 (1), 3) := by decide +kernel
theorem dC_fill_47 : decode bC_fill 47 = .ok (.goto (-26), 3) := by decide +kernel
theorem dC_fill_50 : decode bC_fill 50 = .ok (.iinc 3 (1), 3) := by decide +kernel
theorem dC_fill_53 : decode bC_fill 53 = .ok (.goto (-43), 3) := by decide +kernel
theorem dC_fill_56 : decode bC_fill 56 = .ok (.return_, 1) := by decide +kernel
theorem dC_fillSpan_0 : decode bC_fillSpan 0 = .ok (.aload_n 0, 1) := by decide +kernel
theorem dC_fillSpan_1 : decode bC_fillSpan 1 = .ok (.aload_n 1, 1) := by decide +kernel
theorem dC_fillSpan_2 : decode bC_fillSpan 2 = .ok (.aload_n 2, 1) := by decide +kernel
theorem dC_fillSpan_3 : decode bC_fillSpan 3 = .ok (.iload_n 3, 1) := by decide +kernel
theorem dC_fillSpan_4 : decode bC_fillSpan 4 = .ok (.iload 4, 2) := by decide +kernel
theorem dC_fillSpan_6 : decode bC_fillSpan 6 = .ok (.invokevirtual 50, 3) := by decide +kernel
theorem dC_fillSpan_9 : decode bC_fillSpan 9 = .ok (.iconst 0, 1) := by decide +kernel
theorem dC_fillSpan_10 : decode bC_fillSpan 10 = .ok (.istore 5, 2) := by decide +kernel
theorem dC_fillSpan_12 : decode bC_fillSpan 12 = .ok (.iload 5, 2) := by decide +kernel
theorem dC_fillSpan_14 : decode bC_fillSpan 14 = .ok (.bipush 6, 2) := by decide +kernel
theorem dC_fillSpan_16 : decode bC_fillSpan 16 = .ok (.if_icmp .ge (122), 3) := by decide +kernel
theorem dC_fillSpan_19 : decode bC_fillSpan 19 = .ok (.aload_n 0, 1) := by decide +kernel
theorem dC_fillSpan_20 : decode bC_fillSpan 20 = .ok (.getfield 28, 3) := by decide +kernel
theorem dC_fillSpan_23 : decode bC_fillSpan 23 = .ok (.iload 5, 2) := by decide +kernel
theorem dC_fillSpan_25 : decode bC_fillSpan 25 = .ok (.iaload, 1) := by decide +kernel
theorem dC_fillSpan_26 : decode bC_fillSpan 26 = .ok (.istore 6, 2) := by decide +kernel
theorem dC_fillSpan_28 : decode bC_fillSpan 28 = .ok (.iconst 0, 1) := by decide +kernel
theorem dC_fillSpan_29 : decode bC_fillSpan 29 = .ok (.istore 7, 2) := by decide +kernel
theorem dC_fillSpan_31 : decode bC_fillSpan 31 = .ok (.iload 7, 2) := by decide +kernel
theorem dC_fillSpan_33 : decode bC_fillSpan 33 = .ok (.aload_n 1, 1) := by decide +kernel
theorem dC_fillSpan_34 : decode bC_fillSpan 34 = .ok (.invokevirtual 53, 3) := by decide +kernel
theorem dC_fillSpan_37 : decode bC_fillSpan 37 = .ok (.if_icmp .ge (30), 3) := by decide +kernel
theorem dC_fillSpan_40 : decode bC_fillSpan 40 = .ok (.aload_n 1, 1) := by decide +kernel
theorem dC_fillSpan_41 : decode bC_fillSpan 41 = .ok (.iload 7, 2) := by decide +kernel
theorem dC_fillSpan_43 : decode bC_fillSpan 43 = .ok (.invokevirtual 56, 3) := by decide +kernel
theorem dC_fillSpan_46 : decode bC_fillSpan 46 = .ok (.iload 6, 2) := by decide +kernel
theorem dC_fillSpan_48 : decode bC_fillSpan 48 = .ok (.if_icmp .ne (13), 3) := by decide +kernel
theorem dC_fillSpan_51 : decode bC_fillSpan 51 = .ok (.aload_n 0, 1) := by decide +kernel
theorem dC_fillSpan_52 : decode bC_fillSpan 52 = .ok (.aload_n 1, 1) := by decide +kernel
theorem dC_fillSpan_53 : decode bC_fillSpan 53 = .ok (.iload 7, 2) := by decide +kernel
theorem dC_fillSpan_55 : decode bC_fillSpan 55 = .ok (.iload_n 3, 1) := by decide +kernel
theorem dC_fillSpan_56 : decode bC_fillSpan 56 = .ok (.iload 4, 2) := by decide +kernel
theorem dC_fillSpan_58 : decode bC_fillSpan 58 = .ok (.invokevirtual 60, 3) := by decide +kernel
theorem dC_fillSpan_61 : decode bC_fillSpan 61 = .ok (.iinc 7 (1), 3) := by decide +kernel
theorem dC_fillSpan_64 : decode bC_fillSpan 64 = .ok (.goto (-33), 3) := by decide +kernel
theorem dC_fillSpan_67 : decode bC_fillSpan 67 = .ok (.iload_n 3, 1) := by decide +kernel
theorem dC_fillSpan_68 : decode bC_fillSpan 68 = .ok (.iload 4, 2) := by decide +kernel
theorem dC_fillSpan_70 : decode bC_fillSpan 70 = .ok (.invokestatic 64, 3) := by decide +kernel
theorem dC_fillSpan_73 : decode bC_fillSpan 73 = .ok (.istore 7, 2) := by decide +kernel
theorem dC_fillSpan_75 : decode bC_fillSpan 75 = .ok (.aload_n 0, 1) := by decide +kernel
theorem dC_fillSpan_76 : decode bC_fillSpan 76 = .ok (.aload_n 1, 1) := by decide +kernel
theorem dC_fillSpan_77 : decode bC_fillSpan 77 = .ok (.iload 6, 2) := by decide +kernel
theorem dC_fillSpan_79 : decode bC_fillSpan 79 = .ok (.invokevirtual 68, 3) := by decide +kernel
theorem dC_fillSpan_82 : decode bC_fillSpan 82 = .ok (.iload 7, 2) := by decide +kernel
theorem dC_fillSpan_84 : decode bC_fillSpan 84 = .ok (.invokevirtual 71, 3) := by decide +kernel
theorem dC_fillSpan_87 : decode bC_fillSpan 87 = .ok (.ifCond .ne (31), 3) := by decide +kernel
theorem dC_fillSpan_90 : decode bC_fillSpan 90 = .ok (.iload 4, 2) := by decide +kernel
theorem dC_fillSpan_92 : decode bC_fillSpan 92 = .ok (.aload_n 2, 1) := by decide +kernel
theorem dC_fillSpan_93 : decode bC_fillSpan 93 = .ok (.invokevirtual 40, 3) := by decide +kernel
theorem dC_fillSpan_96 : decode bC_fillSpan 96 = .ok (.if_icmp .eq (18), 3) := by decide +kernel
theorem dC_fillSpan_99 : decode bC_fillSpan 99 = .ok (.aload_n 1, 1) := by decide +kernel
theorem dC_fillSpan_100 : decode bC_fillSpan 100 = .ok (.iload 6, 2) := by decide +kernel
theorem dC_fillSpan_102 : decode bC_fillSpan 102 = .ok (.aload_n 2, 1) := by decide +kernel
theorem dC_fillSpan_103 : decode bC_fillSpan 103 = .ok (.iload 4, 2) := by decide +kernel
theorem dC_fillSpan_105 : decode bC_fillSpan 105 = .ok (.invokevirtual 74, 3) := by decide +kernel
theorem dC_fillSpan_108 : decode bC_fillSpan 108 = .ok (.invokevirtual 77, 3) := by decide +kernel
theorem dC_fillSpan_111 : decode bC_fillSpan 111 = .ok (.ifCond .eq (7), 3) := by decide +kernel
theorem dC_fillSpan_114 : decode bC_fillSpan 114 = .ok (.iconst 1, 1) := by decide +kernel
theorem dC_fillSpan_115 : decode bC_fillSpan 115 = .ok (.goto (4), 3) := by decide +kernel
theorem dC_fillSpan_118 : decode bC_fillSpan 118 = .ok (.iconst 0, 1) := by decide +kernel
theorem dC_fillSpan_119 : decode bC_fillSpan 119 = .ok (.istore 8, 2) := by decide +kernel
theorem dC_fillSpan_121 : decode bC_fillSpan 121 = .ok (.aload_n 0, 1) := by decide +kernel
theorem dC_fillSpan_122 : decode bC_fillSpan 122 = .ok (.aload_n 1, 1) := by decide +kernel
theorem dC_fillSpan_123 : decode bC_fillSpan 123 = .ok (.iload 6, 2) := by decide +kernel
theorem dC_fillSpan_125 : decode bC_fillSpan 125 = .ok (.iload 7, 2) := by decide +kernel
theorem dC_fillSpan_127 : decode bC_fillSpan 127 = .ok (.iload 8, 2) := by decide +kernel
theorem dC_fillSpan_129 : decode bC_fillSpan 129 = .ok (.invokevirtual 81, 3) := by decide +kernel
theorem dC_fillSpan_132 : decode bC_fillSpan 132 = .ok (.iinc 5 (1), 3) := by decide +kernel
theorem dC_fillSpan_135 : decode bC_fillSpan 135 = .ok (.goto (-123), 3) := by decide +kernel
theorem dC_fillSpan_138 : decode bC_fillSpan 138 = .ok (.return_, 1) := by decide +kernel
theorem dC_settleCharacters_0 : decode bC_settleCharacters 0 = .ok (.iload_n 3, 1) := by decide +kernel
theorem dC_settleCharacters_1 : decode bC_settleCharacters 1 = .ok (.iload 4, 2) := by decide +kernel
theorem dC_settleCharacters_3 : decode bC_settleCharacters 3 = .ok (.invokestatic 64, 3) := by decide +kernel
theorem dC_settleCharacters_6 : decode bC_settleCharacters 6 = .ok (.istore 5, 2) := by decide +kernel
theorem dC_settleCharacters_8 : decode bC_settleCharacters 8 = .ok (.iconst 0, 1) := by decide +kernel
theorem dC_settleCharacters_9 : decode bC_settleCharacters 9 = .ok (.istore 6, 2) := by decide +kernel
theorem dC_settleCharacters_11 : decode bC_settleCharacters 11 = .ok (.iload 6, 2) := by decide +kernel
theorem dC_settleCharacters_13 : decode bC_settleCharacters 13 = .ok (.aload_n 1, 1) := by decide +kernel
theorem dC_settleCharacters_14 : decode bC_settleCharacters 14 = .ok (.invokevirtual 53, 3) := by decide +kernel
theorem dC_settleCharacters_17 : decode bC_settleCharacters 17 = .ok (.if_icmp .ge (111), 3) := by decide +kernel
theorem dC_settleCharacters_20 : decode bC_settleCharacters 20 = .ok (.iconst 0, 1) := by decide +kernel
theorem dC_settleCharacters_21 : decode bC_settleCharacters 21 = .ok (.istore 7, 2) := by decide +kernel
theorem dC_settleCharacters_23 : decode bC_settleCharacters 23 = .ok (.iload 7, 2) := by decide +kernel
theorem dC_settleCharacters_25 : decode bC_settleCharacters 25 = .ok (.aload_n 1, 1) := by decide +kernel
theorem dC_settleCharacters_26 : decode bC_settleCharacters 26 = .ok (.iload 6, 2) := by decide +kernel
theorem dC_settleCharacters_28 : decode bC_settleCharacters 28 = .ok (.invokevirtual 85, 3) := by decide +kernel
theorem dC_settleCharacters_31 : decode bC_settleCharacters 31 = .ok (.if_icmp .ge (91), 3) := by decide +kernel
theorem dC_settleCharacters_34 : decode bC_settleCharacters 34 = .ok (.aload_n 1, 1) := by decide +kernel
theorem dC_settleCharacters_35 : decode bC_settleCharacters 35 = .ok (.iload 6, 2) := by decide +kernel
theorem dC_settleCharacters_37 : decode bC_settleCharacters 37 = .ok (.iload 7, 2) := by decide +kernel
theorem dC_settleCharacters_39 : decode bC_settleCharacters 39 = .ok (.invokevirtual 88, 3) := by decide +kernel
theorem dC_settleCharacters_42 : decode bC_settleCharacters 42 = .ok (.iconst (-1), 1) := by decide +kernel
theorem dC_settleCharacters_43 : decode bC_settleCharacters 43 = .ok (.if_icmp .ne (73), 3) := by decide +kernel
theorem dC_settleCharacters_46 : decode bC_settleCharacters 46 = .ok (.iload 4, 2) := by decide +kernel
theorem dC_settleCharacters_48 : decode bC_settleCharacters 48 = .ok (.iload_n 3, 1) := by decide +kernel
theorem dC_settleCharacters_49 : decode bC_settleCharacters 49 = .ok (.isub, 1) := by decide +kernel
theorem dC_settleCharacters_50 : decode bC_settleCharacters 50 = .ok (.iconst 1, 1) := by decide +kernel
theorem dC_settleCharacters_51 : decode bC_settleCharacters 51 = .ok (.if_icmp .ne (23), 3) := by decide +kernel
theorem dC_settleCharacters_54 : decode bC_settleCharacters 54 = .ok (.aload_n 1, 1) := by decide +kernel
theorem dC_settleCharacters_55 : decode bC_settleCharacters 55 = .ok (.iload 6, 2) := by decide +kernel
theorem dC_settleCharacters_57 : decode bC_settleCharacters 57 = .ok (.iload 7, 2) := by decide +kernel
theorem dC_settleCharacters_59 : decode bC_settleCharacters 59 = .ok (.aload_n 2, 1) := by decide +kernel
theorem dC_settleCharacters_60 : decode bC_settleCharacters 60 = .ok (.iload_n 3, 1) := by decide +kernel
theorem dC_settleCharacters_61 : decode bC_settleCharacters 61 = .ok (.invokevirtual 74, 3) := by decide +kernel
theorem dC_settleCharacters_64 : decode bC_settleCharacters 64 = .ok (.invokevirtual 91, 3) := by decide +kernel
theorem dC_settleCharacters_67 : decode bC_settleCharacters 67 = .ok (.ifCond .eq (7), 3) := by decide +kernel
theorem dC_settleCharacters_70 : decode bC_settleCharacters 70 = .ok (.iconst 1, 1) := by decide +kernel
theorem dC_settleCharacters_71 : decode bC_settleCharacters 71 = .ok (.goto (4), 3) := by decide +kernel
theorem dC_settleCharacters_74 : decode bC_settleCharacters 74 = .ok (.iconst 0, 1) := by decide +kernel
theorem dC_settleCharacters_75 : decode bC_settleCharacters 75 = .ok (.istore 8, 2) := by decide +kernel
theorem dC_settleCharacters_77 : decode bC_settleCharacters 77 = .ok (.aload_n 0, 1) := by decide +kernel
theorem dC_settleCharacters_78 : decode bC_settleCharacters 78 = .ok (.getfield 22, 3) := by decide +kernel
theorem dC_settleCharacters_81 : decode bC_settleCharacters 81 = .ok (.iload 6, 2) := by decide +kernel
theorem dC_settleCharacters_83 : decode bC_settleCharacters 83 = .ok (.iload 7, 2) := by decide +kernel
theorem dC_settleCharacters_85 : decode bC_settleCharacters 85 = .ok (.iload 5, 2) := by decide +kernel
theorem dC_settleCharacters_87 : decode bC_settleCharacters 87 = .ok (.invokestatic 95, 3) := by decide +kernel
theorem dC_settleCharacters_90 : decode bC_settleCharacters 90 = .ok (.iload 8, 2) := by decide +kernel
theorem dC_settleCharacters_92 : decode bC_settleCharacters 92 = .ok (.ifCond .eq (7), 3) := by decide +kernel
theorem dC_settleCharacters_95 : decode bC_settleCharacters 95 = .ok (.iconst 1, 1) := by decide +kernel
theorem dC_settleCharacters_96 : decode bC_settleCharacters 96 = .ok (.goto (4), 3) := by decide +kernel
theorem dC_settleCharacters_99 : decode bC_settleCharacters 99 = .ok (.iconst 0, 1) := by decide +kernel
theorem dC_settleCharacters_100 : decode bC_settleCharacters 100 = .ok (.iastore, 1) := by decide +kernel
theorem dC_settleCharacters_101 : decode bC_settleCharacters 101 = .ok (.aload_n 0, 1) := by decide +kernel
theorem dC_settleCharacters_102 : decode bC_settleCharacters 102 = .ok (.getfield 25, 3) := by decide +kernel
theorem dC_settleCharacters_105 : decode bC_settleCharacters 105 = .ok (.iload 6, 2) := by decide +kernel
theorem dC_settleCharacters_107 : decode bC_settleCharacters 107 = .ok (.iload 7, 2) := by decide +kernel
theorem dC_settleCharacters_109 : decode bC_settleCharacters 109 = .ok (.iload 5, 2) := by decide +kernel
theorem dC_settleCharacters_111 : decode bC_settleCharacters 111 = .ok (.invokestatic 95, 3) := by decide +kernel
theorem dC_settleCharacters_114 : decode bC_settleCharacters 114 = .ok (.iconst (-1), 1) := by decide +kernel
theorem dC_settleCharacters_115 : decode bC_settleCharacters 115 = .ok (.iastore, 1) := by decide +kernel
theorem dC_settleCharacters_116 : decode bC_settleCharacters 116 = .ok (.iinc 7 (1), 3) := by decide +kernel
theorem dC_settleCharacters_119 : decode bC_settleCharacters 119 = .ok (.goto (-96), 3) := by decide +kernel
theorem dC_settleCharacters_122 : decode bC_settleCharacters 122 = .ok (.iinc 6 (1), 3) := by decide +kernel
theorem dC_settleCharacters_125 : decode bC_settleCharacters 125 = .ok (.goto (-114), 3) := by decide +kernel
theorem dC_settleCharacters_128 : decode bC_settleCharacters 128 = .ok (.return_, 1) := by decide +kernel
theorem dC_settleNonterminal_0 : decode bC_settleNonterminal 0 = .ok (.iload 4, 2) := by decide +kernel
theorem dC_settleNonterminal_2 : decode bC_settleNonterminal 2 = .ok (.ifCond .eq (11), 3) := by decide +kernel
theorem dC_settleNonterminal_5 : decode bC_settleNonterminal 5 = .ok (.aload_n 1, 1) := by decide +kernel
theorem dC_settleNonterminal_6 : decode bC_settleNonterminal 6 = .ok (.iload_n 2, 1) := by decide +kernel
theorem dC_settleNonterminal_7 : decode bC_settleNonterminal 7 = .ok (.invokevirtual 99, 3) := by decide +kernel
theorem dC_settleNonterminal_10 : decode bC_settleNonterminal 10 = .ok (.goto (4), 3) := by decide +kernel
theorem dC_settleNonterminal_13 : decode bC_settleNonterminal 13 = .ok (.iconst 0, 1) := by decide +kernel
theorem dC_settleNonterminal_14 : decode bC_settleNonterminal 14 = .ok (.istore 5, 2) := by decide +kernel
theorem dC_settleNonterminal_16 : decode bC_settleNonterminal 16 = .ok (.iconst 0, 1) := by decide +kernel
theorem dC_settleNonterminal_17 : decode bC_settleNonterminal 17 = .ok (.istore 6, 2) := by decide +kernel
theorem dC_settleNonterminal_19 : decode bC_settleNonterminal 19 = .ok (.iload 6, 2) := by decide +kernel
theorem dC_settleNonterminal_21 : decode bC_settleNonterminal 21 = .ok (.aload_n 1, 1) := by decide +kernel
theorem dC_settleNonterminal_22 : decode bC_settleNonterminal 22 = .ok (.invokevirtual 53, 3) := by decide +kernel
theorem dC_settleNonterminal_25 : decode bC_settleNonterminal 25 = .ok (.if_icmp .ge (93), 3) := by decide +kernel
theorem dC_settleNonterminal_28 : decode bC_settleNonterminal 28 = .ok (.iconst 0, 1) := by decide +kernel
theorem dC_settleNonterminal_29 : decode bC_settleNonterminal 29 = .ok (.istore 7, 2) := by decide +kernel
theorem dC_settleNonterminal_31 : decode bC_settleNonterminal 31 = .ok (.iload 7, 2) := by decide +kernel
theorem dC_settleNonterminal_33 : decode bC_settleNonterminal 33 = .ok (.aload_n 1, 1) := by decide +kernel
theorem dC_settleNonterminal_34 : decode bC_settleNonterminal 34 = .ok (.iload 6, 2) := by decide +kernel
theorem dC_settleNonterminal_36 : decode bC_settleNonterminal 36 = .ok (.invokevirtual 85, 3) := by decide +kernel
theorem dC_settleNonterminal_39 : decode bC_settleNonterminal 39 = .ok (.if_icmp .ge (73), 3) := by decide +kernel
theorem dC_settleNonterminal_42 : decode bC_settleNonterminal 42 = .ok (.aload_n 1, 1) := by decide +kernel
theorem dC_settleNonterminal_43 : decode bC_settleNonterminal 43 = .ok (.iload 6, 2) := by decide +kernel
theorem dC_settleNonterminal_45 : decode bC_settleNonterminal 45 = .ok (.iload 7, 2) := by decide +kernel
theorem dC_settleNonterminal_47 : decode bC_settleNonterminal 47 = .ok (.invokevirtual 88, 3) := by decide +kernel
theorem dC_settleNonterminal_50 : decode bC_settleNonterminal 50 = .ok (.iload_n 2, 1) := by decide +kernel
theorem dC_settleNonterminal_51 : decode bC_settleNonterminal 51 = .ok (.if_icmp .ne (55), 3) := by decide +kernel
theorem dC_settleNonterminal_54 : decode bC_settleNonterminal 54 = .ok (.aload_n 1, 1) := by decide +kernel
theorem dC_settleNonterminal_55 : decode bC_settleNonterminal 55 = .ok (.iload 6, 2) := by decide +kernel
theorem dC_settleNonterminal_57 : decode bC_settleNonterminal 57 = .ok (.iload 7, 2) := by decide +kernel
theorem dC_settleNonterminal_59 : decode bC_settleNonterminal 59 = .ok (.iload 5, 2) := by decide +kernel
theorem dC_settleNonterminal_61 : decode bC_settleNonterminal 61 = .ok (.invokevirtual 102, 3) := by decide +kernel
theorem dC_settleNonterminal_64 : decode bC_settleNonterminal 64 = .ok (.istore 8, 2) := by decide +kernel
theorem dC_settleNonterminal_66 : decode bC_settleNonterminal 66 = .ok (.aload_n 0, 1) := by decide +kernel
theorem dC_settleNonterminal_67 : decode bC_settleNonterminal 67 = .ok (.getfield 22, 3) := by decide +kernel
theorem dC_settleNonterminal_70 : decode bC_settleNonterminal 70 = .ok (.iload 6, 2) := by decide +kernel
theorem dC_settleNonterminal_72 : decode bC_settleNonterminal 72 = .ok (.iload 7, 2) := by decide +kernel
theorem dC_settleNonterminal_74 : decode bC_settleNonterminal 74 = .ok (.iload_n 3, 1) := by decide +kernel
theorem dC_settleNonterminal_75 : decode bC_settleNonterminal 75 = .ok (.invokestatic 95, 3) := by decide +kernel
theorem dC_settleNonterminal_78 : decode bC_settleNonterminal 78 = .ok (.aload_n 0, 1) := by decide +kernel
theorem dC_settleNonterminal_79 : decode bC_settleNonterminal 79 = .ok (.iload 8, 2) := by decide +kernel
theorem dC_settleNonterminal_81 : decode bC_settleNonterminal 81 = .ok (.iload_n 3, 1) := by decide +kernel
theorem dC_settleNonterminal_82 : decode bC_settleNonterminal 82 = .ok (.invokevirtual 71, 3) := by decide +kernel
theorem dC_settleNonterminal_85 : decode bC_settleNonterminal 85 = .ok (.iastore, 1) := by decide +kernel
theorem dC_settleNonterminal_86 : decode bC_settleNonterminal 86 = .ok (.aload_n 0, 1) := by decide +kernel
theorem dC_settleNonterminal_87 : decode bC_settleNonterminal 87 = .ok (.getfield 25, 3) := by decide +kernel
theorem dC_settleNonterminal_90 : decode bC_settleNonterminal 90 = .ok (.iload 6, 2) := by decide +kernel
theorem dC_settleNonterminal_92 : decode bC_settleNonterminal 92 = .ok (.iload 7, 2) := by decide +kernel
theorem dC_settleNonterminal_94 : decode bC_settleNonterminal 94 = .ok (.iload_n 3, 1) := by decide +kernel
theorem dC_settleNonterminal_95 : decode bC_settleNonterminal 95 = .ok (.invokestatic 95, 3) := by decide +kernel
theorem dC_settleNonterminal_98 : decode bC_settleNonterminal 98 = .ok (.aload_n 0, 1) := by decide +kernel
theorem dC_settleNonterminal_99 : decode bC_settleNonterminal 99 = .ok (.iload 8, 2) := by decide +kernel
theorem dC_settleNonterminal_101 : decode bC_settleNonterminal 101 = .ok (.iload_n 3, 1) := by decide +kernel
theorem dC_settleNonterminal_102 : decode bC_settleNonterminal 102 = .ok (.invokevirtual 105, 3) := by decide +kernel
theorem dC_settleNonterminal_105 : decode bC_settleNonterminal 105 = .ok (.iastore, 1) := by decide +kernel
theorem dC_settleNonterminal_106 : decode bC_settleNonterminal 106 = .ok (.iinc 7 (1), 3) := by decide +kernel
theorem dC_settleNonterminal_109 : decode bC_settleNonterminal 109 = .ok (.goto (-78), 3) := by decide +kernel
theorem dC_settleNonterminal_112 : decode bC_settleNonterminal 112 = .ok (.iinc 6 (1), 3) := by decide +kernel
theorem dC_settleNonterminal_115 : decode bC_settleNonterminal 115 = .ok (.goto (-96), 3) := by decide +kernel
theorem dC_settleNonterminal_118 : decode bC_settleNonterminal 118 = .ok (.return_, 1) := by decide +kernel
theorem dC_deriveRule_0 : decode bC_deriveRule 0 = .ok (.aload_n 1, 1) := by decide +kernel
theorem dC_deriveRule_1 : decode bC_deriveRule 1 = .ok (.iload_n 2, 1) := by decide +kernel
theorem dC_deriveRule_2 : decode bC_deriveRule 2 = .ok (.invokevirtual 85, 3) := by decide +kernel
theorem dC_deriveRule_5 : decode bC_deriveRule 5 = .ok (.istore 5, 2) := by decide +kernel
theorem dC_deriveRule_7 : decode bC_deriveRule 7 = .ok (.lconst 0, 1) := by decide +kernel
theorem dC_deriveRule_8 : decode bC_deriveRule 8 = .ok (.lstore 6, 2) := by decide +kernel
theorem dC_deriveRule_10 : decode bC_deriveRule 10 = .ok (.dconst 0, 1) := by decide +kernel
theorem dC_deriveRule_11 : decode bC_deriveRule 11 = .ok (.dstore 8, 2) := by decide +kernel
theorem dC_deriveRule_13 : decode bC_deriveRule 13 = .ok (.iconst 0, 1) := by decide +kernel
theorem dC_deriveRule_14 : decode bC_deriveRule 14 = .ok (.istore 10, 2) := by decide +kernel
theorem dC_deriveRule_16 : decode bC_deriveRule 16 = .ok (.aload_n 0, 1) := by decide +kernel
theorem dC_deriveRule_17 : decode bC_deriveRule 17 = .ok (.iload 5, 2) := by decide +kernel
theorem dC_deriveRule_19 : decode bC_deriveRule 19 = .ok (.iload_n 3, 1) := by decide +kernel
theorem dC_deriveRule_20 : decode bC_deriveRule 20 = .ok (.iload 4, 2) := by decide +kernel
theorem dC_deriveRule_22 : decode bC_deriveRule 22 = .ok (.invokevirtual 108, 3) := by decide +kernel
theorem dC_deriveRule_25 : decode bC_deriveRule 25 = .ok (.istore 11, 2) := by decide +kernel
theorem dC_deriveRule_27 : decode bC_deriveRule 27 = .ok (.iconst 0, 1) := by decide +kernel
theorem dC_deriveRule_28 : decode bC_deriveRule 28 = .ok (.istore 12, 2) := by decide +kernel
theorem dC_deriveRule_30 : decode bC_deriveRule 30 = .ok (.iload 12, 2) := by decide +kernel
theorem dC_deriveRule_32 : decode bC_deriveRule 32 = .ok (.sipush 286, 3) := by decide +kernel
theorem dC_deriveRule_35 : decode bC_deriveRule 35 = .ok (.if_icmp .ge (89), 3) := by decide +kernel
theorem dC_deriveRule_38 : decode bC_deriveRule 38 = .ok (.iload 11, 2) := by decide +kernel
theorem dC_deriveRule_40 : decode bC_deriveRule 40 = .ok (.ifCond .eq (84), 3) := by decide +kernel
theorem dC_deriveRule_43 : decode bC_deriveRule 43 = .ok (.aload_n 0, 1) := by decide +kernel
theorem dC_deriveRule_44 : decode bC_deriveRule 44 = .ok (.iload_n 2, 1) := by decide +kernel
theorem dC_deriveRule_45 : decode bC_deriveRule 45 = .ok (.iload 5, 2) := by decide +kernel
theorem dC_deriveRule_47 : decode bC_deriveRule 47 = .ok (.iload_n 3, 1) := by decide +kernel
theorem dC_deriveRule_48 : decode bC_deriveRule 48 = .ok (.invokevirtual 111, 3) := by decide +kernel
theorem dC_deriveRule_51 : decode bC_deriveRule 51 = .ok (.lstore 13, 2) := by decide +kernel
theorem dC_deriveRule_53 : decode bC_deriveRule 53 = .ok (.lload 13, 2) := by decide +kernel
theorem dC_deriveRule_55 : decode bC_deriveRule 55 = .ok (.lconst 0, 1) := by decide +kernel
theorem dC_deriveRule_56 : decode bC_deriveRule 56 = .ok (.lcmp, 1) := by decide +kernel
theorem dC_deriveRule_57 : decode bC_deriveRule 57 = .ok (.ifCond .le (51), 3) := by decide +kernel
theorem dC_deriveRule_60 : decode bC_deriveRule 60 = .ok (.ldc2_w 115, 3) := by decide +kernel
theorem dC_deriveRule_63 : decode bC_deriveRule 63 = .ok (.lload 6, 2) := by decide +kernel
theorem dC_deriveRule_65 : decode bC_deriveRule 65 = .ok (.lload 13, 2) := by decide +kernel
theorem dC_deriveRule_67 : decode bC_deriveRule 67 = .ok (.ladd, 1) := by decide +kernel
theorem dC_deriveRule_68 : decode bC_deriveRule 68 = .ok (.invokestatic 117, 3) := by decide +kernel
theorem dC_deriveRule_71 : decode bC_deriveRule 71 = .ok (.lstore 6, 2) := by decide +kernel
theorem dC_deriveRule_73 : decode bC_deriveRule 73 = .ok (.aload_n 0, 1) := by decide +kernel
theorem dC_deriveRule_74 : decode bC_deriveRule 74 = .ok (.aload_n 1, 1) := by decide +kernel
theorem dC_deriveRule_75 : decode bC_deriveRule 75 = .ok (.iload_n 2, 1) := by decide +kernel
theorem dC_deriveRule_76 : decode bC_deriveRule 76 = .ok (.invokevirtual 123, 3) := by decide +kernel
theorem dC_deriveRule_79 : decode bC_deriveRule 79 = .ok (.iload_n 2, 1) := by decide +kernel
theorem dC_deriveRule_80 : decode bC_deriveRule 80 = .ok (.iload 5, 2) := by decide +kernel
theorem dC_deriveRule_82 : decode bC_deriveRule 82 = .ok (.iload_n 3, 1) := by decide +kernel
theorem dC_deriveRule_83 : decode bC_deriveRule 83 = .ok (.invokevirtual 127, 3) := by decide +kernel
theorem dC_deriveRule_86 : decode bC_deriveRule 86 = .ok (.dstore 15, 2) := by decide +kernel
theorem dC_deriveRule_88 : decode bC_deriveRule 88 = .ok (.dload 15, 2) := by decide +kernel
theorem dC_deriveRule_90 : decode bC_deriveRule 90 = .ok (.dload 8, 2) := by decide +kernel
theorem dC_deriveRule_92 : decode bC_deriveRule 92 = .ok (.dcmp .l, 1) := by decide +kernel
theorem dC_deriveRule_93 : decode bC_deriveRule 93 = .ok (.ifCond .le (15), 3) := by decide +kernel
theorem dC_deriveRule_96 : decode bC_deriveRule 96 = .ok (.dload 15, 2) := by decide +kernel
theorem dC_deriveRule_98 : decode bC_deriveRule 98 = .ok (.dstore 8, 2) := by decide +kernel
theorem dC_deriveRule_100 : decode bC_deriveRule 100 = .ok (.aload_n 0, 1) := by decide +kernel
theorem dC_deriveRule_101 : decode bC_deriveRule 101 = .ok (.iload 5, 2) := by decide +kernel
theorem dC_deriveRule_103 : decode bC_deriveRule 103 = .ok (.invokevirtual 131, 3) := by decide +kernel
theorem dC_deriveRule_106 : decode bC_deriveRule 106 = .ok (.istore 10, 2) := by decide +kernel
theorem dC_deriveRule_108 : decode bC_deriveRule 108 = .ok (.aload_n 0, 1) := by decide +kernel
theorem dC_deriveRule_109 : decode bC_deriveRule 109 = .ok (.iload 5, 2) := by decide +kernel
theorem dC_deriveRule_111 : decode bC_deriveRule 111 = .ok (.iload 4, 2) := by decide +kernel
theorem dC_deriveRule_113 : decode bC_deriveRule 113 = .ok (.invokevirtual 134, 3) := by decide +kernel
theorem dC_deriveRule_116 : decode bC_deriveRule 116 = .ok (.istore 11, 2) := by decide +kernel
theorem dC_deriveRule_118 : decode bC_deriveRule 118 = .ok (.iinc 12 (1), 3) := by decide +kernel
theorem dC_deriveRule_121 : decode bC_deriveRule 121 = .ok (.goto (-91), 3) := by decide +kernel
theorem dC_deriveRule_124 : decode bC_deriveRule 124 = .ok (.iload_n 2, 1) := by decide +kernel
theorem dC_deriveRule_125 : decode bC_deriveRule 125 = .ok (.iload_n 3, 1) := by decide +kernel
theorem dC_deriveRule_126 : decode bC_deriveRule 126 = .ok (.iload 4, 2) := by decide +kernel
theorem dC_deriveRule_128 : decode bC_deriveRule 128 = .ok (.invokestatic 64, 3) := by decide +kernel
theorem dC_deriveRule_131 : decode bC_deriveRule 131 = .ok (.invokestatic 137, 3) := by decide +kernel
theorem dC_deriveRule_134 : decode bC_deriveRule 134 = .ok (.istore 12, 2) := by decide +kernel
theorem dC_deriveRule_136 : decode bC_deriveRule 136 = .ok (.aload_n 0, 1) := by decide +kernel
theorem dC_deriveRule_137 : decode bC_deriveRule 137 = .ok (.getfield 9, 3) := by decide +kernel
theorem dC_deriveRule_140 : decode bC_deriveRule 140 = .ok (.iload 12, 2) := by decide +kernel
theorem dC_deriveRule_142 : decode bC_deriveRule 142 = .ok (.lload 6, 2) := by decide +kernel
theorem dC_deriveRule_144 : decode bC_deriveRule 144 = .ok (.l2i, 1) := by decide +kernel
theorem dC_deriveRule_145 : decode bC_deriveRule 145 = .ok (.iastore, 1) := by decide +kernel
theorem dC_deriveRule_146 : decode bC_deriveRule 146 = .ok (.aload_n 0, 1) := by decide +kernel
theorem dC_deriveRule_147 : decode bC_deriveRule 147 = .ok (.getfield 15, 3) := by decide +kernel
theorem dC_deriveRule_150 : decode bC_deriveRule 150 = .ok (.iload 12, 2) := by decide +kernel
theorem dC_deriveRule_152 : decode bC_deriveRule 152 = .ok (.dload 8, 2) := by decide +kernel
theorem dC_deriveRule_154 : decode bC_deriveRule 154 = .ok (.dastore, 1) := by decide +kernel
theorem dC_deriveRule_155 : decode bC_deriveRule 155 = .ok (.aload_n 0, 1) := by decide +kernel
theorem dC_deriveRule_156 : decode bC_deriveRule 156 = .ok (.getfield 19, 3) := by decide +kernel
theorem dC_deriveRule_159 : decode bC_deriveRule 159 = .ok (.iload 12, 2) := by decide +kernel
theorem dC_deriveRule_161 : decode bC_deriveRule 161 = .ok (.iload 10, 2) := by decide +kernel
theorem dC_deriveRule_163 : decode bC_deriveRule 163 = .ok (.iastore, 1) := by decide +kernel
theorem dC_deriveRule_164 : decode bC_deriveRule 164 = .ok (.return_, 1) := by decide +kernel
theorem dC_firstDivision_0 : decode bC_firstDivision 0 = .ok (.iconst 0, 1) := by decide +kernel
theorem dC_firstDivision_1 : decode bC_firstDivision 1 = .ok (.istore 4, 2) := by decide +kernel
theorem dC_firstDivision_3 : decode bC_firstDivision 3 = .ok (.iload 4, 2) := by decide +kernel
theorem dC_firstDivision_5 : decode bC_firstDivision 5 = .ok (.iload_n 1, 1) := by decide +kernel
theorem dC_firstDivision_6 : decode bC_firstDivision 6 = .ok (.iconst 1, 1) := by decide +kernel
theorem dC_firstDivision_7 : decode bC_firstDivision 7 = .ok (.isub, 1) := by decide +kernel
theorem dC_firstDivision_8 : decode bC_firstDivision 8 = .ok (.if_icmp .ge (22), 3) := by decide +kernel
theorem dC_firstDivision_11 : decode bC_firstDivision 11 = .ok (.aload_n 0, 1) := by decide +kernel
theorem dC_firstDivision_12 : decode bC_firstDivision 12 = .ok (.getfield 31, 3) := by decide +kernel
theorem dC_firstDivision_15 : decode bC_firstDivision 15 = .ok (.iload 4, 2) := by decide +kernel
theorem dC_firstDivision_17 : decode bC_firstDivision 17 = .ok (.iload_n 2, 1) := by decide +kernel
theorem dC_firstDivision_18 : decode bC_firstDivision 18 = .ok (.iload 4, 2) := by decide +kernel
theorem dC_firstDivision_20 : decode bC_firstDivision 20 = .ok (.iadd, 1) := by decide +kernel
theorem dC_firstDivision_21 : decode bC_firstDivision 21 = .ok (.iconst 1, 1) := by decide +kernel
theorem dC_firstDivision_22 : decode bC_firstDivision 22 = .ok (.iadd, 1) := by decide +kernel
theorem dC_firstDivision_23 : decode bC_firstDivision 23 = .ok (.iastore, 1) := by decide +kernel
theorem dC_firstDivision_24 : decode bC_firstDivision 24 = .ok (.iinc 4 (1), 3) := by decide +kernel
theorem dC_firstDivision_27 : decode bC_firstDivision 27 = .ok (.goto (-24), 3) := by decide +kernel
theorem dC_firstDivision_30 : decode bC_firstDivision 30 = .ok (.aload_n 0, 1) := by decide +kernel
theorem dC_firstDivision_31 : decode bC_firstDivision 31 = .ok (.getfield 31, 3) := by decide +kernel
theorem dC_firstDivision_34 : decode bC_firstDivision 34 = .ok (.iload_n 1, 1) := by decide +kernel
theorem dC_firstDivision_35 : decode bC_firstDivision 35 = .ok (.iconst 1, 1) := by decide +kernel
theorem dC_firstDivision_36 : decode bC_firstDivision 36 = .ok (.isub, 1) := by decide +kernel
theorem dC_firstDivision_37 : decode bC_firstDivision 37 = .ok (.iload_n 3, 1) := by decide +kernel
theorem dC_firstDivision_38 : decode bC_firstDivision 38 = .ok (.iastore, 1) := by decide +kernel
theorem dC_firstDivision_39 : decode bC_firstDivision 39 = .ok (.iload_n 3, 1) := by decide +kernel
theorem dC_firstDivision_40 : decode bC_firstDivision 40 = .ok (.iload_n 2, 1) := by decide +kernel
theorem dC_firstDivision_41 : decode bC_firstDivision 41 = .ok (.isub, 1) := by decide +kernel
theorem dC_firstDivision_42 : decode bC_firstDivision 42 = .ok (.iload_n 1, 1) := by decide +kernel
theorem dC_firstDivision_43 : decode bC_firstDivision 43 = .ok (.if_icmp .lt (7), 3) := by decide +kernel
theorem dC_firstDivision_46 : decode bC_firstDivision 46 = .ok (.iconst 1, 1) := by decide +kernel
theorem dC_firstDivision_47 : decode bC_firstDivision 47 = .ok (.goto (4), 3) := by decide +kernel
theorem dC_firstDivision_50 : decode bC_firstDivision 50 = .ok (.iconst 0, 1) := by decide +kernel
theorem dC_firstDivision_51 : decode bC_firstDivision 51 = .ok (.ireturn, 1) := by decide +kernel
theorem dC_nextDivision_0 : decode bC_nextDivision 0 = .ok (.iload_n 1, 1) := by decide +kernel
theorem dC_nextDivision_1 : decode bC_nextDivision 1 = .ok (.iconst 2, 1) := by decide +kernel
theorem dC_nextDivision_2 : decode bC_nextDivision 2 = .ok (.isub, 1) := by decide +kernel
theorem dC_nextDivision_3 : decode bC_nextDivision 3 = .ok (.istore_n 3, 1) := by decide +kernel
theorem dC_nextDivision_4 : decode bC_nextDivision 4 = .ok (.iload_n 3, 1) := by decide +kernel
theorem dC_nextDivision_5 : decode bC_nextDivision 5 = .ok (.ifCond .lt (78), 3) := by decide +kernel
theorem dC_nextDivision_8 : decode bC_nextDivision 8 = .ok (.iload_n 1, 1) := by decide +kernel
theorem dC_nextDivision_9 : decode bC_nextDivision 9 = .ok (.iconst 1, 1) := by decide +kernel
theorem dC_nextDivision_10 : decode bC_nextDivision 10 = .ok (.isub, 1) := by decide +kernel
theorem dC_nextDivision_11 : decode bC_nextDivision 11 = .ok (.iload_n 3, 1) := by decide +kernel
theorem dC_nextDivision_12 : decode bC_nextDivision 12 = .ok (.isub, 1) := by decide +kernel
theorem dC_nextDivision_13 : decode bC_nextDivision 13 = .ok (.istore 4, 2) := by decide +kernel
theorem dC_nextDivision_15 : decode bC_nextDivision 15 = .ok (.aload_n 0, 1) := by decide +kernel
theorem dC_nextDivision_16 : decode bC_nextDivision 16 = .ok (.getfield 31, 3) := by decide +kernel
theorem dC_nextDivision_19 : decode bC_nextDivision 19 = .ok (.iload_n 3, 1) := by decide +kernel
theorem dC_nextDivision_20 : decode bC_nextDivision 20 = .ok (.iaload, 1) := by decide +kernel
theorem dC_nextDivision_21 : decode bC_nextDivision 21 = .ok (.iload 4, 2) := by decide +kernel
theorem dC_nextDivision_23 : decode bC_nextDivision 23 = .ok (.iadd, 1) := by decide +kernel
theorem dC_nextDivision_24 : decode bC_nextDivision 24 = .ok (.iload_n 2, 1) := by decide +kernel
theorem dC_nextDivision_25 : decode bC_nextDivision 25 = .ok (.if_icmp .ge (52), 3) := by decide +kernel
theorem dC_nextDivision_28 : decode bC_nextDivision 28 = .ok (.aload_n 0, 1) := by decide +kernel
theorem dC_nextDivision_29 : decode bC_nextDivision 29 = .ok (.getfield 31, 3) := by decide +kernel
theorem dC_nextDivision_32 : decode bC_nextDivision 32 = .ok (.iload_n 3, 1) := by decide +kernel
theorem dC_nextDivision_33 : decode bC_nextDivision 33 = .ok (.dup2, 1) := by decide +kernel
theorem dC_nextDivision_34 : decode bC_nextDivision 34 = .ok (.iaload, 1) := by decide +kernel
theorem dC_nextDivision_35 : decode bC_nextDivision 35 = .ok (.iconst 1, 1) := by decide +kernel
theorem dC_nextDivision_36 : decode bC_nextDivision 36 = .ok (.iadd, 1) := by decide +kernel
theorem dC_nextDivision_37 : decode bC_nextDivision 37 = .ok (.iastore, 1) := by decide +kernel
theorem dC_nextDivision_38 : decode bC_nextDivision 38 = .ok (.iload_n 3, 1) := by decide +kernel
theorem dC_nextDivision_39 : decode bC_nextDivision 39 = .ok (.iconst 1, 1) := by decide +kernel
theorem dC_nextDivision_40 : decode bC_nextDivision 40 = .ok (.iadd, 1) := by decide +kernel
theorem dC_nextDivision_41 : decode bC_nextDivision 41 = .ok (.istore 5, 2) := by decide +kernel
theorem dC_nextDivision_43 : decode bC_nextDivision 43 = .ok (.iload 5, 2) := by decide +kernel
theorem dC_nextDivision_45 : decode bC_nextDivision 45 = .ok (.iload_n 1, 1) := by decide +kernel
theorem dC_nextDivision_46 : decode bC_nextDivision 46 = .ok (.iconst 1, 1) := by decide +kernel
theorem dC_nextDivision_47 : decode bC_nextDivision 47 = .ok (.isub, 1) := by decide +kernel
theorem dC_nextDivision_48 : decode bC_nextDivision 48 = .ok (.if_icmp .ge (27), 3) := by decide +kernel
theorem dC_nextDivision_51 : decode bC_nextDivision 51 = .ok (.aload_n 0, 1) := by decide +kernel
theorem dC_nextDivision_52 : decode bC_nextDivision 52 = .ok (.getfield 31, 3) := by decide +kernel
theorem dC_nextDivision_55 : decode bC_nextDivision 55 = .ok (.iload 5, 2) := by decide +kernel
theorem dC_nextDivision_57 : decode bC_nextDivision 57 = .ok (.aload_n 0, 1) := by decide +kernel
theorem dC_nextDivision_58 : decode bC_nextDivision 58 = .ok (.getfield 31, 3) := by decide +kernel
theorem dC_nextDivision_61 : decode bC_nextDivision 61 = .ok (.iload 5, 2) := by decide +kernel
theorem dC_nextDivision_63 : decode bC_nextDivision 63 = .ok (.iconst 1, 1) := by decide +kernel
theorem dC_nextDivision_64 : decode bC_nextDivision 64 = .ok (.isub, 1) := by decide +kernel
theorem dC_nextDivision_65 : decode bC_nextDivision 65 = .ok (.iaload, 1) := by decide +kernel
theorem dC_nextDivision_66 : decode bC_nextDivision 66 = .ok (.iconst 1, 1) := by decide +kernel
theorem dC_nextDivision_67 : decode bC_nextDivision 67 = .ok (.iadd, 1) := by decide +kernel
theorem dC_nextDivision_68 : decode bC_nextDivision 68 = .ok (.iastore, 1) := by decide +kernel
theorem dC_nextDivision_69 : decode bC_nextDivision 69 = .ok (.iinc 5 (1), 3) := by decide +kernel
theorem dC_nextDivision_72 : decode bC_nextDivision 72 = .ok (.goto (-29), 3) := by decide +kernel
theorem dC_nextDivision_75 : decode bC_nextDivision 75 = .ok (.iconst 1, 1) := by decide +kernel
theorem dC_nextDivision_76 : decode bC_nextDivision 76 = .ok (.ireturn, 1) := by decide +kernel
theorem dC_nextDivision_77 : decode bC_nextDivision 77 = .ok (.iinc 3 (-1), 3) := by decide +kernel
theorem dC_nextDivision_80 : decode bC_nextDivision 80 = .ok (.goto (-76), 3) := by decide +kernel
theorem dC_nextDivision_83 : decode bC_nextDivision 83 = .ok (.iconst 0, 1) := by decide +kernel
theorem dC_nextDivision_84 : decode bC_nextDivision 84 = .ok (.ireturn, 1) := by decide +kernel
theorem dC_divisionWays_0 : decode bC_divisionWays 0 = .ok (.lconst 1, 1) := by decide +kernel
theorem dC_divisionWays_1 : decode bC_divisionWays 1 = .ok (.lstore 4, 2) := by decide +kernel
theorem dC_divisionWays_3 : decode bC_divisionWays 3 = .ok (.iload_n 3, 1) := by decide +kernel
theorem dC_divisionWays_4 : decode bC_divisionWays 4 = .ok (.istore 6, 2) := by decide +kernel
theorem dC_divisionWays_6 : decode bC_divisionWays 6 = .ok (.iconst 0, 1) := by decide +kernel
theorem dC_divisionWays_7 : decode bC_divisionWays 7 = .ok (.istore 7, 2) := by decide +kernel
theorem dC_divisionWays_9 : decode bC_divisionWays 9 = .ok (.iload 7, 2) := by decide +kernel
theorem dC_divisionWays_11 : decode bC_divisionWays 11 = .ok (.iload_n 2, 1) := by decide +kernel
theorem dC_divisionWays_12 : decode bC_divisionWays 12 = .ok (.if_icmp .ge (60), 3) := by decide +kernel
theorem dC_divisionWays_15 : decode bC_divisionWays 15 = .ok (.lload 4, 2) := by decide +kernel
theorem dC_divisionWays_17 : decode bC_divisionWays 17 = .ok (.lconst 0, 1) := by decide +kernel
theorem dC_divisionWays_18 : decode bC_divisionWays 18 = .ok (.lcmp, 1) := by decide +kernel
theorem dC_divisionWays_19 : decode bC_divisionWays 19 = .ok (.ifCond .le (53), 3) := by decide +kernel
theorem dC_divisionWays_22 : decode bC_divisionWays 22 = .ok (.ldc2_w 115, 3) := by decide +kernel
theorem dC_divisionWays_25 : decode bC_divisionWays 25 = .ok (.lload 4, 2) := by decide +kernel
theorem dC_divisionWays_27 : decode bC_divisionWays 27 = .ok (.aload_n 0, 1) := by decide +kernel
theorem dC_divisionWays_28 : decode bC_divisionWays 28 = .ok (.getfield 22, 3) := by decide +kernel
theorem dC_divisionWays_31 : decode bC_divisionWays 31 = .ok (.iload_n 1, 1) := by decide +kernel
theorem dC_divisionWays_32 : decode bC_divisionWays 32 = .ok (.iload 7, 2) := by decide +kernel
theorem dC_divisionWays_34 : decode bC_divisionWays 34 = .ok (.iload 6, 2) := by decide +kernel
theorem dC_divisionWays_36 : decode bC_divisionWays 36 = .ok (.aload_n 0, 1) := by decide +kernel
theorem dC_divisionWays_37 : decode bC_divisionWays 37 = .ok (.getfield 31, 3) := by decide +kernel
theorem dC_divisionWays_40 : decode bC_divisionWays 40 = .ok (.iload 7, 2) := by decide +kernel
theorem dC_divisionWays_42 : decode bC_divisionWays 42 = .ok (.iaload, 1) := by decide +kernel
theorem dC_divisionWays_43 : decode bC_divisionWays 43 = .ok (.invokestatic 64, 3) := by decide +kernel
theorem dC_divisionWays_46 : decode bC_divisionWays 46 = .ok (.invokestatic 95, 3) := by decide +kernel
theorem dC_divisionWays_49 : decode bC_divisionWays 49 = .ok (.iaload, 1) := by decide +kernel
theorem dC_divisionWays_50 : decode bC_divisionWays 50 = .ok (.i2l, 1) := by decide +kernel
theorem dC_divisionWays_51 : decode bC_divisionWays 51 = .ok (.lmul, 1) := by decide +kernel
theorem dC_divisionWays_52 : decode bC_divisionWays 52 = .ok (.invokestatic 117, 3) := by decide +kernel
theorem dC_divisionWays_55 : decode bC_divisionWays 55 = .ok (.lstore 4, 2) := by decide +kernel
theorem dC_divisionWays_57 : decode bC_divisionWays 57 = .ok (.aload_n 0, 1) := by decide +kernel
theorem dC_divisionWays_58 : decode bC_divisionWays 58 = .ok (.getfield 31, 3) := by decide +kernel
theorem dC_divisionWays_61 : decode bC_divisionWays 61 = .ok (.iload 7, 2) := by decide +kernel
theorem dC_divisionWays_63 : decode bC_divisionWays 63 = .ok (.iaload, 1) := by decide +kernel
theorem dC_divisionWays_64 : decode bC_divisionWays 64 = .ok (.istore 6, 2) := by decide +kernel
theorem dC_divisionWays_66 : decode bC_divisionWays 66 = .ok (.iinc 7 (1), 3) := by decide +kernel
theorem dC_divisionWays_69 : decode bC_divisionWays 69 = .ok (.goto (-60), 3) := by decide +kernel
theorem dC_divisionWays_72 : decode bC_divisionWays 72 = .ok (.lload 4, 2) := by decide +kernel
theorem dC_divisionWays_74 : decode bC_divisionWays 74 = .ok (.lreturn, 1) := by decide +kernel
theorem dC_divisionWeight_0 : decode bC_divisionWeight 0 = .ok (.dload_n 1, 1) := by decide +kernel
theorem dC_divisionWeight_1 : decode bC_divisionWeight 1 = .ok (.dstore 6, 2) := by decide +kernel
theorem dC_divisionWeight_3 : decode bC_divisionWeight 3 = .ok (.iload 5, 2) := by decide +kernel
theorem dC_divisionWeight_5 : decode bC_divisionWeight 5 = .ok (.istore 8, 2) := by decide +kernel
theorem dC_divisionWeight_7 : decode bC_divisionWeight 7 = .ok (.iconst 0, 1) := by decide +kernel
theorem dC_divisionWeight_8 : decode bC_divisionWeight 8 = .ok (.istore 9, 2) := by decide +kernel
theorem dC_divisionWeight_10 : decode bC_divisionWeight 10 = .ok (.iload 9, 2) := by decide +kernel
theorem dC_divisionWeight_12 : decode bC_divisionWeight 12 = .ok (.iload 4, 2) := by decide +kernel
theorem dC_divisionWeight_14 : decode bC_divisionWeight 14 = .ok (.if_icmp .ge (70), 3) := by decide +kernel
theorem dC_divisionWeight_17 : decode bC_divisionWeight 17 = .ok (.iload 8, 2) := by decide +kernel
theorem dC_divisionWeight_19 : decode bC_divisionWeight 19 = .ok (.aload_n 0, 1) := by decide +kernel
theorem dC_divisionWeight_20 : decode bC_divisionWeight 20 = .ok (.getfield 31, 3) := by decide +kernel
theorem dC_divisionWeight_23 : decode bC_divisionWeight 23 = .ok (.iload 9, 2) := by decide +kernel
theorem dC_divisionWeight_25 : decode bC_divisionWeight 25 = .ok (.iaload, 1) := by decide +kernel
theorem dC_divisionWeight_26 : decode bC_divisionWeight 26 = .ok (.invokestatic 64, 3) := by decide +kernel
theorem dC_divisionWeight_29 : decode bC_divisionWeight 29 = .ok (.istore 10, 2) := by decide +kernel
theorem dC_divisionWeight_31 : decode bC_divisionWeight 31 = .ok (.aload_n 0, 1) := by decide +kernel
theorem dC_divisionWeight_32 : decode bC_divisionWeight 32 = .ok (.getfield 25, 3) := by decide +kernel
theorem dC_divisionWeight_35 : decode bC_divisionWeight 35 = .ok (.iload_n 3, 1) := by decide +kernel
theorem dC_divisionWeight_36 : decode bC_divisionWeight 36 = .ok (.iload 9, 2) := by decide +kernel
theorem dC_divisionWeight_38 : decode bC_divisionWeight 38 = .ok (.iload 10, 2) := by decide +kernel
theorem dC_divisionWeight_40 : decode bC_divisionWeight 40 = .ok (.invokestatic 95, 3) := by decide +kernel
theorem dC_divisionWeight_43 : decode bC_divisionWeight 43 = .ok (.iaload, 1) := by decide +kernel
theorem dC_divisionWeight_44 : decode bC_divisionWeight 44 = .ok (.istore 11, 2) := by decide +kernel
theorem dC_divisionWeight_46 : decode bC_divisionWeight 46 = .ok (.iload 11, 2) := by decide +kernel
theorem dC_divisionWeight_48 : decode bC_divisionWeight 48 = .ok (.iconst (-1), 1) := by decide +kernel
theorem dC_divisionWeight_49 : decode bC_divisionWeight 49 = .ok (.if_icmp .eq (20), 3) := by decide +kernel
theorem dC_divisionWeight_52 : decode bC_divisionWeight 52 = .ok (.dload 6, 2) := by decide +kernel
theorem dC_divisionWeight_54 : decode bC_divisionWeight 54 = .ok (.aload_n 0, 1) := by decide +kernel
theorem dC_divisionWeight_55 : decode bC_divisionWeight 55 = .ok (.getfield 15, 3) := by decide +kernel
theorem dC_divisionWeight_58 : decode bC_divisionWeight 58 = .ok (.iload 11, 2) := by decide +kernel
theorem dC_divisionWeight_60 : decode bC_divisionWeight 60 = .ok (.iload 10, 2) := by decide +kernel
theorem dC_divisionWeight_62 : decode bC_divisionWeight 62 = .ok (.invokestatic 137, 3) := by decide +kernel
theorem dC_divisionWeight_65 : decode bC_divisionWeight 65 = .ok (.daload, 1) := by decide +kernel
theorem dC_divisionWeight_66 : decode bC_divisionWeight 66 = .ok (.dmul, 1) := by decide +kernel
theorem dC_divisionWeight_67 : decode bC_divisionWeight 67 = .ok (.dstore 6, 2) := by decide +kernel
theorem dC_divisionWeight_69 : decode bC_divisionWeight 69 = .ok (.aload_n 0, 1) := by decide +kernel
theorem dC_divisionWeight_70 : decode bC_divisionWeight 70 = .ok (.getfield 31, 3) := by decide +kernel
theorem dC_divisionWeight_73 : decode bC_divisionWeight 73 = .ok (.iload 9, 2) := by decide +kernel
theorem dC_divisionWeight_75 : decode bC_divisionWeight 75 = .ok (.iaload, 1) := by decide +kernel
theorem dC_divisionWeight_76 : decode bC_divisionWeight 76 = .ok (.istore 8, 2) := by decide +kernel
theorem dC_divisionWeight_78 : decode bC_divisionWeight 78 = .ok (.iinc 9 (1), 3) := by decide +kernel
theorem dC_divisionWeight_81 : decode bC_divisionWeight 81 = .ok (.goto (-71), 3) := by decide +kernel
theorem dC_divisionWeight_84 : decode bC_divisionWeight 84 = .ok (.dload 6, 2) := by decide +kernel
theorem dC_divisionWeight_86 : decode bC_divisionWeight 86 = .ok (.dreturn, 1) := by decide +kernel
theorem dC_packedEnds_0 : decode bC_packedEnds 0 = .ok (.iconst 0, 1) := by decide +kernel
theorem dC_packedEnds_1 : decode bC_packedEnds 1 = .ok (.istore_n 2, 1) := by decide +kernel
theorem dC_packedEnds_2 : decode bC_packedEnds 2 = .ok (.iconst 0, 1) := by decide +kernel
theorem dC_packedEnds_3 : decode bC_packedEnds 3 = .ok (.istore_n 3, 1) := by decide +kernel
theorem dC_packedEnds_4 : decode bC_packedEnds 4 = .ok (.iload_n 3, 1) := by decide +kernel
theorem dC_packedEnds_5 : decode bC_packedEnds 5 = .ok (.iload_n 1, 1) := by decide +kernel
theorem dC_packedEnds_6 : decode bC_packedEnds 6 = .ok (.if_icmp .ge (22), 3) := by decide +kernel
theorem dC_packedEnds_9 : decode bC_packedEnds 9 = .ok (.iload_n 2, 1) := by decide +kernel
theorem dC_packedEnds_10 : decode bC_packedEnds 10 = .ok (.aload_n 0, 1) := by decide +kernel
theorem dC_packedEnds_11 : decode bC_packedEnds 11 = .ok (.getfield 31, 3) := by decide +kernel
theorem dC_packedEnds_14 : decode bC_packedEnds 14 = .ok (.iload_n 3, 1) := by decide +kernel
theorem dC_packedEnds_15 : decode bC_packedEnds 15 = .ok (.iaload, 1) := by decide +kernel
theorem dC_packedEnds_16 : decode bC_packedEnds 16 = .ok (.iconst 4, 1) := by decide +kernel
theorem dC_packedEnds_17 : decode bC_packedEnds 17 = .ok (.iload_n 3, 1) := by decide +kernel
theorem dC_packedEnds_18 : decode bC_packedEnds 18 = .ok (.imul, 1) := by decide +kernel
theorem dC_packedEnds_19 : decode bC_packedEnds 19 = .ok (.ishl, 1) := by decide +kernel
theorem dC_packedEnds_20 : decode bC_packedEnds 20 = .ok (.ior, 1) := by decide +kernel
theorem dC_packedEnds_21 : decode bC_packedEnds 21 = .ok (.istore_n 2, 1) := by decide +kernel
theorem dC_packedEnds_22 : decode bC_packedEnds 22 = .ok (.iinc 3 (1), 3) := by decide +kernel
theorem dC_packedEnds_25 : decode bC_packedEnds 25 = .ok (.goto (-21), 3) := by decide +kernel
theorem dC_packedEnds_28 : decode bC_packedEnds 28 = .ok (.iload_n 2, 1) := by decide +kernel
theorem dC_packedEnds_29 : decode bC_packedEnds 29 = .ok (.ireturn, 1) := by decide +kernel
theorem dC_waysOf_0 : decode bC_waysOf 0 = .ok (.aload_n 0, 1) := by decide +kernel
theorem dC_waysOf_1 : decode bC_waysOf 1 = .ok (.getfield 9, 3) := by decide +kernel
theorem dC_waysOf_4 : decode bC_waysOf 4 = .ok (.iload_n 1, 1) := by decide +kernel
theorem dC_waysOf_5 : decode bC_waysOf 5 = .ok (.iload_n 2, 1) := by decide +kernel
theorem dC_waysOf_6 : decode bC_waysOf 6 = .ok (.invokestatic 137, 3) := by decide +kernel
theorem dC_waysOf_9 : decode bC_waysOf 9 = .ok (.iaload, 1) := by decide +kernel
theorem dC_waysOf_10 : decode bC_waysOf 10 = .ok (.ireturn, 1) := by decide +kernel
theorem dC_heaviestWeight_0 : decode bC_heaviestWeight 0 = .ok (.aload_n 0, 1) := by decide +kernel
theorem dC_heaviestWeight_1 : decode bC_heaviestWeight 1 = .ok (.getfield 15, 3) := by decide +kernel
theorem dC_heaviestWeight_4 : decode bC_heaviestWeight 4 = .ok (.iload_n 1, 1) := by decide +kernel
theorem dC_heaviestWeight_5 : decode bC_heaviestWeight 5 = .ok (.iload_n 2, 1) := by decide +kernel
theorem dC_heaviestWeight_6 : decode bC_heaviestWeight 6 = .ok (.invokestatic 137, 3) := by decide +kernel
theorem dC_heaviestWeight_9 : decode bC_heaviestWeight 9 = .ok (.daload, 1) := by decide +kernel
theorem dC_heaviestWeight_10 : decode bC_heaviestWeight 10 = .ok (.dreturn, 1) := by decide +kernel
theorem dC_symbolEnd_0 : decode bC_symbolEnd 0 = .ok (.aload_n 0, 1) := by decide +kernel
theorem dC_symbolEnd_1 : decode bC_symbolEnd 1 = .ok (.getfield 19, 3) := by decide +kernel
theorem dC_symbolEnd_4 : decode bC_symbolEnd 4 = .ok (.iload_n 1, 1) := by decide +kernel
theorem dC_symbolEnd_5 : decode bC_symbolEnd 5 = .ok (.iload_n 3, 1) := by decide +kernel
theorem dC_symbolEnd_6 : decode bC_symbolEnd 6 = .ok (.invokestatic 137, 3) := by decide +kernel
theorem dC_symbolEnd_9 : decode bC_symbolEnd 9 = .ok (.iaload, 1) := by decide +kernel
theorem dC_symbolEnd_10 : decode bC_symbolEnd 10 = .ok (.iconst 4, 1) := by decide +kernel
theorem dC_symbolEnd_11 : decode bC_symbolEnd 11 = .ok (.iload_n 2, 1) := by decide +kernel
theorem dC_symbolEnd_12 : decode bC_symbolEnd 12 = .ok (.imul, 1) := by decide +kernel
theorem dC_symbolEnd_13 : decode bC_symbolEnd 13 = .ok (.ishr, 1) := by decide +kernel
theorem dC_symbolEnd_14 : decode bC_symbolEnd 14 = .ok (.bipush 15, 2) := by decide +kernel
theorem dC_symbolEnd_16 : decode bC_symbolEnd 16 = .ok (.iand, 1) := by decide +kernel
theorem dC_symbolEnd_17 : decode bC_symbolEnd 17 = .ok (.ireturn, 1) := by decide +kernel
theorem dC_ruleBelow_0 : decode bC_ruleBelow 0 = .ok (.aload_n 0, 1) := by decide +kernel
theorem dC_ruleBelow_1 : decode bC_ruleBelow 1 = .ok (.getfield 25, 3) := by decide +kernel
theorem dC_ruleBelow_4 : decode bC_ruleBelow 4 = .ok (.iload_n 1, 1) := by decide +kernel
theorem dC_ruleBelow_5 : decode bC_ruleBelow 5 = .ok (.iload_n 2, 1) := by decide +kernel
theorem dC_ruleBelow_6 : decode bC_ruleBelow 6 = .ok (.iload_n 3, 1) := by decide +kernel
theorem dC_ruleBelow_7 : decode bC_ruleBelow 7 = .ok (.invokestatic 95, 3) := by decide +kernel
theorem dC_ruleBelow_10 : decode bC_ruleBelow 10 = .ok (.iaload, 1) := by decide +kernel
theorem dC_ruleBelow_11 : decode bC_ruleBelow 11 = .ok (.ireturn, 1) := by decide +kernel
theorem dC_waysOfAny_0 : decode bC_waysOfAny 0 = .ok (.lconst 0, 1) := by decide +kernel
theorem dC_waysOfAny_1 : decode bC_waysOfAny 1 = .ok (.lstore_n 3, 1) := by decide +kernel
theorem dC_waysOfAny_2 : decode bC_waysOfAny 2 = .ok (.iconst 0, 1) := by decide +kernel
theorem dC_waysOfAny_3 : decode bC_waysOfAny 3 = .ok (.istore 5, 2) := by decide +kernel
theorem dC_waysOfAny_5 : decode bC_waysOfAny 5 = .ok (.iload 5, 2) := by decide +kernel
theorem dC_waysOfAny_7 : decode bC_waysOfAny 7 = .ok (.bipush 16, 2) := by decide +kernel
theorem dC_waysOfAny_9 : decode bC_waysOfAny 9 = .ok (.if_icmp .ge (39), 3) := by decide +kernel
theorem dC_waysOfAny_12 : decode bC_waysOfAny 12 = .ok (.iload_n 1, 1) := by decide +kernel
theorem dC_waysOfAny_13 : decode bC_waysOfAny 13 = .ok (.iload 5, 2) := by decide +kernel
theorem dC_waysOfAny_15 : decode bC_waysOfAny 15 = .ok (.invokestatic 140, 3) := by decide +kernel
theorem dC_waysOfAny_18 : decode bC_waysOfAny 18 = .ok (.ifCond .eq (24), 3) := by decide +kernel
theorem dC_waysOfAny_21 : decode bC_waysOfAny 21 = .ok (.ldc2_w 115, 3) := by decide +kernel
theorem dC_waysOfAny_24 : decode bC_waysOfAny 24 = .ok (.lload_n 3, 1) := by decide +kernel
theorem dC_waysOfAny_25 : decode bC_waysOfAny 25 = .ok (.aload_n 0, 1) := by decide +kernel
theorem dC_waysOfAny_26 : decode bC_waysOfAny 26 = .ok (.getfield 9, 3) := by decide +kernel
theorem dC_waysOfAny_29 : decode bC_waysOfAny 29 = .ok (.iload 5, 2) := by decide +kernel
theorem dC_waysOfAny_31 : decode bC_waysOfAny 31 = .ok (.iload_n 2, 1) := by decide +kernel
theorem dC_waysOfAny_32 : decode bC_waysOfAny 32 = .ok (.invokestatic 137, 3) := by decide +kernel
theorem dC_waysOfAny_35 : decode bC_waysOfAny 35 = .ok (.iaload, 1) := by decide +kernel
theorem dC_waysOfAny_36 : decode bC_waysOfAny 36 = .ok (.i2l, 1) := by decide +kernel
theorem dC_waysOfAny_37 : decode bC_waysOfAny 37 = .ok (.ladd, 1) := by decide +kernel
theorem dC_waysOfAny_38 : decode bC_waysOfAny 38 = .ok (.invokestatic 117, 3) := by decide +kernel
theorem dC_waysOfAny_41 : decode bC_waysOfAny 41 = .ok (.lstore_n 3, 1) := by decide +kernel
theorem dC_waysOfAny_42 : decode bC_waysOfAny 42 = .ok (.iinc 5 (1), 3) := by decide +kernel
theorem dC_waysOfAny_45 : decode bC_waysOfAny 45 = .ok (.goto (-40), 3) := by decide +kernel
theorem dC_waysOfAny_48 : decode bC_waysOfAny 48 = .ok (.lload_n 3, 1) := by decide +kernel
theorem dC_waysOfAny_49 : decode bC_waysOfAny 49 = .ok (.l2i, 1) := by decide +kernel
theorem dC_waysOfAny_50 : decode bC_waysOfAny 50 = .ok (.ireturn, 1) := by decide +kernel
theorem dC_heaviestOf_0 : decode bC_heaviestOf 0 = .ok (.iconst (-1), 1) := by decide +kernel
theorem dC_heaviestOf_1 : decode bC_heaviestOf 1 = .ok (.istore_n 3, 1) := by decide +kernel
theorem dC_heaviestOf_2 : decode bC_heaviestOf 2 = .ok (.dconst 0, 1) := by decide +kernel
theorem dC_heaviestOf_3 : decode bC_heaviestOf 3 = .ok (.dstore 4, 2) := by decide +kernel
theorem dC_heaviestOf_5 : decode bC_heaviestOf 5 = .ok (.iconst 0, 1) := by decide +kernel
theorem dC_heaviestOf_6 : decode bC_heaviestOf 6 = .ok (.istore 6, 2) := by decide +kernel
theorem dC_heaviestOf_8 : decode bC_heaviestOf 8 = .ok (.iload 6, 2) := by decide +kernel
theorem dC_heaviestOf_10 : decode bC_heaviestOf 10 = .ok (.bipush 16, 2) := by decide +kernel
theorem dC_heaviestOf_12 : decode bC_heaviestOf 12 = .ok (.if_icmp .ge (51), 3) := by decide +kernel
theorem dC_heaviestOf_15 : decode bC_heaviestOf 15 = .ok (.iload_n 1, 1) := by decide +kernel
theorem dC_heaviestOf_16 : decode bC_heaviestOf 16 = .ok (.iload 6, 2) := by decide +kernel
theorem dC_heaviestOf_18 : decode bC_heaviestOf 18 = .ok (.invokestatic 140, 3) := by decide +kernel
theorem dC_heaviestOf_21 : decode bC_heaviestOf 21 = .ok (.ifCond .eq (36), 3) := by decide +kernel
theorem dC_heaviestOf_24 : decode bC_heaviestOf 24 = .ok (.aload_n 0, 1) := by decide +kernel
theorem dC_heaviestOf_25 : decode bC_heaviestOf 25 = .ok (.getfield 15, 3) := by decide +kernel
theorem dC_heaviestOf_28 : decode bC_heaviestOf 28 = .ok (.iload 6, 2) := by decide +kernel
theorem dC_heaviestOf_30 : decode bC_heaviestOf 30 = .ok (.iload_n 2, 1) := by decide +kernel
theorem dC_heaviestOf_31 : decode bC_heaviestOf 31 = .ok (.invokestatic 137, 3) := by decide +kernel
theorem dC_heaviestOf_34 : decode bC_heaviestOf 34 = .ok (.daload, 1) := by decide +kernel
theorem dC_heaviestOf_35 : decode bC_heaviestOf 35 = .ok (.dload 4, 2) := by decide +kernel
theorem dC_heaviestOf_37 : decode bC_heaviestOf 37 = .ok (.dcmp .l, 1) := by decide +kernel
theorem dC_heaviestOf_38 : decode bC_heaviestOf 38 = .ok (.ifCond .le (19), 3) := by decide +kernel
theorem dC_heaviestOf_41 : decode bC_heaviestOf 41 = .ok (.iload 6, 2) := by decide +kernel
theorem dC_heaviestOf_43 : decode bC_heaviestOf 43 = .ok (.istore_n 3, 1) := by decide +kernel
theorem dC_heaviestOf_44 : decode bC_heaviestOf 44 = .ok (.aload_n 0, 1) := by decide +kernel
theorem dC_heaviestOf_45 : decode bC_heaviestOf 45 = .ok (.getfield 15, 3) := by decide +kernel
theorem dC_heaviestOf_48 : decode bC_heaviestOf 48 = .ok (.iload 6, 2) := by decide +kernel
theorem dC_heaviestOf_50 : decode bC_heaviestOf 50 = .ok (.iload_n 2, 1) := by decide +kernel
theorem dC_heaviestOf_51 : decode bC_heaviestOf 51 = .ok (.invokestatic 137, 3) := by decide +kernel
theorem dC_heaviestOf_54 : decode bC_heaviestOf 54 = .ok (.daload, 1) := by decide +kernel
theorem dC_heaviestOf_55 : decode bC_heaviestOf 55 = .ok (.dstore 4, 2) := by decide +kernel
theorem dC_heaviestOf_57 : decode bC_heaviestOf 57 = .ok (.iinc 6 (1), 3) := by decide +kernel
theorem dC_heaviestOf_60 : decode bC_heaviestOf 60 = .ok (.goto (-52), 3) := by decide +kernel
theorem dC_heaviestOf_63 : decode bC_heaviestOf 63 = .ok (.iload_n 3, 1) := by decide +kernel
theorem dC_heaviestOf_64 : decode bC_heaviestOf 64 = .ok (.ireturn, 1) := by decide +kernel
theorem dC_ruleIndex_0 : decode bC_ruleIndex 0 = .ok (.iload_n 0, 1) := by decide +kernel
theorem dC_ruleIndex_1 : decode bC_ruleIndex 1 = .ok (.bipush 105, 2) := by decide +kernel
theorem dC_ruleIndex_3 : decode bC_ruleIndex 3 = .ok (.imul, 1) := by decide +kernel
theorem dC_ruleIndex_4 : decode bC_ruleIndex 4 = .ok (.iload_n 1, 1) := by decide +kernel
theorem dC_ruleIndex_5 : decode bC_ruleIndex 5 = .ok (.iadd, 1) := by decide +kernel
theorem dC_ruleIndex_6 : decode bC_ruleIndex 6 = .ok (.ireturn, 1) := by decide +kernel
theorem dC_useIndex_0 : decode bC_useIndex 0 = .ok (.iload_n 0, 1) := by decide +kernel
theorem dC_useIndex_1 : decode bC_useIndex 1 = .ok (.iconst 4, 1) := by decide +kernel
theorem dC_useIndex_2 : decode bC_useIndex 2 = .ok (.imul, 1) := by decide +kernel
theorem dC_useIndex_3 : decode bC_useIndex 3 = .ok (.iload_n 1, 1) := by decide +kernel
theorem dC_useIndex_4 : decode bC_useIndex 4 = .ok (.iadd, 1) := by decide +kernel
theorem dC_useIndex_5 : decode bC_useIndex 5 = .ok (.bipush 105, 2) := by decide +kernel
theorem dC_useIndex_7 : decode bC_useIndex 7 = .ok (.imul, 1) := by decide +kernel
theorem dC_useIndex_8 : decode bC_useIndex 8 = .ok (.iload_n 2, 1) := by decide +kernel
theorem dC_useIndex_9 : decode bC_useIndex 9 = .ok (.iadd, 1) := by decide +kernel
theorem dC_useIndex_10 : decode bC_useIndex 10 = .ok (.ireturn, 1) := by decide +kernel
theorem dG_init_0 : decode bG_init 0 = .ok (.aload_n 0, 1) := by decide +kernel
theorem dG_init_1 : decode bG_init 1 = .ok (.invokespecial 3, 3) := by decide +kernel
theorem dG_init_4 : decode bG_init 4 = .ok (.aload_n 0, 1) := by decide +kernel
theorem dG_init_5 : decode bG_init 5 = .ok (.bipush 16, 2) := by decide +kernel
theorem dG_init_7 : decode bG_init 7 = .ok (.newarray .int, 2) := by decide +kernel
theorem dG_init_9 : decode bG_init 9 = .ok (.putfield 9, 3) := by decide +kernel
theorem dG_init_12 : decode bG_init 12 = .ok (.aload_n 0, 1) := by decide +kernel
theorem dG_init_13 : decode bG_init 13 = .ok (.bipush 16, 2) := by decide +kernel
theorem dG_init_15 : decode bG_init 15 = .ok (.newarray .int, 2) := by decide +kernel
theorem dG_init_17 : decode bG_init 17 = .ok (.putfield 15, 3) := by decide +kernel
theorem dG_init_20 : decode bG_init 20 = .ok (.aload_n 0, 1) := by decide +kernel
theorem dG_init_21 : decode bG_init 21 = .ok (.bipush 64, 2) := by decide +kernel
theorem dG_init_23 : decode bG_init 23 = .ok (.newarray .int, 2) := by decide +kernel
theorem dG_init_25 : decode bG_init 25 = .ok (.putfield 18, 3) := by decide +kernel
theorem dG_init_28 : decode bG_init 28 = .ok (.aload_n 0, 1) := by decide +kernel
theorem dG_init_29 : decode bG_init 29 = .ok (.bipush 16, 2) := by decide +kernel
theorem dG_init_31 : decode bG_init 31 = .ok (.newarray .double, 2) := by decide +kernel
theorem dG_init_33 : decode bG_init 33 = .ok (.putfield 21, 3) := by decide +kernel
theorem dG_init_36 : decode bG_init 36 = .ok (.aload_n 0, 1) := by decide +kernel
theorem dG_init_37 : decode bG_init 37 = .ok (.bipush 16, 2) := by decide +kernel
theorem dG_init_39 : decode bG_init 39 = .ok (.newarray .int, 2) := by decide +kernel
theorem dG_init_41 : decode bG_init 41 = .ok (.putfield 25, 3) := by decide +kernel
theorem dG_init_44 : decode bG_init 44 = .ok (.aload_n 0, 1) := by decide +kernel
theorem dG_init_45 : decode bG_init 45 = .ok (.bipush 16, 2) := by decide +kernel
theorem dG_init_47 : decode bG_init 47 = .ok (.newarray .int, 2) := by decide +kernel
theorem dG_init_49 : decode bG_init 49 = .ok (.putfield 28, 3) := by decide +kernel
theorem dG_init_52 : decode bG_init 52 = .ok (.aload_n 0, 1) := by decide +kernel
theorem dG_init_53 : decode bG_init 53 = .ok (.sipush 564, 3) := by decide +kernel
theorem dG_init_56 : decode bG_init 56 = .ok (.newarray .boolean, 2) := by decide +kernel
theorem dG_init_58 : decode bG_init 58 = .ok (.putfield 31, 3) := by decide +kernel
theorem dG_init_61 : decode bG_init 61 = .ok (.aload_n 0, 1) := by decide +kernel
theorem dG_init_62 : decode bG_init 62 = .ok (.iconst 0, 1) := by decide +kernel
theorem dG_init_63 : decode bG_init 63 = .ok (.putfield 35, 3) := by decide +kernel
theorem dG_init_66 : decode bG_init 66 = .ok (.return_, 1) := by decide +kernel
theorem dG_wrongPlace_0 : decode bG_wrongPlace 0 = .ok (.iconst 0, 1) := by decide +kernel
theorem dG_wrongPlace_1 : decode bG_wrongPlace 1 = .ok (.istore_n 1, 1) := by decide +kernel
theorem dG_wrongPlace_2 : decode bG_wrongPlace 2 = .ok (.iload_n 1, 1) := by decide +kernel
theorem dG_wrongPlace_3 : decode bG_wrongPlace 3 = .ok (.aload_n 0, 1) := by decide +kernel
theorem dG_wrongPlace_4 : decode bG_wrongPlace 4 = .ok (.invokevirtual 39, 3) := by decide +kernel
theorem dG_wrongPlace_7 : decode bG_wrongPlace 7 = .ok (.if_icmp .ge (23), 3) := by decide +kernel
theorem dG_wrongPlace_10 : decode bG_wrongPlace 10 = .ok (.iload_n 1, 1) := by decide +kernel
theorem dG_wrongPlace_11 : decode bG_wrongPlace 11 = .ok (.aload_n 0, 1) := by decide +kernel
theorem dG_wrongPlace_12 : decode bG_wrongPlace 12 = .ok (.iload_n 1, 1) := by decide +kernel
theorem dG_wrongPlace_13 : decode bG_wrongPlace 13 = .ok (.invokevirtual 45, 3) := by decide +kernel
theorem dG_wrongPlace_16 : decode bG_wrongPlace 16 = .ok (.invokestatic 49, 3) := by decide +kernel
theorem dG_wrongPlace_19 : decode bG_wrongPlace 19 = .ok (.ifCond .ne (5), 3) := by decide +kernel
theorem dG_wrongPlace_22 : decode bG_wrongPlace 22 = .ok (.iload_n 1, 1) := by decide +kernel
theorem dG_wrongPlace_23 : decode bG_wrongPlace 23 = .ok (.ireturn, 1) := by decide +kernel
theorem dG_wrongPlace_24 : decode bG_wrongPlace 24 = .ok (.iinc 1 (1), 3) := by decide +kernel
theorem dG_wrongPlace_27 : decode bG_wrongPlace 27 = .ok (.goto (-25), 3) := by decide +kernel
theorem dG_wrongPlace_30 : decode bG_wrongPlace 30 = .ok (.aload_n 0, 1) := by decide +kernel
theorem dG_wrongPlace_31 : decode bG_wrongPlace 31 = .ok (.invokevirtual 39, 3) := by decide +kernel
theorem dG_wrongPlace_34 : decode bG_wrongPlace 34 = .ok (.iconst 3, 1) := by decide +kernel
theorem dG_wrongPlace_35 : decode bG_wrongPlace 35 = .ok (.if_icmp .ge (10), 3) := by decide +kernel
theorem dG_wrongPlace_38 : decode bG_wrongPlace 38 = .ok (.aload_n 0, 1) := by decide +kernel
theorem dG_wrongPlace_39 : decode bG_wrongPlace 39 = .ok (.invokevirtual 39, 3) := by decide +kernel
theorem dG_wrongPlace_42 : decode bG_wrongPlace 42 = .ok (.goto (4), 3) := by decide +kernel
theorem dG_wrongPlace_45 : decode bG_wrongPlace 45 = .ok (.iconst (-1), 1) := by decide +kernel
theorem dG_wrongPlace_46 : decode bG_wrongPlace 46 = .ok (.ireturn, 1) := by decide +kernel
theorem dG_fits_0 : decode bG_fits 0 = .ok (.iload_n 0, 1) := by decide +kernel
theorem dG_fits_1 : decode bG_fits 1 = .ok (.ifCond .ne (17), 3) := by decide +kernel
theorem dG_fits_4 : decode bG_fits 4 = .ok (.iload_n 1, 1) := by decide +kernel
theorem dG_fits_5 : decode bG_fits 5 = .ok (.invokestatic 53, 3) := by decide +kernel
theorem dG_fits_8 : decode bG_fits 8 = .ok (.iconst (-1), 1) := by decide +kernel
theorem dG_fits_9 : decode bG_fits 9 = .ok (.if_icmp .eq (7), 3) := by decide +kernel
theorem dG_fits_12 : decode bG_fits 12 = .ok (.iconst 1, 1) := by decide +kernel
theorem dG_fits_13 : decode bG_fits 13 = .ok (.goto (4), 3) := by decide +kernel
theorem dG_fits_16 : decode bG_fits 16 = .ok (.iconst 0, 1) := by decide +kernel
theorem dG_fits_17 : decode bG_fits 17 = .ok (.ireturn, 1) := by decide +kernel
theorem dG_fits_18 : decode bG_fits 18 = .ok (.iload_n 0, 1) := by decide +kernel
theorem dG_fits_19 : decode bG_fits 19 = .ok (.iconst 1, 1) := by decide +kernel
theorem dG_fits_20 : decode bG_fits 20 = .ok (.if_icmp .ne (15), 3) := by decide +kernel
theorem dG_fits_23 : decode bG_fits 23 = .ok (.iload_n 1, 1) := by decide +kernel
theorem dG_fits_24 : decode bG_fits 24 = .ok (.bipush 58, 2) := by decide +kernel
theorem dG_fits_26 : decode bG_fits 26 = .ok (.if_icmp .ne (7), 3) := by decide +kernel
theorem dG_fits_29 : decode bG_fits 29 = .ok (.iconst 1, 1) := by decide +kernel
theorem dG_fits_30 : decode bG_fits 30 = .ok (.goto (4), 3) := by decide +kernel
theorem dG_fits_33 : decode bG_fits 33 = .ok (.iconst 0, 1) := by decide +kernel
theorem dG_fits_34 : decode bG_fits 34 = .ok (.ireturn, 1) := by decide +kernel
theorem dG_fits_35 : decode bG_fits 35 = .ok (.iload_n 0, 1) := by decide +kernel
theorem dG_fits_36 : decode bG_fits 36 = .ok (.bipush 6, 2) := by decide +kernel
theorem dG_fits_38 : decode bG_fits 38 = .ok (.if_icmp .ge (25), 3) := by decide +kernel
theorem dG_fits_41 : decode bG_fits 41 = .ok (.iload_n 1, 1) := by decide +kernel
theorem dG_fits_42 : decode bG_fits 42 = .ok (.bipush 58, 2) := by decide +kernel
theorem dG_fits_44 : decode bG_fits 44 = .ok (.if_icmp .eq (19), 3) := by decide +kernel
theorem dG_fits_47 : decode bG_fits 47 = .ok (.iload_n 1, 1) := by decide +kernel
theorem dG_fits_48 : decode bG_fits 48 = .ok (.bipush 71, 2) := by decide +kernel
theorem dG_fits_50 : decode bG_fits 50 = .ok (.if_icmp .lt (9), 3) := by decide +kernel
theorem dG_fits_53 : decode bG_fits 53 = .ok (.iload_n 1, 1) := by decide +kernel
theorem dG_fits_54 : decode bG_fits 54 = .ok (.bipush 90, 2) := by decide +kernel
theorem dG_fits_56 : decode bG_fits 56 = .ok (.if_icmp .le (7), 3) := by decide +kernel
theorem dG_fits_59 : decode bG_fits 59 = .ok (.iconst 1, 1) := by decide +kernel
theorem dG_fits_60 : decode bG_fits 60 = .ok (.goto (4), 3) := by decide +kernel
theorem dG_fits_63 : decode bG_fits 63 = .ok (.iconst 0, 1) := by decide +kernel
theorem dG_fits_64 : decode bG_fits 64 = .ok (.ireturn, 1) := by decide +kernel
theorem dG_size_0 : decode bG_size 0 = .ok (.aload_n 0, 1) := by decide +kernel
theorem dG_size_1 : decode bG_size 1 = .ok (.getfield 35, 3) := by decide +kernel
theorem dG_size_4 : decode bG_size 4 = .ok (.ireturn, 1) := by decide +kernel
theorem dG_has_0 : decode bG_has 0 = .ok (.iload_n 1, 1) := by decide +kernel
theorem dG_has_1 : decode bG_has 1 = .ok (.ifCond .lt (15), 3) := by decide +kernel
theorem dG_has_4 : decode bG_has 4 = .ok (.iload_n 1, 1) := by decide +kernel
theorem dG_has_5 : decode bG_has 5 = .ok (.aload_n 0, 1) := by decide +kernel
theorem dG_has_6 : decode bG_has 6 = .ok (.getfield 35, 3) := by decide +kernel
theorem dG_has_9 : decode bG_has 9 = .ok (.if_icmp .ge (7), 3) := by decide +kernel
theorem dG_has_12 : decode bG_has 12 = .ok (.iconst 1, 1) := by decide +kernel
theorem dG_has_13 : decode bG_has 13 = .ok (.goto (4), 3) := by decide +kernel
theorem dG_has_16 : decode bG_has 16 = .ok (.iconst 0, 1) := by decide +kernel
theorem dG_has_17 : decode bG_has 17 = .ok (.ireturn, 1) := by decide +kernel
theorem dG_wouldLeadRound_0 : decode bG_wouldLeadRound 0 = .ok (.aload_n 1, 1) := by decide +kernel
theorem dG_wouldLeadRound_1 : decode bG_wouldLeadRound 1 = .ok (.iconst 0, 1) := by decide +kernel
theorem dG_wouldLeadRound_2 : decode bG_wouldLeadRound 2 = .ok (.invokevirtual 45, 3) := by decide +kernel
theorem dG_wouldLeadRound_5 : decode bG_wouldLeadRound 5 = .ok (.invokestatic 53, 3) := by decide +kernel
theorem dG_wouldLeadRound_8 : decode bG_wouldLeadRound 8 = .ok (.istore_n 2, 1) := by decide +kernel
theorem dG_wouldLeadRound_9 : decode bG_wouldLeadRound 9 = .ok (.aload_n 1, 1) := by decide +kernel
theorem dG_wouldLeadRound_10 : decode bG_wouldLeadRound 10 = .ok (.iconst 2, 1) := by decide +kernel
theorem dG_wouldLeadRound_11 : decode bG_wouldLeadRound 11 = .ok (.invokevirtual 45, 3) := by decide +kernel
theorem dG_wouldLeadRound_14 : decode bG_wouldLeadRound 14 = .ok (.invokestatic 53, 3) := by decide +kernel
theorem dG_wouldLeadRound_17 : decode bG_wouldLeadRound 17 = .ok (.istore_n 3, 1) := by decide +kernel
theorem dG_wouldLeadRound_18 : decode bG_wouldLeadRound 18 = .ok (.aload_n 1, 1) := by decide +kernel
theorem dG_wouldLeadRound_19 : decode bG_wouldLeadRound 19 = .ok (.invokevirtual 39, 3) := by decide +kernel
theorem dG_wouldLeadRound_22 : decode bG_wouldLeadRound 22 = .ok (.iconst 3, 1) := by decide +kernel
theorem dG_wouldLeadRound_23 : decode bG_wouldLeadRound 23 = .ok (.if_icmp .ne (13), 3) := by decide +kernel
theorem dG_wouldLeadRound_26 : decode bG_wouldLeadRound 26 = .ok (.iload_n 2, 1) := by decide +kernel
theorem dG_wouldLeadRound_27 : decode bG_wouldLeadRound 27 = .ok (.iconst (-1), 1) := by decide +kernel
theorem dG_wouldLeadRound_28 : decode bG_wouldLeadRound 28 = .ok (.if_icmp .eq (8), 3) := by decide +kernel
theorem dG_wouldLeadRound_31 : decode bG_wouldLeadRound 31 = .ok (.iload_n 3, 1) := by decide +kernel
theorem dG_wouldLeadRound_32 : decode bG_wouldLeadRound 32 = .ok (.iconst (-1), 1) := by decide +kernel
theorem dG_wouldLeadRound_33 : decode bG_wouldLeadRound 33 = .ok (.if_icmp .ne (5), 3) := by decide +kernel
theorem dG_wouldLeadRound_36 : decode bG_wouldLeadRound 36 = .ok (.iconst 0, 1) := by decide +kernel
theorem dG_wouldLeadRound_37 : decode bG_wouldLeadRound 37 = .ok (.ireturn, 1) := by decide +kernel
theorem dG_wouldLeadRound_38 : decode bG_wouldLeadRound 38 = .ok (.aload_n 0, 1) := by decide +kernel
theorem dG_wouldLeadRound_39 : decode bG_wouldLeadRound 39 = .ok (.iload_n 3, 1) := by decide +kernel
theorem dG_wouldLeadRound_40 : decode bG_wouldLeadRound 40 = .ok (.invokevirtual 56, 3) := by decide +kernel
theorem dG_wouldLeadRound_43 : decode bG_wouldLeadRound 43 = .ok (.iload_n 2, 1) := by decide +kernel
theorem dG_wouldLeadRound_44 : decode bG_wouldLeadRound 44 = .ok (.invokestatic 59, 3) := by decide +kernel
theorem dG_wouldLeadRound_47 : decode bG_wouldLeadRound 47 = .ok (.ireturn, 1) := by decide +kernel
theorem dG_reachedByChains_0 : decode bG_reachedByChains 0 = .ok (.iconst 1, 1) := by decide +kernel
theorem dG_reachedByChains_1 : decode bG_reachedByChains 1 = .ok (.iload_n 1, 1) := by decide +kernel
theorem dG_reachedByChains_2 : decode bG_reachedByChains 2 = .ok (.ishl, 1) := by decide +kernel
theorem dG_reachedByChains_3 : decode bG_reachedByChains 3 = .ok (.istore_n 2, 1) := by decide +kernel
theorem dG_reachedByChains_4 : decode bG_reachedByChains 4 = .ok (.iconst 0, 1) := by decide +kernel
theorem dG_reachedByChains_5 : decode bG_reachedByChains 5 = .ok (.istore_n 3, 1) := by decide +kernel
theorem dG_reachedByChains_6 : decode bG_reachedByChains 6 = .ok (.iload_n 3, 1) := by decide +kernel
theorem dG_reachedByChains_7 : decode bG_reachedByChains 7 = .ok (.bipush 6, 2) := by decide +kernel
theorem dG_reachedByChains_9 : decode bG_reachedByChains 9 = .ok (.if_icmp .ge (62), 3) := by decide +kernel
theorem dG_reachedByChains_12 : decode bG_reachedByChains 12 = .ok (.iconst 0, 1) := by decide +kernel
theorem dG_reachedByChains_13 : decode bG_reachedByChains 13 = .ok (.istore 4, 2) := by decide +kernel
theorem dG_reachedByChains_15 : decode bG_reachedByChains 15 = .ok (.iload 4, 2) := by decide +kernel
theorem dG_reachedByChains_17 : decode bG_reachedByChains 17 = .ok (.aload_n 0, 1) := by decide +kernel
theorem dG_reachedByChains_18 : decode bG_reachedByChains 18 = .ok (.getfield 35, 3) := by decide +kernel
theorem dG_reachedByChains_21 : decode bG_reachedByChains 21 = .ok (.if_icmp .ge (44), 3) := by decide +kernel
theorem dG_reachedByChains_24 : decode bG_reachedByChains 24 = .ok (.iload_n 2, 1) := by decide +kernel
theorem dG_reachedByChains_25 : decode bG_reachedByChains 25 = .ok (.aload_n 0, 1) := by decide +kernel
theorem dG_reachedByChains_26 : decode bG_reachedByChains 26 = .ok (.getfield 9, 3) := by decide +kernel
theorem dG_reachedByChains_29 : decode bG_reachedByChains 29 = .ok (.iload 4, 2) := by decide +kernel
theorem dG_reachedByChains_31 : decode bG_reachedByChains 31 = .ok (.iaload, 1) := by decide +kernel
theorem dG_reachedByChains_32 : decode bG_reachedByChains 32 = .ok (.invokestatic 59, 3) := by decide +kernel
theorem dG_reachedByChains_35 : decode bG_reachedByChains 35 = .ok (.ifCond .eq (24), 3) := by decide +kernel
theorem dG_reachedByChains_38 : decode bG_reachedByChains 38 = .ok (.aload_n 0, 1) := by decide +kernel
theorem dG_reachedByChains_39 : decode bG_reachedByChains 39 = .ok (.iload 4, 2) := by decide +kernel
theorem dG_reachedByChains_41 : decode bG_reachedByChains 41 = .ok (.invokevirtual 62, 3) := by decide +kernel
theorem dG_reachedByChains_44 : decode bG_reachedByChains 44 = .ok (.ifCond .eq (15), 3) := by decide +kernel
theorem dG_reachedByChains_47 : decode bG_reachedByChains 47 = .ok (.iload_n 2, 1) := by decide +kernel
theorem dG_reachedByChains_48 : decode bG_reachedByChains 48 = .ok (.iconst 1, 1) := by decide +kernel
theorem dG_reachedByChains_49 : decode bG_reachedByChains 49 = .ok (.aload_n 0, 1) := by decide +kernel
theorem dG_reachedByChains_50 : decode bG_reachedByChains 50 = .ok (.iload 4, 2) := by decide +kernel
theorem dG_reachedByChains_52 : decode bG_reachedByChains 52 = .ok (.iconst 0, 1) := by decide +kernel
theorem dG_reachedByChains_53 : decode bG_reachedByChains 53 = .ok (.invokevirtual 66, 3) := by decide +kernel
theorem dG_reachedByChains_56 : decode bG_reachedByChains 56 = .ok (.ishl, 1) := by decide +kernel
theorem dG_reachedByChains_57 : decode bG_reachedByChains 57 = .ok (.ior, 1) := by decide +kernel
theorem dG_reachedByChains_58 : decode bG_reachedByChains 58 = .ok (.istore_n 2, 1) := by decide +kernel
theorem dG_reachedByChains_59 : decode bG_reachedByChains 59 = .ok (.iinc 4 (1), 3) := by decide +kernel
theorem dG_reachedByChains_62 : decode bG_reachedByChains 62 = .ok (.goto (-47), 3) := by decide +kernel
theorem dG_reachedByChains_65 : decode bG_reachedByChains 65 = .ok (.iinc 3 (1), 3) := by decide +kernel
theorem dG_reachedByChains_68 : decode bG_reachedByChains 68 = .ok (.goto (-62), 3) := by decide +kernel
theorem dG_reachedByChains_71 : decode bG_reachedByChains 71 = .ok (.iload_n 2, 1) := by decide +kernel
theorem dG_reachedByChains_72 : decode bG_reachedByChains 72 = .ok (.ireturn, 1) := by decide +kernel
theorem dG_isChain_0 : decode bG_isChain 0 = .ok (.aload_n 0, 1) := by decide +kernel
theorem dG_isChain_1 : decode bG_isChain 1 = .ok (.getfield 15, 3) := by decide +kernel
theorem dG_isChain_4 : decode bG_isChain 4 = .ok (.iload_n 1, 1) := by decide +kernel
theorem dG_isChain_5 : decode bG_isChain 5 = .ok (.iaload, 1) := by decide +kernel
theorem dG_isChain_6 : decode bG_isChain 6 = .ok (.iconst 1, 1) := by decide +kernel
theorem dG_isChain_7 : decode bG_isChain 7 = .ok (.if_icmp .ne (17), 3) := by decide +kernel
theorem dG_isChain_10 : decode bG_isChain 10 = .ok (.aload_n 0, 1) := by decide +kernel
theorem dG_isChain_11 : decode bG_isChain 11 = .ok (.iload_n 1, 1) := by decide +kernel
theorem dG_isChain_12 : decode bG_isChain 12 = .ok (.iconst 0, 1) := by decide +kernel
theorem dG_isChain_13 : decode bG_isChain 13 = .ok (.invokevirtual 66, 3) := by decide +kernel
theorem dG_isChain_16 : decode bG_isChain 16 = .ok (.iconst (-1), 1) := by decide +kernel
theorem dG_isChain_17 : decode bG_isChain 17 = .ok (.if_icmp .eq (7), 3) := by decide +kernel
theorem dG_isChain_20 : decode bG_isChain 20 = .ok (.iconst 1, 1) := by decide +kernel
theorem dG_isChain_21 : decode bG_isChain 21 = .ok (.goto (4), 3) := by decide +kernel
theorem dG_isChain_24 : decode bG_isChain 24 = .ok (.iconst 0, 1) := by decide +kernel
theorem dG_isChain_25 : decode bG_isChain 25 = .ok (.ireturn, 1) := by decide +kernel
theorem dG_add_0 : decode bG_add 0 = .ok (.aload_n 0, 1) := by decide +kernel
theorem dG_add_1 : decode bG_add 1 = .ok (.getfield 35, 3) := by decide +kernel
theorem dG_add_4 : decode bG_add 4 = .ok (.istore 4, 2) := by decide +kernel
theorem dG_add_6 : decode bG_add 6 = .ok (.aload_n 0, 1) := by decide +kernel
theorem dG_add_7 : decode bG_add 7 = .ok (.getfield 9, 3) := by decide +kernel
theorem dG_add_10 : decode bG_add 10 = .ok (.iload 4, 2) := by decide +kernel
theorem dG_add_12 : decode bG_add 12 = .ok (.aload_n 1, 1) := by decide +kernel
theorem dG_add_13 : decode bG_add 13 = .ok (.iconst 0, 1) := by decide +kernel
theorem dG_add_14 : decode bG_add 14 = .ok (.invokevirtual 45, 3) := by decide +kernel
theorem dG_add_17 : decode bG_add 17 = .ok (.invokestatic 53, 3) := by decide +kernel
theorem dG_add_20 : decode bG_add 20 = .ok (.iastore, 1) := by decide +kernel
theorem dG_add_21 : decode bG_add 21 = .ok (.aload_n 0, 1) := by decide +kernel
theorem dG_add_22 : decode bG_add 22 = .ok (.getfield 15, 3) := by decide +kernel
theorem dG_add_25 : decode bG_add 25 = .ok (.iload 4, 2) := by decide +kernel
theorem dG_add_27 : decode bG_add 27 = .ok (.aload_n 1, 1) := by decide +kernel
theorem dG_add_28 : decode bG_add 28 = .ok (.invokevirtual 39, 3) := by decide +kernel
theorem dG_add_31 : decode bG_add 31 = .ok (.iconst 2, 1) := by decide +kernel
theorem dG_add_32 : decode bG_add 32 = .ok (.isub, 1) := by decide +kernel
theorem dG_add_33 : decode bG_add 33 = .ok (.iastore, 1) := by decide +kernel
theorem dG_add_34 : decode bG_add 34 = .ok (.iconst 0, 1) := by decide +kernel
theorem dG_add_35 : decode bG_add 35 = .ok (.istore 5, 2) := by decide +kernel
theorem dG_add_37 : decode bG_add 37 = .ok (.iload 5, 2) := by decide +kernel
theorem dG_add_39 : decode bG_add 39 = .ok (.iconst 4, 1) := by decide +kernel
theorem dG_add_40 : decode bG_add 40 = .ok (.if_icmp .ge (29), 3) := by decide +kernel
theorem dG_add_43 : decode bG_add 43 = .ok (.aload_n 0, 1) := by decide +kernel
theorem dG_add_44 : decode bG_add 44 = .ok (.getfield 18, 3) := by decide +kernel
theorem dG_add_47 : decode bG_add 47 = .ok (.iload 4, 2) := by decide +kernel
theorem dG_add_49 : decode bG_add 49 = .ok (.iconst 4, 1) := by decide +kernel
theorem dG_add_50 : decode bG_add 50 = .ok (.imul, 1) := by decide +kernel
theorem dG_add_51 : decode bG_add 51 = .ok (.iload 5, 2) := by decide +kernel
theorem dG_add_53 : decode bG_add 53 = .ok (.iadd, 1) := by decide +kernel
theorem dG_add_54 : decode bG_add 54 = .ok (.aload_n 1, 1) := by decide +kernel
theorem dG_add_55 : decode bG_add 55 = .ok (.iload 5, 2) := by decide +kernel
theorem dG_add_57 : decode bG_add 57 = .ok (.iconst 2, 1) := by decide +kernel
theorem dG_add_58 : decode bG_add 58 = .ok (.iadd, 1) := by decide +kernel
theorem dG_add_59 : decode bG_add 59 = .ok (.invokevirtual 45, 3) := by decide +kernel
theorem dG_add_62 : decode bG_add 62 = .ok (.iastore, 1) := by decide +kernel
theorem dG_add_63 : decode bG_add 63 = .ok (.iinc 5 (1), 3) := by decide +kernel
theorem dG_add_66 : decode bG_add 66 = .ok (.goto (-29), 3) := by decide +kernel
theorem dG_add_69 : decode bG_add 69 = .ok (.aload_n 0, 1) := by decide +kernel
theorem dG_add_70 : decode bG_add 70 = .ok (.getfield 21, 3) := by decide +kernel
theorem dG_add_73 : decode bG_add 73 = .ok (.iload 4, 2) := by decide +kernel
theorem dG_add_75 : decode bG_add 75 = .ok (.dload_n 2, 1) := by decide +kernel
theorem dG_add_76 : decode bG_add 76 = .ok (.dastore, 1) := by decide +kernel
theorem dG_add_77 : decode bG_add 77 = .ok (.aload_n 0, 1) := by decide +kernel
theorem dG_add_78 : decode bG_add 78 = .ok (.getfield 25, 3) := by decide +kernel
theorem dG_add_81 : decode bG_add 81 = .ok (.iload 4, 2) := by decide +kernel
theorem dG_add_83 : decode bG_add 83 = .ok (.iconst 0, 1) := by decide +kernel
theorem dG_add_84 : decode bG_add 84 = .ok (.iastore, 1) := by decide +kernel
theorem dG_add_85 : decode bG_add 85 = .ok (.aload_n 0, 1) := by decide +kernel
theorem dG_add_86 : decode bG_add 86 = .ok (.dup, 1) := by decide +kernel
theorem dG_add_87 : decode bG_add 87 = .ok (.getfield 35, 3) := by decide +kernel
theorem dG_add_90 : decode bG_add 90 = .ok (.iconst 1, 1) := by decide +kernel
theorem dG_add_91 : decode bG_add 91 = .ok (.iadd, 1) := by decide +kernel
theorem dG_add_92 : decode bG_add 92 = .ok (.putfield 35, 3) := by decide +kernel
theorem dG_add_95 : decode bG_add 95 = .ok (.return_, 1) := by decide +kernel
theorem dG_removeLatest_0 : decode bG_removeLatest 0 = .ok (.aload_n 0, 1) := by decide +kernel
theorem dG_removeLatest_1 : decode bG_removeLatest 1 = .ok (.dup, 1) := by decide +kernel
theorem dG_removeLatest_2 : decode bG_removeLatest 2 = .ok (.getfield 35, 3) := by decide +kernel
theorem dG_removeLatest_5 : decode bG_removeLatest 5 = .ok (.iconst 1, 1) := by decide +kernel
theorem dG_removeLatest_6 : decode bG_removeLatest 6 = .ok (.isub, 1) := by decide +kernel
theorem dG_removeLatest_7 : decode bG_removeLatest 7 = .ok (.putfield 35, 3) := by decide +kernel
theorem dG_removeLatest_10 : decode bG_removeLatest 10 = .ok (.aload_n 0, 1) := by decide +kernel
theorem dG_removeLatest_11 : decode bG_removeLatest 11 = .ok (.getfield 28, 3) := by decide +kernel
theorem dG_removeLatest_14 : decode bG_removeLatest 14 = .ok (.aload_n 0, 1) := by decide +kernel
theorem dG_removeLatest_15 : decode bG_removeLatest 15 = .ok (.getfield 35, 3) := by decide +kernel
theorem dG_removeLatest_18 : decode bG_removeLatest 18 = .ok (.iconst 0, 1) := by decide +kernel
theorem dG_removeLatest_19 : decode bG_removeLatest 19 = .ok (.iastore, 1) := by decide +kernel
theorem dG_removeLatest_20 : decode bG_removeLatest 20 = .ok (.iconst 0, 1) := by decide +kernel
theorem dG_removeLatest_21 : decode bG_removeLatest 21 = .ok (.istore_n 1, 1) := by decide +kernel
theorem dG_removeLatest_22 : decode bG_removeLatest 22 = .ok (.iload_n 1, 1) := by decide +kernel
theorem dG_removeLatest_23 : decode bG_removeLatest 23 = .ok (.aload_n 0, 1) := by decide +kernel
theorem dG_removeLatest_24 : decode bG_removeLatest 24 = .ok (.getfield 35, 3) := by decide +kernel
theorem dG_removeLatest_27 : decode bG_removeLatest 27 = .ok (.if_icmp .ge (19), 3) := by decide +kernel
theorem dG_removeLatest_30 : decode bG_removeLatest 30 = .ok (.aload_n 0, 1) := by decide +kernel
theorem dG_removeLatest_31 : decode bG_removeLatest 31 = .ok (.iload_n 1, 1) := by decide +kernel
theorem dG_removeLatest_32 : decode bG_removeLatest 32 = .ok (.aload_n 0, 1) := by decide +kernel
theorem dG_removeLatest_33 : decode bG_removeLatest 33 = .ok (.getfield 35, 3) := by decide +kernel
theorem dG_removeLatest_36 : decode bG_removeLatest 36 = .ok (.iconst 0, 1) := by decide +kernel
theorem dG_removeLatest_37 : decode bG_removeLatest 37 = .ok (.invokevirtual 70, 3) := by decide +kernel
theorem dG_removeLatest_40 : decode bG_removeLatest 40 = .ok (.iinc 1 (1), 3) := by decide +kernel
theorem dG_removeLatest_43 : decode bG_removeLatest 43 = .ok (.goto (-21), 3) := by decide +kernel
theorem dG_removeLatest_46 : decode bG_removeLatest 46 = .ok (.return_, 1) := by decide +kernel
theorem dG_setMark_0 : decode bG_setMark 0 = .ok (.aload_n 0, 1) := by decide +kernel
theorem dG_setMark_1 : decode bG_setMark 1 = .ok (.getfield 25, 3) := by decide +kernel
theorem dG_setMark_4 : decode bG_setMark 4 = .ok (.iload_n 1, 1) := by decide +kernel
theorem dG_setMark_5 : decode bG_setMark 5 = .ok (.iload_n 2, 1) := by decide +kernel
theorem dG_setMark_6 : decode bG_setMark 6 = .ok (.iastore, 1) := by decide +kernel
theorem dG_setMark_7 : decode bG_setMark 7 = .ok (.return_, 1) := by decide +kernel
theorem dG_setBarred_0 : decode bG_setBarred 0 = .ok (.iload_n 3, 1) := by decide +kernel
theorem dG_setBarred_1 : decode bG_setBarred 1 = .ok (.ifCond .eq (18), 3) := by decide +kernel
theorem dG_setBarred_4 : decode bG_setBarred 4 = .ok (.aload_n 0, 1) := by decide +kernel
theorem dG_setBarred_5 : decode bG_setBarred 5 = .ok (.getfield 28, 3) := by decide +kernel
theorem dG_setBarred_8 : decode bG_setBarred 8 = .ok (.iload_n 1, 1) := by decide +kernel
theorem dG_setBarred_9 : decode bG_setBarred 9 = .ok (.dup2, 1) := by decide +kernel
theorem dG_setBarred_10 : decode bG_setBarred 10 = .ok (.iaload, 1) := by decide +kernel
theorem dG_setBarred_11 : decode bG_setBarred 11 = .ok (.iconst 1, 1) := by decide +kernel
theorem dG_setBarred_12 : decode bG_setBarred 12 = .ok (.iload_n 2, 1) := by decide +kernel
theorem dG_setBarred_13 : decode bG_setBarred 13 = .ok (.ishl, 1) := by decide +kernel
theorem dG_setBarred_14 : decode bG_setBarred 14 = .ok (.ior, 1) := by decide +kernel
theorem dG_setBarred_15 : decode bG_setBarred 15 = .ok (.iastore, 1) := by decide +kernel
theorem dG_setBarred_16 : decode bG_setBarred 16 = .ok (.goto (17), 3) := by decide +kernel
theorem dG_setBarred_19 : decode bG_setBarred 19 = .ok (.aload_n 0, 1) := by decide +kernel
theorem dG_setBarred_20 : decode bG_setBarred 20 = .ok (.getfield 28, 3) := by decide +kernel
theorem dG_setBarred_23 : decode bG_setBarred 23 = .ok (.iload_n 1, 1) := by decide +kernel
theorem dG_setBarred_24 : decode bG_setBarred 24 = .ok (.dup2, 1) := by decide +kernel
theorem dG_setBarred_25 : decode bG_setBarred 25 = .ok (.iaload, 1) := by decide +kernel
theorem dG_setBarred_26 : decode bG_setBarred 26 = .ok (.iconst 1, 1) := by decide +kernel
theorem dG_setBarred_27 : decode bG_setBarred 27 = .ok (.iload_n 2, 1) := by decide +kernel
theorem dG_setBarred_28 : decode bG_setBarred 28 = .ok (.ishl, 1) := by decide +kernel
theorem dG_setBarred_29 : decode bG_setBarred 29 = .ok (.iconst (-1), 1) := by decide +kernel
theorem dG_setBarred_30 : decode bG_setBarred 30 = .ok (.ixor, 1) := by decide +kernel
theorem dG_setBarred_31 : decode bG_setBarred 31 = .ok (.iand, 1) := by decide +kernel
theorem dG_setBarred_32 : decode bG_setBarred 32 = .ok (.iastore, 1) := by decide +kernel
theorem dG_setBarred_33 : decode bG_setBarred 33 = .ok (.return_, 1) := by decide +kernel
theorem dG_setMayFollow_0 : decode bG_setMayFollow 0 = .ok (.aload_n 0, 1) := by decide +kernel
theorem dG_setMayFollow_1 : decode bG_setMayFollow 1 = .ok (.getfield 31, 3) := by decide +kernel
theorem dG_setMayFollow_4 : decode bG_setMayFollow 4 = .ok (.iload_n 1, 1) := by decide +kernel
theorem dG_setMayFollow_5 : decode bG_setMayFollow 5 = .ok (.bipush 94, 2) := by decide +kernel
theorem dG_setMayFollow_7 : decode bG_setMayFollow 7 = .ok (.imul, 1) := by decide +kernel
theorem dG_setMayFollow_8 : decode bG_setMayFollow 8 = .ok (.iload_n 2, 1) := by decide +kernel
theorem dG_setMayFollow_9 : decode bG_setMayFollow 9 = .ok (.iadd, 1) := by decide +kernel
theorem dG_setMayFollow_10 : decode bG_setMayFollow 10 = .ok (.bipush 33, 2) := by decide +kernel
theorem dG_setMayFollow_12 : decode bG_setMayFollow 12 = .ok (.isub, 1) := by decide +kernel
theorem dG_setMayFollow_13 : decode bG_setMayFollow 13 = .ok (.iload_n 3, 1) := by decide +kernel
theorem dG_setMayFollow_14 : decode bG_setMayFollow 14 = .ok (.ifCond .ne (7), 3) := by decide +kernel
theorem dG_setMayFollow_17 : decode bG_setMayFollow 17 = .ok (.iconst 1, 1) := by decide +kernel
theorem dG_setMayFollow_18 : decode bG_setMayFollow 18 = .ok (.goto (4), 3) := by decide +kernel
theorem dG_setMayFollow_21 : decode bG_setMayFollow 21 = .ok (.iconst 0, 1) := by decide +kernel
theorem dG_setMayFollow_22 : decode bG_setMayFollow 22 = .ok (.bastore, 1) := by decide +kernel
theorem dG_setMayFollow_23 : decode bG_setMayFollow 23 = .ok (.return_, 1) := by decide +kernel
theorem dG_mayFollow_0 : decode bG_mayFollow 0 = .ok (.aload_n 0, 1) := by decide +kernel
theorem dG_mayFollow_1 : decode bG_mayFollow 1 = .ok (.getfield 31, 3) := by decide +kernel
theorem dG_mayFollow_4 : decode bG_mayFollow 4 = .ok (.iload_n 1, 1) := by decide +kernel
theorem dG_mayFollow_5 : decode bG_mayFollow 5 = .ok (.bipush 94, 2) := by decide +kernel
theorem dG_mayFollow_7 : decode bG_mayFollow 7 = .ok (.imul, 1) := by decide +kernel
theorem dG_mayFollow_8 : decode bG_mayFollow 8 = .ok (.iload_n 2, 1) := by decide +kernel
theorem dG_mayFollow_9 : decode bG_mayFollow 9 = .ok (.iadd, 1) := by decide +kernel
theorem dG_mayFollow_10 : decode bG_mayFollow 10 = .ok (.bipush 33, 2) := by decide +kernel
theorem dG_mayFollow_12 : decode bG_mayFollow 12 = .ok (.isub, 1) := by decide +kernel
theorem dG_mayFollow_13 : decode bG_mayFollow 13 = .ok (.baload, 1) := by decide +kernel
theorem dG_mayFollow_14 : decode bG_mayFollow 14 = .ok (.ifCond .ne (7), 3) := by decide +kernel
theorem dG_mayFollow_17 : decode bG_mayFollow 17 = .ok (.iconst 1, 1) := by decide +kernel
theorem dG_mayFollow_18 : decode bG_mayFollow 18 = .ok (.goto (4), 3) := by decide +kernel
theorem dG_mayFollow_21 : decode bG_mayFollow 21 = .ok (.iconst 0, 1) := by decide +kernel
theorem dG_mayFollow_22 : decode bG_mayFollow 22 = .ok (.ireturn, 1) := by decide +kernel
theorem dG_left_0 : decode bG_left 0 = .ok (.aload_n 0, 1) := by decide +kernel
theorem dG_left_1 : decode bG_left 1 = .ok (.getfield 9, 3) := by decide +kernel
theorem dG_left_4 : decode bG_left 4 = .ok (.iload_n 1, 1) := by decide +kernel
theorem dG_left_5 : decode bG_left 5 = .ok (.iaload, 1) := by decide +kernel
theorem dG_left_6 : decode bG_left 6 = .ok (.ireturn, 1) := by decide +kernel
theorem dG_rightLength_0 : decode bG_rightLength 0 = .ok (.aload_n 0, 1) := by decide +kernel
theorem dG_rightLength_1 : decode bG_rightLength 1 = .ok (.getfield 15, 3) := by decide +kernel
theorem dG_rightLength_4 : decode bG_rightLength 4 = .ok (.iload_n 1, 1) := by decide +kernel
theorem dG_rightLength_5 : decode bG_rightLength 5 = .ok (.iaload, 1) := by decide +kernel
theorem dG_rightLength_6 : decode bG_rightLength 6 = .ok (.ireturn, 1) := by decide +kernel
theorem dG_weightOf_0 : decode bG_weightOf 0 = .ok (.aload_n 0, 1) := by decide +kernel
theorem dG_weightOf_1 : decode bG_weightOf 1 = .ok (.getfield 21, 3) := by decide +kernel
theorem dG_weightOf_4 : decode bG_weightOf 4 = .ok (.iload_n 1, 1) := by decide +kernel
theorem dG_weightOf_5 : decode bG_weightOf 5 = .ok (.daload, 1) := by decide +kernel
theorem dG_weightOf_6 : decode bG_weightOf 6 = .ok (.dreturn, 1) := by decide +kernel
theorem dG_symbolNonterminal_0 : decode bG_symbolNonterminal 0 = .ok (.aload_n 0, 1) := by decide +kernel
theorem dG_symbolNonterminal_1 : decode bG_symbolNonterminal 1 = .ok (.getfield 18, 3) := by decide +kernel
theorem dG_symbolNonterminal_4 : decode bG_symbolNonterminal 4 = .ok (.iload_n 1, 1) := by decide +kernel
theorem dG_symbolNonterminal_5 : decode bG_symbolNonterminal 5 = .ok (.iconst 4, 1) := by decide +kernel
theorem dG_symbolNonterminal_6 : decode bG_symbolNonterminal 6 = .ok (.imul, 1) := by decide +kernel
theorem dG_symbolNonterminal_7 : decode bG_symbolNonterminal 7 = .ok (.iload_n 2, 1) := by decide +kernel
theorem dG_symbolNonterminal_8 : decode bG_symbolNonterminal 8 = .ok (.iadd, 1) := by decide +kernel
theorem dG_symbolNonterminal_9 : decode bG_symbolNonterminal 9 = .ok (.iaload, 1) := by decide +kernel
theorem dG_symbolNonterminal_10 : decode bG_symbolNonterminal 10 = .ok (.invokestatic 53, 3) := by decide +kernel
theorem dG_symbolNonterminal_13 : decode bG_symbolNonterminal 13 = .ok (.ireturn, 1) := by decide +kernel
theorem dG_symbolStandsFor_0 : decode bG_symbolStandsFor 0 = .ok (.aload_n 0, 1) := by decide +kernel
theorem dG_symbolStandsFor_1 : decode bG_symbolStandsFor 1 = .ok (.getfield 18, 3) := by decide +kernel
theorem dG_symbolStandsFor_4 : decode bG_symbolStandsFor 4 = .ok (.iload_n 1, 1) := by decide +kernel
theorem dG_symbolStandsFor_5 : decode bG_symbolStandsFor 5 = .ok (.iconst 4, 1) := by decide +kernel
theorem dG_symbolStandsFor_6 : decode bG_symbolStandsFor 6 = .ok (.imul, 1) := by decide +kernel
theorem dG_symbolStandsFor_7 : decode bG_symbolStandsFor 7 = .ok (.iload_n 2, 1) := by decide +kernel
theorem dG_symbolStandsFor_8 : decode bG_symbolStandsFor 8 = .ok (.iadd, 1) := by decide +kernel
theorem dG_symbolStandsFor_9 : decode bG_symbolStandsFor 9 = .ok (.iaload, 1) := by decide +kernel
theorem dG_symbolStandsFor_10 : decode bG_symbolStandsFor 10 = .ok (.istore 4, 2) := by decide +kernel
theorem dG_symbolStandsFor_12 : decode bG_symbolStandsFor 12 = .ok (.iload 4, 2) := by decide +kernel
theorem dG_symbolStandsFor_14 : decode bG_symbolStandsFor 14 = .ok (.bipush 35, 2) := by decide +kernel
theorem dG_symbolStandsFor_16 : decode bG_symbolStandsFor 16 = .ok (.if_icmp .ne (21), 3) := by decide +kernel
theorem dG_symbolStandsFor_19 : decode bG_symbolStandsFor 19 = .ok (.iload_n 3, 1) := by decide +kernel
theorem dG_symbolStandsFor_20 : decode bG_symbolStandsFor 20 = .ok (.bipush 48, 2) := by decide +kernel
theorem dG_symbolStandsFor_22 : decode bG_symbolStandsFor 22 = .ok (.if_icmp .lt (13), 3) := by decide +kernel
theorem dG_symbolStandsFor_25 : decode bG_symbolStandsFor 25 = .ok (.iload_n 3, 1) := by decide +kernel
theorem dG_symbolStandsFor_26 : decode bG_symbolStandsFor 26 = .ok (.bipush 57, 2) := by decide +kernel
theorem dG_symbolStandsFor_28 : decode bG_symbolStandsFor 28 = .ok (.if_icmp .gt (7), 3) := by decide +kernel
theorem dG_symbolStandsFor_31 : decode bG_symbolStandsFor 31 = .ok (.iconst 1, 1) := by decide +kernel
theorem dG_symbolStandsFor_32 : decode bG_symbolStandsFor 32 = .ok (.goto (4), 3) := by decide +kernel
theorem dG_symbolStandsFor_35 : decode bG_symbolStandsFor 35 = .ok (.iconst 0, 1) := by decide +kernel
theorem dG_symbolStandsFor_36 : decode bG_symbolStandsFor 36 = .ok (.ireturn, 1) := by decide +kernel
theorem dG_symbolStandsFor_37 : decode bG_symbolStandsFor 37 = .ok (.iload 4, 2) := by decide +kernel
theorem dG_symbolStandsFor_39 : decode bG_symbolStandsFor 39 = .ok (.bipush 64, 2) := by decide +kernel
theorem dG_symbolStandsFor_41 : decode bG_symbolStandsFor 41 = .ok (.if_icmp .ne (21), 3) := by decide +kernel
theorem dG_symbolStandsFor_44 : decode bG_symbolStandsFor 44 = .ok (.iload_n 3, 1) := by decide +kernel
theorem dG_symbolStandsFor_45 : decode bG_symbolStandsFor 45 = .ok (.bipush 97, 2) := by decide +kernel
theorem dG_symbolStandsFor_47 : decode bG_symbolStandsFor 47 = .ok (.if_icmp .lt (13), 3) := by decide +kernel
theorem dG_symbolStandsFor_50 : decode bG_symbolStandsFor 50 = .ok (.iload_n 3, 1) := by decide +kernel
theorem dG_symbolStandsFor_51 : decode bG_symbolStandsFor 51 = .ok (.bipush 122, 2) := by decide +kernel
theorem dG_symbolStandsFor_53 : decode bG_symbolStandsFor 53 = .ok (.if_icmp .gt (7), 3) := by decide +kernel
theorem dG_symbolStandsFor_56 : decode bG_symbolStandsFor 56 = .ok (.iconst 1, 1) := by decide +kernel
theorem dG_symbolStandsFor_57 : decode bG_symbolStandsFor 57 = .ok (.goto (4), 3) := by decide +kernel
theorem dG_symbolStandsFor_60 : decode bG_symbolStandsFor 60 = .ok (.iconst 0, 1) := by decide +kernel
theorem dG_symbolStandsFor_61 : decode bG_symbolStandsFor 61 = .ok (.ireturn, 1) := by decide +kernel
theorem dG_symbolStandsFor_62 : decode bG_symbolStandsFor 62 = .ok (.iload 4, 2) := by decide +kernel
theorem dG_symbolStandsFor_64 : decode bG_symbolStandsFor 64 = .ok (.iload_n 3, 1) := by decide +kernel
theorem dG_symbolStandsFor_65 : decode bG_symbolStandsFor 65 = .ok (.if_icmp .ne (16), 3) := by decide +kernel
theorem dG_symbolStandsFor_68 : decode bG_symbolStandsFor 68 = .ok (.iload 4, 2) := by decide +kernel
theorem dG_symbolStandsFor_70 : decode bG_symbolStandsFor 70 = .ok (.invokestatic 53, 3) := by decide +kernel
theorem dG_symbolStandsFor_73 : decode bG_symbolStandsFor 73 = .ok (.iconst (-1), 1) := by decide +kernel
theorem dG_symbolStandsFor_74 : decode bG_symbolStandsFor 74 = .ok (.if_icmp .ne (7), 3) := by decide +kernel
theorem dG_symbolStandsFor_77 : decode bG_symbolStandsFor 77 = .ok (.iconst 1, 1) := by decide +kernel
theorem dG_symbolStandsFor_78 : decode bG_symbolStandsFor 78 = .ok (.goto (4), 3) := by decide +kernel
theorem dG_symbolStandsFor_81 : decode bG_symbolStandsFor 81 = .ok (.iconst 0, 1) := by decide +kernel
theorem dG_symbolStandsFor_82 : decode bG_symbolStandsFor 82 = .ok (.ireturn, 1) := by decide +kernel
theorem dG_rejectingRules_0 : decode bG_rejectingRules 0 = .ok (.aload_n 0, 1) := by decide +kernel
theorem dG_rejectingRules_1 : decode bG_rejectingRules 1 = .ok (.iload_n 1, 1) := by decide +kernel
theorem dG_rejectingRules_2 : decode bG_rejectingRules 2 = .ok (.iconst 1, 1) := by decide +kernel
theorem dG_rejectingRules_3 : decode bG_rejectingRules 3 = .ok (.invokevirtual 74, 3) := by decide +kernel
theorem dG_rejectingRules_6 : decode bG_rejectingRules 6 = .ok (.ireturn, 1) := by decide +kernel
theorem dG_derivingRules_0 : decode bG_derivingRules 0 = .ok (.aload_n 0, 1) := by decide +kernel
theorem dG_derivingRules_1 : decode bG_derivingRules 1 = .ok (.iload_n 1, 1) := by decide +kernel
theorem dG_derivingRules_2 : decode bG_derivingRules 2 = .ok (.iconst 0, 1) := by decide +kernel
theorem dG_derivingRules_3 : decode bG_derivingRules 3 = .ok (.invokevirtual 74, 3) := by decide +kernel
theorem dG_derivingRules_6 : decode bG_derivingRules 6 = .ok (.ireturn, 1) := by decide +kernel
theorem dG_rulesOf_0 : decode bG_rulesOf 0 = .ok (.iconst 0, 1) := by decide +kernel
theorem dG_rulesOf_1 : decode bG_rulesOf 1 = .ok (.istore_n 3, 1) := by decide +kernel
theorem dG_rulesOf_2 : decode bG_rulesOf 2 = .ok (.iconst 0, 1) := by decide +kernel
theorem dG_rulesOf_3 : decode bG_rulesOf 3 = .ok (.istore 4, 2) := by decide +kernel
theorem dG_rulesOf_5 : decode bG_rulesOf 5 = .ok (.iload 4, 2) := by decide +kernel
theorem dG_rulesOf_7 : decode bG_rulesOf 7 = .ok (.aload_n 0, 1) := by decide +kernel
theorem dG_rulesOf_8 : decode bG_rulesOf 8 = .ok (.getfield 35, 3) := by decide +kernel
theorem dG_rulesOf_11 : decode bG_rulesOf 11 = .ok (.if_icmp .ge (47), 3) := by decide +kernel
theorem dG_rulesOf_14 : decode bG_rulesOf 14 = .ok (.aload_n 0, 1) := by decide +kernel
theorem dG_rulesOf_15 : decode bG_rulesOf 15 = .ok (.getfield 9, 3) := by decide +kernel
theorem dG_rulesOf_18 : decode bG_rulesOf 18 = .ok (.iload 4, 2) := by decide +kernel
theorem dG_rulesOf_20 : decode bG_rulesOf 20 = .ok (.iaload, 1) := by decide +kernel
theorem dG_rulesOf_21 : decode bG_rulesOf 21 = .ok (.iload_n 1, 1) := by decide +kernel
theorem dG_rulesOf_22 : decode bG_rulesOf 22 = .ok (.if_icmp .ne (30), 3) := by decide +kernel
theorem dG_rulesOf_25 : decode bG_rulesOf 25 = .ok (.aload_n 0, 1) := by decide +kernel
theorem dG_rulesOf_26 : decode bG_rulesOf 26 = .ok (.getfield 25, 3) := by decide +kernel
theorem dG_rulesOf_29 : decode bG_rulesOf 29 = .ok (.iload 4, 2) := by decide +kernel
theorem dG_rulesOf_31 : decode bG_rulesOf 31 = .ok (.iaload, 1) := by decide +kernel
theorem dG_rulesOf_32 : decode bG_rulesOf 32 = .ok (.iconst 1, 1) := by decide +kernel
theorem dG_rulesOf_33 : decode bG_rulesOf 33 = .ok (.if_icmp .ne (7), 3) := by decide +kernel
theorem dG_rulesOf_36 : decode bG_rulesOf 36 = .ok (.iconst 1, 1) := by decide +kernel
theorem dG_rulesOf_37 : decode bG_rulesOf 37 = .ok (.goto (4), 3) := by decide +kernel
theorem dG_rulesOf_40 : decode bG_rulesOf 40 = .ok (.iconst 0, 1) := by decide +kernel
theorem dG_rulesOf_41 : decode bG_rulesOf 41 = .ok (.iload_n 2, 1) := by decide +kernel
theorem dG_rulesOf_42 : decode bG_rulesOf 42 = .ok (.if_icmp .ne (10), 3) := by decide +kernel
theorem dG_rulesOf_45 : decode bG_rulesOf 45 = .ok (.iload_n 3, 1) := by decide +kernel
theorem dG_rulesOf_46 : decode bG_rulesOf 46 = .ok (.iconst 1, 1) := by decide +kernel
theorem dG_rulesOf_47 : decode bG_rulesOf 47 = .ok (.iload 4, 2) := by decide +kernel
theorem dG_rulesOf_49 : decode bG_rulesOf 49 = .ok (.ishl, 1) := by decide +kernel
theorem dG_rulesOf_50 : decode bG_rulesOf 50 = .ok (.ior, 1) := by decide +kernel
theorem dG_rulesOf_51 : decode bG_rulesOf 51 = .ok (.istore_n 3, 1) := by decide +kernel
theorem dG_rulesOf_52 : decode bG_rulesOf 52 = .ok (.iinc 4 (1), 3) := by decide +kernel
theorem dG_rulesOf_55 : decode bG_rulesOf 55 = .ok (.goto (-50), 3) := by decide +kernel
theorem dG_rulesOf_58 : decode bG_rulesOf 58 = .ok (.iload_n 3, 1) := by decide +kernel
theorem dG_rulesOf_59 : decode bG_rulesOf 59 = .ok (.ireturn, 1) := by decide +kernel
theorem dG_allowedUnder_0 : decode bG_allowedUnder 0 = .ok (.iload_n 3, 1) := by decide +kernel
theorem dG_allowedUnder_1 : decode bG_allowedUnder 1 = .ok (.aload_n 0, 1) := by decide +kernel
theorem dG_allowedUnder_2 : decode bG_allowedUnder 2 = .ok (.getfield 28, 3) := by decide +kernel
theorem dG_allowedUnder_5 : decode bG_allowedUnder 5 = .ok (.iload_n 1, 1) := by decide +kernel
theorem dG_allowedUnder_6 : decode bG_allowedUnder 6 = .ok (.iaload, 1) := by decide +kernel
theorem dG_allowedUnder_7 : decode bG_allowedUnder 7 = .ok (.iconst (-1), 1) := by decide +kernel
theorem dG_allowedUnder_8 : decode bG_allowedUnder 8 = .ok (.ixor, 1) := by decide +kernel
theorem dG_allowedUnder_9 : decode bG_allowedUnder 9 = .ok (.iand, 1) := by decide +kernel
theorem dG_allowedUnder_10 : decode bG_allowedUnder 10 = .ok (.istore 4, 2) := by decide +kernel
theorem dG_allowedUnder_12 : decode bG_allowedUnder 12 = .ok (.aload_n 0, 1) := by decide +kernel
theorem dG_allowedUnder_13 : decode bG_allowedUnder 13 = .ok (.getfield 25, 3) := by decide +kernel
theorem dG_allowedUnder_16 : decode bG_allowedUnder 16 = .ok (.iload_n 1, 1) := by decide +kernel
theorem dG_allowedUnder_17 : decode bG_allowedUnder 17 = .ok (.iaload, 1) := by decide +kernel
theorem dG_allowedUnder_18 : decode bG_allowedUnder 18 = .ok (.iconst 2, 1) := by decide +kernel
theorem dG_allowedUnder_19 : decode bG_allowedUnder 19 = .ok (.if_icmp .ne (15), 3) := by decide +kernel
theorem dG_allowedUnder_22 : decode bG_allowedUnder 22 = .ok (.iload_n 2, 1) := by decide +kernel
theorem dG_allowedUnder_23 : decode bG_allowedUnder 23 = .ok (.aload_n 0, 1) := by decide +kernel
theorem dG_allowedUnder_24 : decode bG_allowedUnder 24 = .ok (.getfield 15, 3) := by decide +kernel
theorem dG_allowedUnder_27 : decode bG_allowedUnder 27 = .ok (.iload_n 1, 1) := by decide +kernel
theorem dG_allowedUnder_28 : decode bG_allowedUnder 28 = .ok (.iaload, 1) := by decide +kernel
theorem dG_allowedUnder_29 : decode bG_allowedUnder 29 = .ok (.iconst 1, 1) := by decide +kernel
theorem dG_allowedUnder_30 : decode bG_allowedUnder 30 = .ok (.isub, 1) := by decide +kernel
theorem dG_allowedUnder_31 : decode bG_allowedUnder 31 = .ok (.if_icmp .eq (17), 3) := by decide +kernel
theorem dG_allowedUnder_34 : decode bG_allowedUnder 34 = .ok (.aload_n 0, 1) := by decide +kernel
theorem dG_allowedUnder_35 : decode bG_allowedUnder 35 = .ok (.getfield 25, 3) := by decide +kernel
theorem dG_allowedUnder_38 : decode bG_allowedUnder 38 = .ok (.iload_n 1, 1) := by decide +kernel
theorem dG_allowedUnder_39 : decode bG_allowedUnder 39 = .ok (.iaload, 1) := by decide +kernel
theorem dG_allowedUnder_40 : decode bG_allowedUnder 40 = .ok (.iconst 3, 1) := by decide +kernel
theorem dG_allowedUnder_41 : decode bG_allowedUnder 41 = .ok (.if_icmp .ne (11), 3) := by decide +kernel
theorem dG_allowedUnder_44 : decode bG_allowedUnder 44 = .ok (.iload_n 2, 1) := by decide +kernel
theorem dG_allowedUnder_45 : decode bG_allowedUnder 45 = .ok (.ifCond .ne (7), 3) := by decide +kernel
theorem dG_allowedUnder_48 : decode bG_allowedUnder 48 = .ok (.iconst 1, 1) := by decide +kernel
theorem dG_allowedUnder_49 : decode bG_allowedUnder 49 = .ok (.goto (4), 3) := by decide +kernel
theorem dG_allowedUnder_52 : decode bG_allowedUnder 52 = .ok (.iconst 0, 1) := by decide +kernel
theorem dG_allowedUnder_53 : decode bG_allowedUnder 53 = .ok (.istore 5, 2) := by decide +kernel
theorem dG_allowedUnder_55 : decode bG_allowedUnder 55 = .ok (.iload 5, 2) := by decide +kernel
theorem dG_allowedUnder_57 : decode bG_allowedUnder 57 = .ok (.ifCond .eq (14), 3) := by decide +kernel
theorem dG_allowedUnder_60 : decode bG_allowedUnder 60 = .ok (.iload 4, 2) := by decide +kernel
theorem dG_allowedUnder_62 : decode bG_allowedUnder 62 = .ok (.iconst 1, 1) := by decide +kernel
theorem dG_allowedUnder_63 : decode bG_allowedUnder 63 = .ok (.iload_n 1, 1) := by decide +kernel
theorem dG_allowedUnder_64 : decode bG_allowedUnder 64 = .ok (.ishl, 1) := by decide +kernel
theorem dG_allowedUnder_65 : decode bG_allowedUnder 65 = .ok (.iconst (-1), 1) := by decide +kernel
theorem dG_allowedUnder_66 : decode bG_allowedUnder 66 = .ok (.ixor, 1) := by decide +kernel
theorem dG_allowedUnder_67 : decode bG_allowedUnder 67 = .ok (.iand, 1) := by decide +kernel
theorem dG_allowedUnder_68 : decode bG_allowedUnder 68 = .ok (.goto (5), 3) := by decide +kernel
theorem dG_allowedUnder_71 : decode bG_allowedUnder 71 = .ok (.iload 4, 2) := by decide +kernel
theorem dG_allowedUnder_73 : decode bG_allowedUnder 73 = .ok (.ireturn, 1) := by decide +kernel
theorem dG_orderByChains_0 : decode bG_orderByChains 0 = .ok (.iconst 0, 1) := by decide +kernel
theorem dG_orderByChains_1 : decode bG_orderByChains 1 = .ok (.istore_n 2, 1) := by decide +kernel
theorem dG_orderByChains_2 : decode bG_orderByChains 2 = .ok (.iconst 0, 1) := by decide +kernel
theorem dG_orderByChains_3 : decode bG_orderByChains 3 = .ok (.istore_n 3, 1) := by decide +kernel
theorem dG_orderByChains_4 : decode bG_orderByChains 4 = .ok (.iconst 0, 1) := by decide +kernel
theorem dG_orderByChains_5 : decode bG_orderByChains 5 = .ok (.istore 4, 2) := by decide +kernel
theorem dG_orderByChains_7 : decode bG_orderByChains 7 = .ok (.iload 4, 2) := by decide +kernel
theorem dG_orderByChains_9 : decode bG_orderByChains 9 = .ok (.bipush 6, 2) := by decide +kernel
theorem dG_orderByChains_11 : decode bG_orderByChains 11 = .ok (.if_icmp .ge (73), 3) := by decide +kernel
theorem dG_orderByChains_14 : decode bG_orderByChains 14 = .ok (.iconst 0, 1) := by decide +kernel
theorem dG_orderByChains_15 : decode bG_orderByChains 15 = .ok (.istore 5, 2) := by decide +kernel
theorem dG_orderByChains_17 : decode bG_orderByChains 17 = .ok (.iload 5, 2) := by decide +kernel
theorem dG_orderByChains_19 : decode bG_orderByChains 19 = .ok (.bipush 6, 2) := by decide +kernel
theorem dG_orderByChains_21 : decode bG_orderByChains 21 = .ok (.if_icmp .ge (57), 3) := by decide +kernel
theorem dG_orderByChains_24 : decode bG_orderByChains 24 = .ok (.aload_n 0, 1) := by decide +kernel
theorem dG_orderByChains_25 : decode bG_orderByChains 25 = .ok (.iload 5, 2) := by decide +kernel
theorem dG_orderByChains_27 : decode bG_orderByChains 27 = .ok (.invokevirtual 56, 3) := by decide +kernel
theorem dG_orderByChains_30 : decode bG_orderByChains 30 = .ok (.iconst 1, 1) := by decide +kernel
theorem dG_orderByChains_31 : decode bG_orderByChains 31 = .ok (.iload 5, 2) := by decide +kernel
theorem dG_orderByChains_33 : decode bG_orderByChains 33 = .ok (.ishl, 1) := by decide +kernel
theorem dG_orderByChains_34 : decode bG_orderByChains 34 = .ok (.iconst (-1), 1) := by decide +kernel
theorem dG_orderByChains_35 : decode bG_orderByChains 35 = .ok (.ixor, 1) := by decide +kernel
theorem dG_orderByChains_36 : decode bG_orderByChains 36 = .ok (.iand, 1) := by decide +kernel
theorem dG_orderByChains_37 : decode bG_orderByChains 37 = .ok (.istore 6, 2) := by decide +kernel
theorem dG_orderByChains_39 : decode bG_orderByChains 39 = .ok (.iload_n 2, 1) := by decide +kernel
theorem dG_orderByChains_40 : decode bG_orderByChains 40 = .ok (.iload 5, 2) := by decide +kernel
theorem dG_orderByChains_42 : decode bG_orderByChains 42 = .ok (.invokestatic 59, 3) := by decide +kernel
theorem dG_orderByChains_45 : decode bG_orderByChains 45 = .ok (.ifCond .ne (27), 3) := by decide +kernel
theorem dG_orderByChains_48 : decode bG_orderByChains 48 = .ok (.iload 6, 2) := by decide +kernel
theorem dG_orderByChains_50 : decode bG_orderByChains 50 = .ok (.iload_n 2, 1) := by decide +kernel
theorem dG_orderByChains_51 : decode bG_orderByChains 51 = .ok (.iconst (-1), 1) := by decide +kernel
theorem dG_orderByChains_52 : decode bG_orderByChains 52 = .ok (.ixor, 1) := by decide +kernel
theorem dG_orderByChains_53 : decode bG_orderByChains 53 = .ok (.iand, 1) := by decide +kernel
theorem dG_orderByChains_54 : decode bG_orderByChains 54 = .ok (.ifCond .ne (18), 3) := by decide +kernel
theorem dG_orderByChains_57 : decode bG_orderByChains 57 = .ok (.aload_n 1, 1) := by decide +kernel
theorem dG_orderByChains_58 : decode bG_orderByChains 58 = .ok (.iload_n 3, 1) := by decide +kernel
theorem dG_orderByChains_59 : decode bG_orderByChains 59 = .ok (.iload 5, 2) := by decide +kernel
theorem dG_orderByChains_61 : decode bG_orderByChains 61 = .ok (.iastore, 1) := by decide +kernel
theorem dG_orderByChains_62 : decode bG_orderByChains 62 = .ok (.iinc 3 (1), 3) := by decide +kernel
theorem dG_orderByChains_65 : decode bG_orderByChains 65 = .ok (.iload_n 2, 1) := by decide +kernel
theorem dG_orderByChains_66 : decode bG_orderByChains 66 = .ok (.iconst 1, 1) := by decide +kernel
theorem dG_orderByChains_67 : decode bG_orderByChains 67 = .ok (.iload 5, 2) := by decide +kernel
theorem dG_orderByChains_69 : decode bG_orderByChains 69 = .ok (.ishl, 1) := by decide +kernel
theorem dG_orderByChains_70 : decode bG_orderByChains 70 = .ok (.ior, 1) := by decide +kernel
theorem dG_orderByChains_71 : decode bG_orderByChains 71 = .ok (.istore_n 2, 1) := by decide +kernel
theorem dG_orderByChains_72 : decode bG_orderByChains 72 = .ok (.iinc 5 (1), 3) := by decide +kernel
theorem dG_orderByChains_75 : decode bG_orderByChains 75 = .ok (.goto (-58), 3) := by decide +kernel
theorem dG_orderByChains_78 : decode bG_orderByChains 78 = .ok (.iinc 4 (1), 3) := by decide +kernel
theorem dG_orderByChains_81 : decode bG_orderByChains 81 = .ok (.goto (-74), 3) := by decide +kernel
theorem dG_orderByChains_84 : decode bG_orderByChains 84 = .ok (.return_, 1) := by decide +kernel
theorem dT_init_0 : decode bT_init 0 = .ok (.aload_n 0, 1) := by decide +kernel
theorem dT_init_1 : decode bT_init 1 = .ok (.invokespecial 3, 3) := by decide +kernel
theorem dT_init_4 : decode bT_init 4 = .ok (.aload_n 0, 1) := by decide +kernel
theorem dT_init_5 : decode bT_init 5 = .ok (.bipush 14, 2) := by decide +kernel
theorem dT_init_7 : decode bT_init 7 = .ok (.newarray .int, 2) := by decide +kernel
theorem dT_init_9 : decode bT_init 9 = .ok (.putfield 9, 3) := by decide +kernel
theorem dT_init_12 : decode bT_init 12 = .ok (.aload_n 0, 1) := by decide +kernel
theorem dT_init_13 : decode bT_init 13 = .ok (.iconst 0, 1) := by decide +kernel
theorem dT_init_14 : decode bT_init 14 = .ok (.putfield 15, 3) := by decide +kernel
theorem dT_init_17 : decode bT_init 17 = .ok (.return_, 1) := by decide +kernel
theorem dT_length_0 : decode bT_length 0 = .ok (.aload_n 0, 1) := by decide +kernel
theorem dT_length_1 : decode bT_length 1 = .ok (.getfield 15, 3) := by decide +kernel
theorem dT_length_4 : decode bT_length 4 = .ok (.ireturn, 1) := by decide +kernel
theorem dT_at_0 : decode bT_at 0 = .ok (.iload_n 1, 1) := by decide +kernel
theorem dT_at_1 : decode bT_at 1 = .ok (.ifCond .lt (20), 3) := by decide +kernel
theorem dT_at_4 : decode bT_at 4 = .ok (.iload_n 1, 1) := by decide +kernel
theorem dT_at_5 : decode bT_at 5 = .ok (.aload_n 0, 1) := by decide +kernel
theorem dT_at_6 : decode bT_at 6 = .ok (.getfield 15, 3) := by decide +kernel
theorem dT_at_9 : decode bT_at 9 = .ok (.if_icmp .ge (12), 3) := by decide +kernel
theorem dT_at_12 : decode bT_at 12 = .ok (.aload_n 0, 1) := by decide +kernel
theorem dT_at_13 : decode bT_at 13 = .ok (.getfield 9, 3) := by decide +kernel
theorem dT_at_16 : decode bT_at 16 = .ok (.iload_n 1, 1) := by decide +kernel
theorem dT_at_17 : decode bT_at 17 = .ok (.iaload, 1) := by decide +kernel
theorem dT_at_18 : decode bT_at 18 = .ok (.goto (4), 3) := by decide +kernel
theorem dT_at_21 : decode bT_at 21 = .ok (.iconst 0, 1) := by decide +kernel
theorem dT_at_22 : decode bT_at 22 = .ok (.ireturn, 1) := by decide +kernel
theorem dT_append_0 : decode bT_append 0 = .ok (.aload_n 0, 1) := by decide +kernel
theorem dT_append_1 : decode bT_append 1 = .ok (.getfield 15, 3) := by decide +kernel
theorem dT_append_4 : decode bT_append 4 = .ok (.bipush 14, 2) := by decide +kernel
theorem dT_append_6 : decode bT_append 6 = .ok (.if_icmp .ge (23), 3) := by decide +kernel
theorem dT_append_9 : decode bT_append 9 = .ok (.aload_n 0, 1) := by decide +kernel
theorem dT_append_10 : decode bT_append 10 = .ok (.getfield 9, 3) := by decide +kernel
theorem dT_append_13 : decode bT_append 13 = .ok (.aload_n 0, 1) := by decide +kernel
theorem dT_append_14 : decode bT_append 14 = .ok (.getfield 15, 3) := by decide +kernel
theorem dT_append_17 : decode bT_append 17 = .ok (.iload_n 1, 1) := by decide +kernel
theorem dT_append_18 : decode bT_append 18 = .ok (.iastore, 1) := by decide +kernel
theorem dT_append_19 : decode bT_append 19 = .ok (.aload_n 0, 1) := by decide +kernel
theorem dT_append_20 : decode bT_append 20 = .ok (.dup, 1) := by decide +kernel
theorem dT_append_21 : decode bT_append 21 = .ok (.getfield 15, 3) := by decide +kernel
theorem dT_append_24 : decode bT_append 24 = .ok (.iconst 1, 1) := by decide +kernel
theorem dT_append_25 : decode bT_append 25 = .ok (.iadd, 1) := by decide +kernel
theorem dT_append_26 : decode bT_append 26 = .ok (.putfield 15, 3) := by decide +kernel
theorem dT_append_29 : decode bT_append 29 = .ok (.return_, 1) := by decide +kernel
theorem dT_clear_0 : decode bT_clear 0 = .ok (.aload_n 0, 1) := by decide +kernel
theorem dT_clear_1 : decode bT_clear 1 = .ok (.iconst 0, 1) := by decide +kernel
theorem dT_clear_2 : decode bT_clear 2 = .ok (.putfield 15, 3) := by decide +kernel
theorem dT_clear_5 : decode bT_clear 5 = .ok (.return_, 1) := by decide +kernel
theorem dE_init_0 : decode bE_init 0 = .ok (.aload_n 0, 1) := by decide +kernel
theorem dE_init_1 : decode bE_init 1 = .ok (.invokespecial 3, 3) := by decide +kernel
theorem dE_init_4 : decode bE_init 4 = .ok (.aload_n 0, 1) := by decide +kernel
theorem dE_init_5 : decode bE_init 5 = .ok (.sipush 162, 3) := by decide +kernel
theorem dE_init_8 : decode bE_init 8 = .ok (.newarray .int, 2) := by decide +kernel
theorem dE_init_10 : decode bE_init 10 = .ok (.putfield 9, 3) := by decide +kernel
theorem dE_init_13 : decode bE_init 13 = .ok (.aload_n 0, 1) := by decide +kernel
theorem dE_init_14 : decode bE_init 14 = .ok (.sipush 162, 3) := by decide +kernel
theorem dE_init_17 : decode bE_init 17 = .ok (.newarray .int, 2) := by decide +kernel
theorem dE_init_19 : decode bE_init 19 = .ok (.putfield 15, 3) := by decide +kernel
theorem dE_init_22 : decode bE_init 22 = .ok (.aload_n 0, 1) := by decide +kernel
theorem dE_init_23 : decode bE_init 23 = .ok (.sipush 162, 3) := by decide +kernel
theorem dE_init_26 : decode bE_init 26 = .ok (.newarray .int, 2) := by decide +kernel
theorem dE_init_28 : decode bE_init 28 = .ok (.putfield 18, 3) := by decide +kernel
theorem dE_init_31 : decode bE_init 31 = .ok (.aload_n 0, 1) := by decide +kernel
theorem dE_init_32 : decode bE_init 32 = .ok (.iconst 0, 1) := by decide +kernel
theorem dE_init_33 : decode bE_init 33 = .ok (.putfield 21, 3) := by decide +kernel
theorem dE_init_36 : decode bE_init 36 = .ok (.return_, 1) := by decide +kernel
theorem dE_clear_0 : decode bE_clear 0 = .ok (.aload_n 0, 1) := by decide +kernel
theorem dE_clear_1 : decode bE_clear 1 = .ok (.iconst 0, 1) := by decide +kernel
theorem dE_clear_2 : decode bE_clear 2 = .ok (.putfield 21, 3) := by decide +kernel
theorem dE_clear_5 : decode bE_clear 5 = .ok (.return_, 1) := by decide +kernel
theorem dE_grow_0 : decode bE_grow 0 = .ok (.aload_n 0, 1) := by decide +kernel
theorem dE_grow_1 : decode bE_grow 1 = .ok (.iconst 0, 1) := by decide +kernel
theorem dE_grow_2 : decode bE_grow 2 = .ok (.putfield 21, 3) := by decide +kernel
theorem dE_grow_5 : decode bE_grow 5 = .ok (.aload_n 0, 1) := by decide +kernel
theorem dE_grow_6 : decode bE_grow 6 = .ok (.iconst 0, 1) := by decide +kernel
theorem dE_grow_7 : decode bE_grow 7 = .ok (.iload_n 3, 1) := by decide +kernel
theorem dE_grow_8 : decode bE_grow 8 = .ok (.iconst 0, 1) := by decide +kernel
theorem dE_grow_9 : decode bE_grow 9 = .ok (.iload 4, 2) := by decide +kernel
theorem dE_grow_11 : decode bE_grow 11 = .ok (.invokevirtual 25, 3) := by decide +kernel
theorem dE_grow_14 : decode bE_grow 14 = .ok (.iconst 0, 1) := by decide +kernel
theorem dE_grow_15 : decode bE_grow 15 = .ok (.istore 5, 2) := by decide +kernel
theorem dE_grow_17 : decode bE_grow 17 = .ok (.iload 5, 2) := by decide +kernel
theorem dE_grow_19 : decode bE_grow 19 = .ok (.aload_n 0, 1) := by decide +kernel
theorem dE_grow_20 : decode bE_grow 20 = .ok (.getfield 21, 3) := by decide +kernel
theorem dE_grow_23 : decode bE_grow 23 = .ok (.if_icmp .ge (25), 3) := by decide +kernel
theorem dE_grow_26 : decode bE_grow 26 = .ok (.iload 5, 2) := by decide +kernel
theorem dE_grow_28 : decode bE_grow 28 = .ok (.sipush 162, 3) := by decide +kernel
theorem dE_grow_31 : decode bE_grow 31 = .ok (.if_icmp .ge (17), 3) := by decide +kernel
theorem dE_grow_34 : decode bE_grow 34 = .ok (.aload_n 0, 1) := by decide +kernel
theorem dE_grow_35 : decode bE_grow 35 = .ok (.aload_n 1, 1) := by decide +kernel
theorem dE_grow_36 : decode bE_grow 36 = .ok (.aload_n 2, 1) := by decide +kernel
theorem dE_grow_37 : decode bE_grow 37 = .ok (.iload 5, 2) := by decide +kernel
theorem dE_grow_39 : decode bE_grow 39 = .ok (.invokevirtual 29, 3) := by decide +kernel
theorem dE_grow_42 : decode bE_grow 42 = .ok (.iinc 5 (1), 3) := by decide +kernel
theorem dE_grow_45 : decode bE_grow 45 = .ok (.goto (-28), 3) := by decide +kernel
theorem dE_grow_48 : decode bE_grow 48 = .ok (.return_, 1) := by decide +kernel
theorem dE_insertBelow_0 : decode bE_insertBelow 0 = .ok (.aload_n 0, 1) := by decide +kernel
theorem dE_insertBelow_1 : decode bE_insertBelow 1 = .ok (.getfield 9, 3) := by decide +kernel
theorem dE_insertBelow_4 : decode bE_insertBelow 4 = .ok (.iload_n 3, 1) := by decide +kernel
theorem dE_insertBelow_5 : decode bE_insertBelow 5 = .ok (.iaload, 1) := by decide +kernel
theorem dE_insertBelow_6 : decode bE_insertBelow 6 = .ok (.istore 4, 2) := by decide +kernel
theorem dE_insertBelow_8 : decode bE_insertBelow 8 = .ok (.aload_n 0, 1) := by decide +kernel
theorem dE_insertBelow_9 : decode bE_insertBelow 9 = .ok (.getfield 15, 3) := by decide +kernel
theorem dE_insertBelow_12 : decode bE_insertBelow 12 = .ok (.iload_n 3, 1) := by decide +kernel
theorem dE_insertBelow_13 : decode bE_insertBelow 13 = .ok (.iaload, 1) := by decide +kernel
theorem dE_insertBelow_14 : decode bE_insertBelow 14 = .ok (.aload_n 0, 1) := by decide +kernel
theorem dE_insertBelow_15 : decode bE_insertBelow 15 = .ok (.getfield 18, 3) := by decide +kernel
theorem dE_insertBelow_18 : decode bE_insertBelow 18 = .ok (.iload_n 3, 1) := by decide +kernel
theorem dE_insertBelow_19 : decode bE_insertBelow 19 = .ok (.iaload, 1) := by decide +kernel
theorem dE_insertBelow_20 : decode bE_insertBelow 20 = .ok (.invokestatic 33, 3) := by decide +kernel
theorem dE_insertBelow_23 : decode bE_insertBelow 23 = .ok (.istore 5, 2) := by decide +kernel
theorem dE_insertBelow_25 : decode bE_insertBelow 25 = .ok (.aload_n 0, 1) := by decide +kernel
theorem dE_insertBelow_26 : decode bE_insertBelow 26 = .ok (.getfield 15, 3) := by decide +kernel
theorem dE_insertBelow_29 : decode bE_insertBelow 29 = .ok (.iload_n 3, 1) := by decide +kernel
theorem dE_insertBelow_30 : decode bE_insertBelow 30 = .ok (.iaload, 1) := by decide +kernel
theorem dE_insertBelow_31 : decode bE_insertBelow 31 = .ok (.istore 6, 2) := by decide +kernel
theorem dE_insertBelow_33 : decode bE_insertBelow 33 = .ok (.iload_n 3, 1) := by decide +kernel
theorem dE_insertBelow_34 : decode bE_insertBelow 34 = .ok (.iconst 1, 1) := by decide +kernel
theorem dE_insertBelow_35 : decode bE_insertBelow 35 = .ok (.iadd, 1) := by decide +kernel
theorem dE_insertBelow_36 : decode bE_insertBelow 36 = .ok (.istore 7, 2) := by decide +kernel
theorem dE_insertBelow_38 : decode bE_insertBelow 38 = .ok (.iconst 0, 1) := by decide +kernel
theorem dE_insertBelow_39 : decode bE_insertBelow 39 = .ok (.istore 8, 2) := by decide +kernel
theorem dE_insertBelow_41 : decode bE_insertBelow 41 = .ok (.iload 8, 2) := by decide +kernel
theorem dE_insertBelow_43 : decode bE_insertBelow 43 = .ok (.aload_n 1, 1) := by decide +kernel
theorem dE_insertBelow_44 : decode bE_insertBelow 44 = .ok (.iload 4, 2) := by decide +kernel
theorem dE_insertBelow_46 : decode bE_insertBelow 46 = .ok (.invokevirtual 37, 3) := by decide +kernel
theorem dE_insertBelow_49 : decode bE_insertBelow 49 = .ok (.if_icmp .ge (63), 3) := by decide +kernel
theorem dE_insertBelow_52 : decode bE_insertBelow 52 = .ok (.aload_n 2, 1) := by decide +kernel
theorem dE_insertBelow_53 : decode bE_insertBelow 53 = .ok (.iload 4, 2) := by decide +kernel
theorem dE_insertBelow_55 : decode bE_insertBelow 55 = .ok (.iload 8, 2) := by decide +kernel
theorem dE_insertBelow_57 : decode bE_insertBelow 57 = .ok (.iload 5, 2) := by decide +kernel
theorem dE_insertBelow_59 : decode bE_insertBelow 59 = .ok (.invokevirtual 43, 3) := by decide +kernel
theorem dE_insertBelow_62 : decode bE_insertBelow 62 = .ok (.istore 9, 2) := by decide +kernel
theorem dE_insertBelow_64 : decode bE_insertBelow 64 = .ok (.aload_n 2, 1) := by decide +kernel
theorem dE_insertBelow_65 : decode bE_insertBelow 65 = .ok (.iload 4, 2) := by decide +kernel
theorem dE_insertBelow_67 : decode bE_insertBelow 67 = .ok (.iload 8, 2) := by decide +kernel
theorem dE_insertBelow_69 : decode bE_insertBelow 69 = .ok (.iload 6, 2) := by decide +kernel
theorem dE_insertBelow_71 : decode bE_insertBelow 71 = .ok (.iload 9, 2) := by decide +kernel
theorem dE_insertBelow_73 : decode bE_insertBelow 73 = .ok (.invokestatic 33, 3) := by decide +kernel
theorem dE_insertBelow_76 : decode bE_insertBelow 76 = .ok (.invokevirtual 49, 3) := by decide +kernel
theorem dE_insertBelow_79 : decode bE_insertBelow 79 = .ok (.istore 10, 2) := by decide +kernel
theorem dE_insertBelow_81 : decode bE_insertBelow 81 = .ok (.iload 10, 2) := by decide +kernel
theorem dE_insertBelow_83 : decode bE_insertBelow 83 = .ok (.iconst (-1), 1) := by decide +kernel
theorem dE_insertBelow_84 : decode bE_insertBelow 84 = .ok (.if_icmp .eq (18), 3) := by decide +kernel
theorem dE_insertBelow_87 : decode bE_insertBelow 87 = .ok (.aload_n 0, 1) := by decide +kernel
theorem dE_insertBelow_88 : decode bE_insertBelow 88 = .ok (.iload 7, 2) := by decide +kernel
theorem dE_insertBelow_90 : decode bE_insertBelow 90 = .ok (.iload 10, 2) := by decide +kernel
theorem dE_insertBelow_92 : decode bE_insertBelow 92 = .ok (.iload 6, 2) := by decide +kernel
theorem dE_insertBelow_94 : decode bE_insertBelow 94 = .ok (.iload 9, 2) := by decide +kernel
theorem dE_insertBelow_96 : decode bE_insertBelow 96 = .ok (.invokevirtual 25, 3) := by decide +kernel
theorem dE_insertBelow_99 : decode bE_insertBelow 99 = .ok (.iinc 7 (1), 3) := by decide +kernel
theorem dE_insertBelow_102 : decode bE_insertBelow 102 = .ok (.iload 9, 2) := by decide +kernel
theorem dE_insertBelow_104 : decode bE_insertBelow 104 = .ok (.istore 6, 2) := by decide +kernel
theorem dE_insertBelow_106 : decode bE_insertBelow 106 = .ok (.iinc 8 (1), 3) := by decide +kernel
theorem dE_insertBelow_109 : decode bE_insertBelow 109 = .ok (.goto (-68), 3) := by decide +kernel
theorem dE_insertBelow_112 : decode bE_insertBelow 112 = .ok (.return_, 1) := by decide +kernel
theorem dE_insert_0 : decode bE_insert 0 = .ok (.aload_n 0, 1) := by decide +kernel
theorem dE_insert_1 : decode bE_insert 1 = .ok (.getfield 21, 3) := by decide +kernel
theorem dE_insert_4 : decode bE_insert 4 = .ok (.sipush 162, 3) := by decide +kernel
theorem dE_insert_7 : decode bE_insert 7 = .ok (.if_icmp .ge (106), 3) := by decide +kernel
theorem dE_insert_10 : decode bE_insert 10 = .ok (.iload_n 1, 1) := by decide +kernel
theorem dE_insert_11 : decode bE_insert 11 = .ok (.aload_n 0, 1) := by decide +kernel
theorem dE_insert_12 : decode bE_insert 12 = .ok (.getfield 21, 3) := by decide +kernel
theorem dE_insert_15 : decode bE_insert 15 = .ok (.if_icmp .gt (98), 3) := by decide +kernel
theorem dE_insert_18 : decode bE_insert 18 = .ok (.aload_n 0, 1) := by decide +kernel
theorem dE_insert_19 : decode bE_insert 19 = .ok (.getfield 9, 3) := by decide +kernel
theorem dE_insert_22 : decode bE_insert 22 = .ok (.iload_n 1, 1) := by decide +kernel
theorem dE_insert_23 : decode bE_insert 23 = .ok (.aload_n 0, 1) := by decide +kernel
theorem dE_insert_24 : decode bE_insert 24 = .ok (.getfield 9, 3) := by decide +kernel
theorem dE_insert_27 : decode bE_insert 27 = .ok (.iload_n 1, 1) := by decide +kernel
theorem dE_insert_28 : decode bE_insert 28 = .ok (.iconst 1, 1) := by decide +kernel
theorem dE_insert_29 : decode bE_insert 29 = .ok (.iadd, 1) := by decide +kernel
theorem dE_insert_30 : decode bE_insert 30 = .ok (.aload_n 0, 1) := by decide +kernel
theorem dE_insert_31 : decode bE_insert 31 = .ok (.getfield 21, 3) := by decide +kernel
theorem dE_insert_34 : decode bE_insert 34 = .ok (.iload_n 1, 1) := by decide +kernel
theorem dE_insert_35 : decode bE_insert 35 = .ok (.isub, 1) := by decide +kernel
theorem dE_insert_36 : decode bE_insert 36 = .ok (.invokestatic 52, 3) := by decide +kernel
theorem dE_insert_39 : decode bE_insert 39 = .ok (.aload_n 0, 1) := by decide +kernel
theorem dE_insert_40 : decode bE_insert 40 = .ok (.getfield 15, 3) := by decide +kernel
theorem dE_insert_43 : decode bE_insert 43 = .ok (.iload_n 1, 1) := by decide +kernel
theorem dE_insert_44 : decode bE_insert 44 = .ok (.aload_n 0, 1) := by decide +kernel
theorem dE_insert_45 : decode bE_insert 45 = .ok (.getfield 15, 3) := by decide +kernel
theorem dE_insert_48 : decode bE_insert 48 = .ok (.iload_n 1, 1) := by decide +kernel
theorem dE_insert_49 : decode bE_insert 49 = .ok (.iconst 1, 1) := by decide +kernel
theorem dE_insert_50 : decode bE_insert 50 = .ok (.iadd, 1) := by decide +kernel
theorem dE_insert_51 : decode bE_insert 51 = .ok (.aload_n 0, 1) := by decide +kernel
theorem dE_insert_52 : decode bE_insert 52 = .ok (.getfield 21, 3) := by decide +kernel
theorem dE_insert_55 : decode bE_insert 55 = .ok (.iload_n 1, 1) := by decide +kernel
theorem dE_insert_56 : decode bE_insert 56 = .ok (.isub, 1) := by decide +kernel
theorem dE_insert_57 : decode bE_insert 57 = .ok (.invokestatic 52, 3) := by decide +kernel
theorem dE_insert_60 : decode bE_insert 60 = .ok (.aload_n 0, 1) := by decide +kernel
theorem dE_insert_61 : decode bE_insert 61 = .ok (.getfield 18, 3) := by decide +kernel
theorem dE_insert_64 : decode bE_insert 64 = .ok (.iload_n 1, 1) := by decide +kernel
theorem dE_insert_65 : decode bE_insert 65 = .ok (.aload_n 0, 1) := by decide +kernel
theorem dE_insert_66 : decode bE_insert 66 = .ok (.getfield 18, 3) := by decide +kernel
theorem dE_insert_69 : decode bE_insert 69 = .ok (.iload_n 1, 1) := by decide +kernel
theorem dE_insert_70 : decode bE_insert 70 = .ok (.iconst 1, 1) := by decide +kernel
theorem dE_insert_71 : decode bE_insert 71 = .ok (.iadd, 1) := by decide +kernel
theorem dE_insert_72 : decode bE_insert 72 = .ok (.aload_n 0, 1) := by decide +kernel
theorem dE_insert_73 : decode bE_insert 73 = .ok (.getfield 21, 3) := by decide +kernel
theorem dE_insert_76 : decode bE_insert 76 = .ok (.iload_n 1, 1) := by decide +kernel
theorem dE_insert_77 : decode bE_insert 77 = .ok (.isub, 1) := by decide +kernel
theorem dE_insert_78 : decode bE_insert 78 = .ok (.invokestatic 52, 3) := by decide +kernel
theorem dE_insert_81 : decode bE_insert 81 = .ok (.aload_n 0, 1) := by decide +kernel
theorem dE_insert_82 : decode bE_insert 82 = .ok (.getfield 9, 3) := by decide +kernel
theorem dE_insert_85 : decode bE_insert 85 = .ok (.iload_n 1, 1) := by decide +kernel
theorem dE_insert_86 : decode bE_insert 86 = .ok (.iload_n 2, 1) := by decide +kernel
theorem dE_insert_87 : decode bE_insert 87 = .ok (.iastore, 1) := by decide +kernel
theorem dE_insert_88 : decode bE_insert 88 = .ok (.aload_n 0, 1) := by decide +kernel
theorem dE_insert_89 : decode bE_insert 89 = .ok (.getfield 15, 3) := by decide +kernel
theorem dE_insert_92 : decode bE_insert 92 = .ok (.iload_n 1, 1) := by decide +kernel
theorem dE_insert_93 : decode bE_insert 93 = .ok (.iload_n 3, 1) := by decide +kernel
theorem dE_insert_94 : decode bE_insert 94 = .ok (.iastore, 1) := by decide +kernel
theorem dE_insert_95 : decode bE_insert 95 = .ok (.aload_n 0, 1) := by decide +kernel
theorem dE_insert_96 : decode bE_insert 96 = .ok (.getfield 18, 3) := by decide +kernel
theorem dE_insert_99 : decode bE_insert 99 = .ok (.iload_n 1, 1) := by decide +kernel
theorem dE_insert_100 : decode bE_insert 100 = .ok (.iload 4, 2) := by decide +kernel
theorem dE_insert_102 : decode bE_insert 102 = .ok (.iastore, 1) := by decide +kernel
theorem dE_insert_103 : decode bE_insert 103 = .ok (.aload_n 0, 1) := by decide +kernel
theorem dE_insert_104 : decode bE_insert 104 = .ok (.dup, 1) := by decide +kernel
theorem dE_insert_105 : decode bE_insert 105 = .ok (.getfield 21, 3) := by decide +kernel
theorem dE_insert_108 : decode bE_insert 108 = .ok (.iconst 1, 1) := by decide +kernel
theorem dE_insert_109 : decode bE_insert 109 = .ok (.iadd, 1) := by decide +kernel
theorem dE_insert_110 : decode bE_insert 110 = .ok (.putfield 21, 3) := by decide +kernel
theorem dE_insert_113 : decode bE_insert 113 = .ok (.return_, 1) := by decide +kernel
theorem dE_size_0 : decode bE_size 0 = .ok (.aload_n 0, 1) := by decide +kernel
theorem dE_size_1 : decode bE_size 1 = .ok (.getfield 21, 3) := by decide +kernel
theorem dE_size_4 : decode bE_size 4 = .ok (.ireturn, 1) := by decide +kernel
theorem dE_ruleAt_0 : decode bE_ruleAt 0 = .ok (.aload_n 0, 1) := by decide +kernel
theorem dE_ruleAt_1 : decode bE_ruleAt 1 = .ok (.getfield 9, 3) := by decide +kernel
theorem dE_ruleAt_4 : decode bE_ruleAt 4 = .ok (.iload_n 1, 1) := by decide +kernel
theorem dE_ruleAt_5 : decode bE_ruleAt 5 = .ok (.iaload, 1) := by decide +kernel
theorem dE_ruleAt_6 : decode bE_ruleAt 6 = .ok (.ireturn, 1) := by decide +kernel
theorem dE_beginAt_0 : decode bE_beginAt 0 = .ok (.aload_n 0, 1) := by decide +kernel
theorem dE_beginAt_1 : decode bE_beginAt 1 = .ok (.getfield 15, 3) := by decide +kernel
theorem dE_beginAt_4 : decode bE_beginAt 4 = .ok (.iload_n 1, 1) := by decide +kernel
theorem dE_beginAt_5 : decode bE_beginAt 5 = .ok (.iaload, 1) := by decide +kernel
theorem dE_beginAt_6 : decode bE_beginAt 6 = .ok (.ireturn, 1) := by decide +kernel
theorem dE_endAt_0 : decode bE_endAt 0 = .ok (.aload_n 0, 1) := by decide +kernel
theorem dE_endAt_1 : decode bE_endAt 1 = .ok (.getfield 18, 3) := by decide +kernel
theorem dE_endAt_4 : decode bE_endAt 4 = .ok (.iload_n 1, 1) := by decide +kernel
theorem dE_endAt_5 : decode bE_endAt 5 = .ok (.iaload, 1) := by decide +kernel
theorem dE_endAt_6 : decode bE_endAt 6 = .ok (.ireturn, 1) := by decide +kernel
theorem dE_nodesBelow_0 : decode bE_nodesBelow 0 = .ok (.iload_n 1, 1) := by decide +kernel
theorem dE_nodesBelow_1 : decode bE_nodesBelow 1 = .ok (.iconst 1, 1) := by decide +kernel
theorem dE_nodesBelow_2 : decode bE_nodesBelow 2 = .ok (.iadd, 1) := by decide +kernel
theorem dE_nodesBelow_3 : decode bE_nodesBelow 3 = .ok (.istore_n 2, 1) := by decide +kernel
theorem dE_nodesBelow_4 : decode bE_nodesBelow 4 = .ok (.iload_n 2, 1) := by decide +kernel
theorem dE_nodesBelow_5 : decode bE_nodesBelow 5 = .ok (.aload_n 0, 1) := by decide +kernel
theorem dE_nodesBelow_6 : decode bE_nodesBelow 6 = .ok (.getfield 21, 3) := by decide +kernel
theorem dE_nodesBelow_9 : decode bE_nodesBelow 9 = .ok (.if_icmp .ge (24), 3) := by decide +kernel
theorem dE_nodesBelow_12 : decode bE_nodesBelow 12 = .ok (.aload_n 0, 1) := by decide +kernel
theorem dE_nodesBelow_13 : decode bE_nodesBelow 13 = .ok (.getfield 15, 3) := by decide +kernel
theorem dE_nodesBelow_16 : decode bE_nodesBelow 16 = .ok (.iload_n 2, 1) := by decide +kernel
theorem dE_nodesBelow_17 : decode bE_nodesBelow 17 = .ok (.iaload, 1) := by decide +kernel
theorem dE_nodesBelow_18 : decode bE_nodesBelow 18 = .ok (.aload_n 0, 1) := by decide +kernel
theorem dE_nodesBelow_19 : decode bE_nodesBelow 19 = .ok (.getfield 18, 3) := by decide +kernel
theorem dE_nodesBelow_22 : decode bE_nodesBelow 22 = .ok (.iload_n 1, 1) := by decide +kernel
theorem dE_nodesBelow_23 : decode bE_nodesBelow 23 = .ok (.iaload, 1) := by decide +kernel
theorem dE_nodesBelow_24 : decode bE_nodesBelow 24 = .ok (.if_icmp .ge (9), 3) := by decide +kernel
theorem dE_nodesBelow_27 : decode bE_nodesBelow 27 = .ok (.iinc 2 (1), 3) := by decide +kernel
theorem dE_nodesBelow_30 : decode bE_nodesBelow 30 = .ok (.goto (-26), 3) := by decide +kernel
theorem dE_nodesBelow_33 : decode bE_nodesBelow 33 = .ok (.iload_n 2, 1) := by decide +kernel
theorem dE_nodesBelow_34 : decode bE_nodesBelow 34 = .ok (.iload_n 1, 1) := by decide +kernel
theorem dE_nodesBelow_35 : decode bE_nodesBelow 35 = .ok (.isub, 1) := by decide +kernel
theorem dE_nodesBelow_36 : decode bE_nodesBelow 36 = .ok (.iconst 1, 1) := by decide +kernel
theorem dE_nodesBelow_37 : decode bE_nodesBelow 37 = .ok (.isub, 1) := by decide +kernel
theorem dE_nodesBelow_38 : decode bE_nodesBelow 38 = .ok (.ireturn, 1) := by decide +kernel
theorem dP_init_0 : decode bP_init 0 = .ok (.aload_n 0, 1) := by decide +kernel
theorem dP_init_1 : decode bP_init 1 = .ok (.invokespecial 3, 3) := by decide +kernel
theorem dP_init_4 : decode bP_init 4 = .ok (.aload_n 0, 1) := by decide +kernel
theorem dP_init_5 : decode bP_init 5 = .ok (.new 9, 3) := by decide +kernel
theorem dP_init_8 : decode bP_init 8 = .ok (.dup, 1) := by decide +kernel
theorem dP_init_9 : decode bP_init 9 = .ok (.invokespecial 11, 3) := by decide +kernel
theorem dP_init_12 : decode bP_init 12 = .ok (.putfield 12, 3) := by decide +kernel
theorem dP_init_15 : decode bP_init 15 = .ok (.aload_n 0, 1) := by decide +kernel
theorem dP_init_16 : decode bP_init 16 = .ok (.new 16, 3) := by decide +kernel
theorem dP_init_19 : decode bP_init 19 = .ok (.dup, 1) := by decide +kernel
theorem dP_init_20 : decode bP_init 20 = .ok (.invokespecial 18, 3) := by decide +kernel
theorem dP_init_23 : decode bP_init 23 = .ok (.putfield 19, 3) := by decide +kernel
theorem dP_init_26 : decode bP_init 26 = .ok (.aload_n 0, 1) := by decide +kernel
theorem dP_init_27 : decode bP_init 27 = .ok (.new 23, 3) := by decide +kernel
theorem dP_init_30 : decode bP_init 30 = .ok (.dup, 1) := by decide +kernel
theorem dP_init_31 : decode bP_init 31 = .ok (.invokespecial 25, 3) := by decide +kernel
theorem dP_init_34 : decode bP_init 34 = .ok (.putfield 26, 3) := by decide +kernel
theorem dP_init_37 : decode bP_init 37 = .ok (.aload_n 0, 1) := by decide +kernel
theorem dP_init_38 : decode bP_init 38 = .ok (.new 30, 3) := by decide +kernel
theorem dP_init_41 : decode bP_init 41 = .ok (.dup, 1) := by decide +kernel
theorem dP_init_42 : decode bP_init 42 = .ok (.invokespecial 32, 3) := by decide +kernel
theorem dP_init_45 : decode bP_init 45 = .ok (.putfield 33, 3) := by decide +kernel
theorem dP_init_48 : decode bP_init 48 = .ok (.aload_n 0, 1) := by decide +kernel
theorem dP_init_49 : decode bP_init 49 = .ok (.iconst (-1), 1) := by decide +kernel
theorem dP_init_50 : decode bP_init 50 = .ok (.putfield 37, 3) := by decide +kernel
theorem dP_init_53 : decode bP_init 53 = .ok (.aload_n 0, 1) := by decide +kernel
theorem dP_init_54 : decode bP_init 54 = .ok (.iconst 0, 1) := by decide +kernel
theorem dP_init_55 : decode bP_init 55 = .ok (.putfield 41, 3) := by decide +kernel
theorem dP_init_58 : decode bP_init 58 = .ok (.aload_n 0, 1) := by decide +kernel
theorem dP_init_59 : decode bP_init 59 = .ok (.dconst 0, 1) := by decide +kernel
theorem dP_init_60 : decode bP_init 60 = .ok (.putfield 44, 3) := by decide +kernel
theorem dP_init_63 : decode bP_init 63 = .ok (.return_, 1) := by decide +kernel
theorem dP_type_0 : decode bP_type 0 = .ok (.iconst 0, 1) := by decide +kernel
theorem dP_type_1 : decode bP_type 1 = .ok (.istore_n 3, 1) := by decide +kernel
theorem dP_type_2 : decode bP_type 2 = .ok (.bipush 56, 2) := by decide +kernel
theorem dP_type_4 : decode bP_type 4 = .ok (.istore 4, 2) := by decide +kernel
theorem dP_type_6 : decode bP_type 6 = .ok (.iload 4, 2) := by decide +kernel
theorem dP_type_8 : decode bP_type 8 = .ok (.ifCond .lt (41), 3) := by decide +kernel
theorem dP_type_11 : decode bP_type 11 = .ok (.lload_n 1, 1) := by decide +kernel
theorem dP_type_12 : decode bP_type 12 = .ok (.iload 4, 2) := by decide +kernel
theorem dP_type_14 : decode bP_type 14 = .ok (.invokestatic 48, 3) := by decide +kernel
theorem dP_type_17 : decode bP_type 17 = .ok (.istore 5, 2) := by decide +kernel
theorem dP_type_19 : decode bP_type 19 = .ok (.iload 5, 2) := by decide +kernel
theorem dP_type_21 : decode bP_type 21 = .ok (.ifCond .eq (22), 3) := by decide +kernel
theorem dP_type_24 : decode bP_type 24 = .ok (.iload 5, 2) := by decide +kernel
theorem dP_type_26 : decode bP_type 26 = .ok (.invokestatic 52, 3) := by decide +kernel
theorem dP_type_29 : decode bP_type 29 = .ok (.ifCond .ne (11), 3) := by decide +kernel
theorem dP_type_32 : decode bP_type 32 = .ok (.new 56, 3) := by decide +kernel
theorem dP_type_35 : decode bP_type 35 = .ok (.dup, 1) := by decide +kernel
theorem dP_type_36 : decode bP_type 36 = .ok (.invokespecial 58, 3) := by decide +kernel
theorem dP_type_39 : decode bP_type 39 = .ok (.athrow, 1) := by decide +kernel
theorem dP_type_40 : decode bP_type 40 = .ok (.iinc 3 (1), 3) := by decide +kernel
theorem dP_type_43 : decode bP_type 43 = .ok (.iinc 4 (-8), 3) := by decide +kernel
theorem dP_type_46 : decode bP_type 46 = .ok (.goto (-40), 3) := by decide +kernel
theorem dP_type_49 : decode bP_type 49 = .ok (.aload_n 0, 1) := by decide +kernel
theorem dP_type_50 : decode bP_type 50 = .ok (.getfield 12, 3) := by decide +kernel
theorem dP_type_53 : decode bP_type 53 = .ok (.invokevirtual 59, 3) := by decide +kernel
theorem dP_type_56 : decode bP_type 56 = .ok (.iload_n 3, 1) := by decide +kernel
theorem dP_type_57 : decode bP_type 57 = .ok (.iadd, 1) := by decide +kernel
theorem dP_type_58 : decode bP_type 58 = .ok (.bipush 14, 2) := by decide +kernel
theorem dP_type_60 : decode bP_type 60 = .ok (.if_icmp .le (11), 3) := by decide +kernel
theorem dP_type_63 : decode bP_type 63 = .ok (.new 63, 3) := by decide +kernel
theorem dP_type_66 : decode bP_type 66 = .ok (.dup, 1) := by decide +kernel
theorem dP_type_67 : decode bP_type 67 = .ok (.invokespecial 65, 3) := by decide +kernel
theorem dP_type_70 : decode bP_type 70 = .ok (.athrow, 1) := by decide +kernel
theorem dP_type_71 : decode bP_type 71 = .ok (.bipush 56, 2) := by decide +kernel
theorem dP_type_73 : decode bP_type 73 = .ok (.istore 4, 2) := by decide +kernel
theorem dP_type_75 : decode bP_type 75 = .ok (.iload 4, 2) := by decide +kernel
theorem dP_type_77 : decode bP_type 77 = .ok (.ifCond .lt (31), 3) := by decide +kernel
theorem dP_type_80 : decode bP_type 80 = .ok (.lload_n 1, 1) := by decide +kernel
theorem dP_type_81 : decode bP_type 81 = .ok (.iload 4, 2) := by decide +kernel
theorem dP_type_83 : decode bP_type 83 = .ok (.invokestatic 48, 3) := by decide +kernel
theorem dP_type_86 : decode bP_type 86 = .ok (.istore 5, 2) := by decide +kernel
theorem dP_type_88 : decode bP_type 88 = .ok (.iload 5, 2) := by decide +kernel
theorem dP_type_90 : decode bP_type 90 = .ok (.ifCond .eq (12), 3) := by decide +kernel
theorem dP_type_93 : decode bP_type 93 = .ok (.aload_n 0, 1) := by decide +kernel
theorem dP_type_94 : decode bP_type 94 = .ok (.getfield 12, 3) := by decide +kernel
theorem dP_type_97 : decode bP_type 97 = .ok (.iload 5, 2) := by decide +kernel
theorem dP_type_99 : decode bP_type 99 = .ok (.invokevirtual 66, 3) := by decide +kernel
theorem dP_type_102 : decode bP_type 102 = .ok (.iinc 4 (-8), 3) := by decide +kernel
theorem dP_type_105 : decode bP_type 105 = .ok (.goto (-30), 3) := by decide +kernel
theorem dP_type_108 : decode bP_type 108 = .ok (.aload_n 0, 1) := by decide +kernel
theorem dP_type_109 : decode bP_type 109 = .ok (.getfield 12, 3) := by decide +kernel
theorem dP_type_112 : decode bP_type 112 = .ok (.invokevirtual 59, 3) := by decide +kernel
theorem dP_type_115 : decode bP_type 115 = .ok (.ireturn, 1) := by decide +kernel
theorem dP_rule_0 : decode bP_rule 0 = .ok (.dload_n 1, 1) := by decide +kernel
theorem dP_rule_1 : decode bP_rule 1 = .ok (.ldc2_w 70, 3) := by decide +kernel
theorem dP_rule_4 : decode bP_rule 4 = .ok (.dcmp .l, 1) := by decide +kernel
theorem dP_rule_5 : decode bP_rule 5 = .ok (.ifCond .lt (11), 3) := by decide +kernel
theorem dP_rule_8 : decode bP_rule 8 = .ok (.dload_n 1, 1) := by decide +kernel
theorem dP_rule_9 : decode bP_rule 9 = .ok (.ldc2_w 72, 3) := by decide +kernel
theorem dP_rule_12 : decode bP_rule 12 = .ok (.dcmp .g, 1) := by decide +kernel
theorem dP_rule_13 : decode bP_rule 13 = .ok (.ifCond .le (11), 3) := by decide +kernel
theorem dP_rule_16 : decode bP_rule 16 = .ok (.new 56, 3) := by decide +kernel
theorem dP_rule_19 : decode bP_rule 19 = .ok (.dup, 1) := by decide +kernel
theorem dP_rule_20 : decode bP_rule 20 = .ok (.invokespecial 58, 3) := by decide +kernel
theorem dP_rule_23 : decode bP_rule 23 = .ok (.athrow, 1) := by decide +kernel
theorem dP_rule_24 : decode bP_rule 24 = .ok (.aload_n 0, 1) := by decide +kernel
theorem dP_rule_25 : decode bP_rule 25 = .ok (.getfield 19, 3) := by decide +kernel
theorem dP_rule_28 : decode bP_rule 28 = .ok (.invokevirtual 74, 3) := by decide +kernel
theorem dP_rule_31 : decode bP_rule 31 = .ok (.bipush 16, 2) := by decide +kernel
theorem dP_rule_33 : decode bP_rule 33 = .ok (.if_icmp .lt (18), 3) := by decide +kernel
theorem dP_rule_36 : decode bP_rule 36 = .ok (.aload_n 0, 1) := by decide +kernel
theorem dP_rule_37 : decode bP_rule 37 = .ok (.getfield 12, 3) := by decide +kernel
theorem dP_rule_40 : decode bP_rule 40 = .ok (.invokevirtual 77, 3) := by decide +kernel
theorem dP_rule_43 : decode bP_rule 43 = .ok (.new 63, 3) := by decide +kernel
theorem dP_rule_46 : decode bP_rule 46 = .ok (.dup, 1) := by decide +kernel
theorem dP_rule_47 : decode bP_rule 47 = .ok (.invokespecial 65, 3) := by decide +kernel
theorem dP_rule_50 : decode bP_rule 50 = .ok (.athrow, 1) := by decide +kernel
theorem dP_rule_51 : decode bP_rule 51 = .ok (.aload_n 0, 1) := by decide +kernel
theorem dP_rule_52 : decode bP_rule 52 = .ok (.getfield 12, 3) := by decide +kernel
theorem dP_rule_55 : decode bP_rule 55 = .ok (.invokestatic 80, 3) := by decide +kernel
theorem dP_rule_58 : decode bP_rule 58 = .ok (.istore_n 3, 1) := by decide +kernel
theorem dP_rule_59 : decode bP_rule 59 = .ok (.iload_n 3, 1) := by decide +kernel
theorem dP_rule_60 : decode bP_rule 60 = .ok (.iconst (-1), 1) := by decide +kernel
theorem dP_rule_61 : decode bP_rule 61 = .ok (.if_icmp .eq (23), 3) := by decide +kernel
theorem dP_rule_64 : decode bP_rule 64 = .ok (.aload_n 0, 1) := by decide +kernel
theorem dP_rule_65 : decode bP_rule 65 = .ok (.iload_n 3, 1) := by decide +kernel
theorem dP_rule_66 : decode bP_rule 66 = .ok (.putfield 37, 3) := by decide +kernel
theorem dP_rule_69 : decode bP_rule 69 = .ok (.aload_n 0, 1) := by decide +kernel
theorem dP_rule_70 : decode bP_rule 70 = .ok (.getfield 12, 3) := by decide +kernel
theorem dP_rule_73 : decode bP_rule 73 = .ok (.invokevirtual 77, 3) := by decide +kernel
theorem dP_rule_76 : decode bP_rule 76 = .ok (.new 56, 3) := by decide +kernel
theorem dP_rule_79 : decode bP_rule 79 = .ok (.dup, 1) := by decide +kernel
theorem dP_rule_80 : decode bP_rule 80 = .ok (.invokespecial 58, 3) := by decide +kernel
theorem dP_rule_83 : decode bP_rule 83 = .ok (.athrow, 1) := by decide +kernel
theorem dP_rule_84 : decode bP_rule 84 = .ok (.aload_n 0, 1) := by decide +kernel
theorem dP_rule_85 : decode bP_rule 85 = .ok (.getfield 19, 3) := by decide +kernel
theorem dP_rule_88 : decode bP_rule 88 = .ok (.aload_n 0, 1) := by decide +kernel
theorem dP_rule_89 : decode bP_rule 89 = .ok (.getfield 12, 3) := by decide +kernel
theorem dP_rule_92 : decode bP_rule 92 = .ok (.invokevirtual 84, 3) := by decide +kernel
theorem dP_rule_95 : decode bP_rule 95 = .ok (.ifCond .eq (18), 3) := by decide +kernel
theorem dP_rule_98 : decode bP_rule 98 = .ok (.aload_n 0, 1) := by decide +kernel
theorem dP_rule_99 : decode bP_rule 99 = .ok (.getfield 12, 3) := by decide +kernel
theorem dP_rule_102 : decode bP_rule 102 = .ok (.invokevirtual 77, 3) := by decide +kernel
theorem dP_rule_105 : decode bP_rule 105 = .ok (.new 88, 3) := by decide +kernel
theorem dP_rule_108 : decode bP_rule 108 = .ok (.dup, 1) := by decide +kernel
theorem dP_rule_109 : decode bP_rule 109 = .ok (.invokespecial 90, 3) := by decide +kernel
theorem dP_rule_112 : decode bP_rule 112 = .ok (.athrow, 1) := by decide +kernel
theorem dP_rule_113 : decode bP_rule 113 = .ok (.aload_n 0, 1) := by decide +kernel
theorem dP_rule_114 : decode bP_rule 114 = .ok (.getfield 19, 3) := by decide +kernel
theorem dP_rule_117 : decode bP_rule 117 = .ok (.aload_n 0, 1) := by decide +kernel
theorem dP_rule_118 : decode bP_rule 118 = .ok (.getfield 12, 3) := by decide +kernel
theorem dP_rule_121 : decode bP_rule 121 = .ok (.dload_n 1, 1) := by decide +kernel
theorem dP_rule_122 : decode bP_rule 122 = .ok (.invokevirtual 91, 3) := by decide +kernel
theorem dP_rule_125 : decode bP_rule 125 = .ok (.aload_n 0, 1) := by decide +kernel
theorem dP_rule_126 : decode bP_rule 126 = .ok (.getfield 12, 3) := by decide +kernel
theorem dP_rule_129 : decode bP_rule 129 = .ok (.invokevirtual 77, 3) := by decide +kernel
theorem dP_rule_132 : decode bP_rule 132 = .ok (.aload_n 0, 1) := by decide +kernel
theorem dP_rule_133 : decode bP_rule 133 = .ok (.invokevirtual 95, 3) := by decide +kernel
theorem dP_rule_136 : decode bP_rule 136 = .ok (.aload_n 0, 1) := by decide +kernel
theorem dP_rule_137 : decode bP_rule 137 = .ok (.getfield 19, 3) := by decide +kernel
theorem dP_rule_140 : decode bP_rule 140 = .ok (.invokevirtual 74, 3) := by decide +kernel
theorem dP_rule_143 : decode bP_rule 143 = .ok (.iconst 1, 1) := by decide +kernel
theorem dP_rule_144 : decode bP_rule 144 = .ok (.isub, 1) := by decide +kernel
theorem dP_rule_145 : decode bP_rule 145 = .ok (.ireturn, 1) := by decide +kernel
theorem dP_mark_0 : decode bP_mark 0 = .ok (.aload_n 0, 1) := by decide +kernel
theorem dP_mark_1 : decode bP_mark 1 = .ok (.getfield 19, 3) := by decide +kernel
theorem dP_mark_4 : decode bP_mark 4 = .ok (.iload_n 1, 1) := by decide +kernel
theorem dP_mark_5 : decode bP_mark 5 = .ok (.invokevirtual 98, 3) := by decide +kernel
theorem dP_mark_8 : decode bP_mark 8 = .ok (.ifCond .eq (12), 3) := by decide +kernel
theorem dP_mark_11 : decode bP_mark 11 = .ok (.iload_n 2, 1) := by decide +kernel
theorem dP_mark_12 : decode bP_mark 12 = .ok (.ifCond .lt (8), 3) := by decide +kernel
theorem dP_mark_15 : decode bP_mark 15 = .ok (.iload_n 2, 1) := by decide +kernel
theorem dP_mark_16 : decode bP_mark 16 = .ok (.iconst 3, 1) := by decide +kernel
theorem dP_mark_17 : decode bP_mark 17 = .ok (.if_icmp .le (11), 3) := by decide +kernel
theorem dP_mark_20 : decode bP_mark 20 = .ok (.new 56, 3) := by decide +kernel
theorem dP_mark_23 : decode bP_mark 23 = .ok (.dup, 1) := by decide +kernel
theorem dP_mark_24 : decode bP_mark 24 = .ok (.invokespecial 58, 3) := by decide +kernel
theorem dP_mark_27 : decode bP_mark 27 = .ok (.athrow, 1) := by decide +kernel
theorem dP_mark_28 : decode bP_mark 28 = .ok (.aload_n 0, 1) := by decide +kernel
theorem dP_mark_29 : decode bP_mark 29 = .ok (.getfield 19, 3) := by decide +kernel
theorem dP_mark_32 : decode bP_mark 32 = .ok (.iload_n 1, 1) := by decide +kernel
theorem dP_mark_33 : decode bP_mark 33 = .ok (.iload_n 2, 1) := by decide +kernel
theorem dP_mark_34 : decode bP_mark 34 = .ok (.invokevirtual 101, 3) := by decide +kernel
theorem dP_mark_37 : decode bP_mark 37 = .ok (.aload_n 0, 1) := by decide +kernel
theorem dP_mark_38 : decode bP_mark 38 = .ok (.invokevirtual 95, 3) := by decide +kernel
theorem dP_mark_41 : decode bP_mark 41 = .ok (.return_, 1) := by decide +kernel
theorem dP_bar_0 : decode bP_bar 0 = .ok (.aload_n 0, 1) := by decide +kernel
theorem dP_bar_1 : decode bP_bar 1 = .ok (.getfield 19, 3) := by decide +kernel
theorem dP_bar_4 : decode bP_bar 4 = .ok (.iload_n 1, 1) := by decide +kernel
theorem dP_bar_5 : decode bP_bar 5 = .ok (.invokevirtual 98, 3) := by decide +kernel
theorem dP_bar_8 : decode bP_bar 8 = .ok (.ifCond .eq (14), 3) := by decide +kernel
theorem dP_bar_11 : decode bP_bar 11 = .ok (.aload_n 0, 1) := by decide +kernel
theorem dP_bar_12 : decode bP_bar 12 = .ok (.getfield 19, 3) := by decide +kernel
theorem dP_bar_15 : decode bP_bar 15 = .ok (.iload_n 2, 1) := by decide +kernel
theorem dP_bar_16 : decode bP_bar 16 = .ok (.invokevirtual 98, 3) := by decide +kernel
theorem dP_bar_19 : decode bP_bar 19 = .ok (.ifCond .ne (11), 3) := by decide +kernel
theorem dP_bar_22 : decode bP_bar 22 = .ok (.new 56, 3) := by decide +kernel
theorem dP_bar_25 : decode bP_bar 25 = .ok (.dup, 1) := by decide +kernel
theorem dP_bar_26 : decode bP_bar 26 = .ok (.invokespecial 58, 3) := by decide +kernel
theorem dP_bar_29 : decode bP_bar 29 = .ok (.athrow, 1) := by decide +kernel
theorem dP_bar_30 : decode bP_bar 30 = .ok (.aload_n 0, 1) := by decide +kernel
theorem dP_bar_31 : decode bP_bar 31 = .ok (.getfield 19, 3) := by decide +kernel
theorem dP_bar_34 : decode bP_bar 34 = .ok (.iload_n 1, 1) := by decide +kernel
theorem dP_bar_35 : decode bP_bar 35 = .ok (.iload_n 2, 1) := by decide +kernel
theorem dP_bar_36 : decode bP_bar 36 = .ok (.iload_n 3, 1) := by decide +kernel
theorem dP_bar_37 : decode bP_bar 37 = .ok (.invokevirtual 105, 3) := by decide +kernel
theorem dP_bar_40 : decode bP_bar 40 = .ok (.aload_n 0, 1) := by decide +kernel
theorem dP_bar_41 : decode bP_bar 41 = .ok (.invokevirtual 95, 3) := by decide +kernel
theorem dP_bar_44 : decode bP_bar 44 = .ok (.return_, 1) := by decide +kernel
theorem dP_follow_0 : decode bP_follow 0 = .ok (.iload_n 1, 1) := by decide +kernel
theorem dP_follow_1 : decode bP_follow 1 = .ok (.invokestatic 109, 3) := by decide +kernel
theorem dP_follow_4 : decode bP_follow 4 = .ok (.ifCond .eq (10), 3) := by decide +kernel
theorem dP_follow_7 : decode bP_follow 7 = .ok (.iload_n 2, 1) := by decide +kernel
theorem dP_follow_8 : decode bP_follow 8 = .ok (.invokestatic 52, 3) := by decide +kernel
theorem dP_follow_11 : decode bP_follow 11 = .ok (.ifCond .ne (11), 3) := by decide +kernel
theorem dP_follow_14 : decode bP_follow 14 = .ok (.new 56, 3) := by decide +kernel
theorem dP_follow_17 : decode bP_follow 17 = .ok (.dup, 1) := by decide +kernel
theorem dP_follow_18 : decode bP_follow 18 = .ok (.invokespecial 58, 3) := by decide +kernel
theorem dP_follow_21 : decode bP_follow 21 = .ok (.athrow, 1) := by decide +kernel
theorem dP_follow_22 : decode bP_follow 22 = .ok (.aload_n 0, 1) := by decide +kernel
theorem dP_follow_23 : decode bP_follow 23 = .ok (.getfield 19, 3) := by decide +kernel
theorem dP_follow_26 : decode bP_follow 26 = .ok (.iload_n 1, 1) := by decide +kernel
theorem dP_follow_27 : decode bP_follow 27 = .ok (.iload_n 2, 1) := by decide +kernel
theorem dP_follow_28 : decode bP_follow 28 = .ok (.iload_n 3, 1) := by decide +kernel
theorem dP_follow_29 : decode bP_follow 29 = .ok (.invokevirtual 112, 3) := by decide +kernel
theorem dP_follow_32 : decode bP_follow 32 = .ok (.aload_n 0, 1) := by decide +kernel
theorem dP_follow_33 : decode bP_follow 33 = .ok (.invokevirtual 95, 3) := by decide +kernel
theorem dP_follow_36 : decode bP_follow 36 = .ok (.return_, 1) := by decide +kernel
theorem dP_undo_0 : decode bP_undo 0 = .ok (.aload_n 0, 1) := by decide +kernel
theorem dP_undo_1 : decode bP_undo 1 = .ok (.getfield 19, 3) := by decide +kernel
theorem dP_undo_4 : decode bP_undo 4 = .ok (.invokevirtual 74, 3) := by decide +kernel
theorem dP_undo_7 : decode bP_undo 7 = .ok (.ifCond .ne (11), 3) := by decide +kernel
theorem dP_undo_10 : decode bP_undo 10 = .ok (.new 115, 3) := by decide +kernel
theorem dP_undo_13 : decode bP_undo 13 = .ok (.dup, 1) := by decide +kernel
theorem dP_undo_14 : decode bP_undo 14 = .ok (.invokespecial 117, 3) := by decide +kernel
theorem dP_undo_17 : decode bP_undo 17 = .ok (.athrow, 1) := by decide +kernel
theorem dP_undo_18 : decode bP_undo 18 = .ok (.aload_n 0, 1) := by decide +kernel
theorem dP_undo_19 : decode bP_undo 19 = .ok (.getfield 19, 3) := by decide +kernel
theorem dP_undo_22 : decode bP_undo 22 = .ok (.invokevirtual 118, 3) := by decide +kernel
theorem dP_undo_25 : decode bP_undo 25 = .ok (.aload_n 0, 1) := by decide +kernel
theorem dP_undo_26 : decode bP_undo 26 = .ok (.invokevirtual 95, 3) := by decide +kernel
theorem dP_undo_29 : decode bP_undo 29 = .ok (.return_, 1) := by decide +kernel
theorem dP_parse_0 : decode bP_parse 0 = .ok (.iload_n 1, 1) := by decide +kernel
theorem dP_parse_1 : decode bP_parse 1 = .ok (.invokestatic 109, 3) := by decide +kernel
theorem dP_parse_4 : decode bP_parse 4 = .ok (.ifCond .eq (13), 3) := by decide +kernel
theorem dP_parse_7 : decode bP_parse 7 = .ok (.aload_n 0, 1) := by decide +kernel
theorem dP_parse_8 : decode bP_parse 8 = .ok (.getfield 12, 3) := by decide +kernel
theorem dP_parse_11 : decode bP_parse 11 = .ok (.invokevirtual 59, 3) := by decide +kernel
theorem dP_parse_14 : decode bP_parse 14 = .ok (.ifCond .ne (11), 3) := by decide +kernel
theorem dP_parse_17 : decode bP_parse 17 = .ok (.new 56, 3) := by decide +kernel
theorem dP_parse_20 : decode bP_parse 20 = .ok (.dup, 1) := by decide +kernel
theorem dP_parse_21 : decode bP_parse 21 = .ok (.invokespecial 58, 3) := by decide +kernel
theorem dP_parse_24 : decode bP_parse 24 = .ok (.athrow, 1) := by decide +kernel
theorem dP_parse_25 : decode bP_parse 25 = .ok (.aload_n 0, 1) := by decide +kernel
theorem dP_parse_26 : decode bP_parse 26 = .ok (.invokevirtual 95, 3) := by decide +kernel
theorem dP_parse_29 : decode bP_parse 29 = .ok (.aload_n 0, 1) := by decide +kernel
theorem dP_parse_30 : decode bP_parse 30 = .ok (.aload_n 0, 1) := by decide +kernel
theorem dP_parse_31 : decode bP_parse 31 = .ok (.getfield 12, 3) := by decide +kernel
theorem dP_parse_34 : decode bP_parse 34 = .ok (.invokevirtual 59, 3) := by decide +kernel
theorem dP_parse_37 : decode bP_parse 37 = .ok (.putfield 41, 3) := by decide +kernel
theorem dP_parse_40 : decode bP_parse 40 = .ok (.aload_n 0, 1) := by decide +kernel
theorem dP_parse_41 : decode bP_parse 41 = .ok (.getfield 26, 3) := by decide +kernel
theorem dP_parse_44 : decode bP_parse 44 = .ok (.aload_n 0, 1) := by decide +kernel
theorem dP_parse_45 : decode bP_parse 45 = .ok (.getfield 19, 3) := by decide +kernel
theorem dP_parse_48 : decode bP_parse 48 = .ok (.aload_n 0, 1) := by decide +kernel
theorem dP_parse_49 : decode bP_parse 49 = .ok (.getfield 12, 3) := by decide +kernel
theorem dP_parse_52 : decode bP_parse 52 = .ok (.invokevirtual 121, 3) := by decide +kernel
theorem dP_parse_55 : decode bP_parse 55 = .ok (.iconst 0, 1) := by decide +kernel
theorem dP_parse_56 : decode bP_parse 56 = .ok (.aload_n 0, 1) := by decide +kernel
theorem dP_parse_57 : decode bP_parse 57 = .ok (.getfield 41, 3) := by decide +kernel
theorem dP_parse_60 : decode bP_parse 60 = .ok (.invokestatic 125, 3) := by decide +kernel
theorem dP_parse_63 : decode bP_parse 63 = .ok (.istore_n 2, 1) := by decide +kernel
theorem dP_parse_64 : decode bP_parse 64 = .ok (.aload_n 0, 1) := by decide +kernel
theorem dP_parse_65 : decode bP_parse 65 = .ok (.getfield 26, 3) := by decide +kernel
theorem dP_parse_68 : decode bP_parse 68 = .ok (.aload_n 0, 1) := by decide +kernel
theorem dP_parse_69 : decode bP_parse 69 = .ok (.getfield 19, 3) := by decide +kernel
theorem dP_parse_72 : decode bP_parse 72 = .ok (.iload_n 1, 1) := by decide +kernel
theorem dP_parse_73 : decode bP_parse 73 = .ok (.invokevirtual 129, 3) := by decide +kernel
theorem dP_parse_76 : decode bP_parse 76 = .ok (.iload_n 2, 1) := by decide +kernel
theorem dP_parse_77 : decode bP_parse 77 = .ok (.invokevirtual 133, 3) := by decide +kernel
theorem dP_parse_80 : decode bP_parse 80 = .ok (.ifCond .ne (7), 3) := by decide +kernel
theorem dP_parse_83 : decode bP_parse 83 = .ok (.iconst 1, 1) := by decide +kernel
theorem dP_parse_84 : decode bP_parse 84 = .ok (.goto (4), 3) := by decide +kernel
theorem dP_parse_87 : decode bP_parse 87 = .ok (.iconst 0, 1) := by decide +kernel
theorem dP_parse_88 : decode bP_parse 88 = .ok (.istore_n 3, 1) := by decide +kernel
theorem dP_parse_89 : decode bP_parse 89 = .ok (.aload_n 0, 1) := by decide +kernel
theorem dP_parse_90 : decode bP_parse 90 = .ok (.getfield 19, 3) := by decide +kernel
theorem dP_parse_93 : decode bP_parse 93 = .ok (.iload_n 1, 1) := by decide +kernel
theorem dP_parse_94 : decode bP_parse 94 = .ok (.invokevirtual 136, 3) := by decide +kernel
theorem dP_parse_97 : decode bP_parse 97 = .ok (.istore 4, 2) := by decide +kernel
theorem dP_parse_99 : decode bP_parse 99 = .ok (.iload_n 3, 1) := by decide +kernel
theorem dP_parse_100 : decode bP_parse 100 = .ok (.ifCond .eq (16), 3) := by decide +kernel
theorem dP_parse_103 : decode bP_parse 103 = .ok (.aload_n 0, 1) := by decide +kernel
theorem dP_parse_104 : decode bP_parse 104 = .ok (.getfield 26, 3) := by decide +kernel
theorem dP_parse_107 : decode bP_parse 107 = .ok (.iload 4, 2) := by decide +kernel
theorem dP_parse_109 : decode bP_parse 109 = .ok (.iload_n 2, 1) := by decide +kernel
theorem dP_parse_110 : decode bP_parse 110 = .ok (.invokevirtual 133, 3) := by decide +kernel
theorem dP_parse_113 : decode bP_parse 113 = .ok (.goto (4), 3) := by decide +kernel
theorem dP_parse_116 : decode bP_parse 116 = .ok (.iconst 0, 1) := by decide +kernel
theorem dP_parse_117 : decode bP_parse 117 = .ok (.istore 5, 2) := by decide +kernel
theorem dP_parse_119 : decode bP_parse 119 = .ok (.aload_n 0, 1) := by decide +kernel
theorem dP_parse_120 : decode bP_parse 120 = .ok (.getfield 12, 3) := by decide +kernel
theorem dP_parse_123 : decode bP_parse 123 = .ok (.invokevirtual 77, 3) := by decide +kernel
theorem dP_parse_126 : decode bP_parse 126 = .ok (.iload 5, 2) := by decide +kernel
theorem dP_parse_128 : decode bP_parse 128 = .ok (.ifCond .ne (11), 3) := by decide +kernel
theorem dP_parse_131 : decode bP_parse 131 = .ok (.new 115, 3) := by decide +kernel
theorem dP_parse_134 : decode bP_parse 134 = .ok (.dup, 1) := by decide +kernel
theorem dP_parse_135 : decode bP_parse 135 = .ok (.invokespecial 117, 3) := by decide +kernel
theorem dP_parse_138 : decode bP_parse 138 = .ok (.athrow, 1) := by decide +kernel
theorem dP_parse_139 : decode bP_parse 139 = .ok (.aload_n 0, 1) := by decide +kernel
theorem dP_parse_140 : decode bP_parse 140 = .ok (.getfield 26, 3) := by decide +kernel
theorem dP_parse_143 : decode bP_parse 143 = .ok (.iload 4, 2) := by decide +kernel
theorem dP_parse_145 : decode bP_parse 145 = .ok (.iload_n 2, 1) := by decide +kernel
theorem dP_parse_146 : decode bP_parse 146 = .ok (.invokevirtual 139, 3) := by decide +kernel
theorem dP_parse_149 : decode bP_parse 149 = .ok (.istore 6, 2) := by decide +kernel
theorem dP_parse_151 : decode bP_parse 151 = .ok (.aload_n 0, 1) := by decide +kernel
theorem dP_parse_152 : decode bP_parse 152 = .ok (.aload_n 0, 1) := by decide +kernel
theorem dP_parse_153 : decode bP_parse 153 = .ok (.getfield 26, 3) := by decide +kernel
theorem dP_parse_156 : decode bP_parse 156 = .ok (.iload 6, 2) := by decide +kernel
theorem dP_parse_158 : decode bP_parse 158 = .ok (.iload_n 2, 1) := by decide +kernel
theorem dP_parse_159 : decode bP_parse 159 = .ok (.invokevirtual 142, 3) := by decide +kernel
theorem dP_parse_162 : decode bP_parse 162 = .ok (.putfield 44, 3) := by decide +kernel
theorem dP_parse_165 : decode bP_parse 165 = .ok (.aload_n 0, 1) := by decide +kernel
theorem dP_parse_166 : decode bP_parse 166 = .ok (.getfield 33, 3) := by decide +kernel
theorem dP_parse_169 : decode bP_parse 169 = .ok (.aload_n 0, 1) := by decide +kernel
theorem dP_parse_170 : decode bP_parse 170 = .ok (.getfield 19, 3) := by decide +kernel
theorem dP_parse_173 : decode bP_parse 173 = .ok (.aload_n 0, 1) := by decide +kernel
theorem dP_parse_174 : decode bP_parse 174 = .ok (.getfield 26, 3) := by decide +kernel
theorem dP_parse_177 : decode bP_parse 177 = .ok (.iload 6, 2) := by decide +kernel
theorem dP_parse_179 : decode bP_parse 179 = .ok (.aload_n 0, 1) := by decide +kernel
theorem dP_parse_180 : decode bP_parse 180 = .ok (.getfield 41, 3) := by decide +kernel
theorem dP_parse_183 : decode bP_parse 183 = .ok (.invokevirtual 146, 3) := by decide +kernel
theorem dP_parse_186 : decode bP_parse 186 = .ok (.iload 5, 2) := by decide +kernel
theorem dP_parse_188 : decode bP_parse 188 = .ok (.ireturn, 1) := by decide +kernel
theorem dP_weight_0 : decode bP_weight 0 = .ok (.aload_n 0, 1) := by decide +kernel
theorem dP_weight_1 : decode bP_weight 1 = .ok (.getfield 33, 3) := by decide +kernel
theorem dP_weight_4 : decode bP_weight 4 = .ok (.invokevirtual 150, 3) := by decide +kernel
theorem dP_weight_7 : decode bP_weight 7 = .ok (.ifCond .ne (11), 3) := by decide +kernel
theorem dP_weight_10 : decode bP_weight 10 = .ok (.new 115, 3) := by decide +kernel
theorem dP_weight_13 : decode bP_weight 13 = .ok (.dup, 1) := by decide +kernel
theorem dP_weight_14 : decode bP_weight 14 = .ok (.invokespecial 117, 3) := by decide +kernel
theorem dP_weight_17 : decode bP_weight 17 = .ok (.athrow, 1) := by decide +kernel
theorem dP_weight_18 : decode bP_weight 18 = .ok (.aload_n 0, 1) := by decide +kernel
theorem dP_weight_19 : decode bP_weight 19 = .ok (.getfield 44, 3) := by decide +kernel
theorem dP_weight_22 : decode bP_weight 22 = .ok (.dreturn, 1) := by decide +kernel
theorem dP_node_0 : decode bP_node 0 = .ok (.iload_n 2, 1) := by decide +kernel
theorem dP_node_1 : decode bP_node 1 = .ok (.ifCond .lt (8), 3) := by decide +kernel
theorem dP_node_4 : decode bP_node 4 = .ok (.iload_n 2, 1) := by decide +kernel
theorem dP_node_5 : decode bP_node 5 = .ok (.iconst 3, 1) := by decide +kernel
theorem dP_node_6 : decode bP_node 6 = .ok (.if_icmp .le (11), 3) := by decide +kernel
theorem dP_node_9 : decode bP_node 9 = .ok (.new 56, 3) := by decide +kernel
theorem dP_node_12 : decode bP_node 12 = .ok (.dup, 1) := by decide +kernel
theorem dP_node_13 : decode bP_node 13 = .ok (.invokespecial 58, 3) := by decide +kernel
theorem dP_node_16 : decode bP_node 16 = .ok (.athrow, 1) := by decide +kernel
theorem dP_node_17 : decode bP_node 17 = .ok (.iload_n 1, 1) := by decide +kernel
theorem dP_node_18 : decode bP_node 18 = .ok (.ifCond .lt (14), 3) := by decide +kernel
theorem dP_node_21 : decode bP_node 21 = .ok (.iload_n 1, 1) := by decide +kernel
theorem dP_node_22 : decode bP_node 22 = .ok (.aload_n 0, 1) := by decide +kernel
theorem dP_node_23 : decode bP_node 23 = .ok (.getfield 33, 3) := by decide +kernel
theorem dP_node_26 : decode bP_node 26 = .ok (.invokevirtual 150, 3) := by decide +kernel
theorem dP_node_29 : decode bP_node 29 = .ok (.if_icmp .lt (11), 3) := by decide +kernel
theorem dP_node_32 : decode bP_node 32 = .ok (.new 115, 3) := by decide +kernel
theorem dP_node_35 : decode bP_node 35 = .ok (.dup, 1) := by decide +kernel
theorem dP_node_36 : decode bP_node 36 = .ok (.invokespecial 117, 3) := by decide +kernel
theorem dP_node_39 : decode bP_node 39 = .ok (.athrow, 1) := by decide +kernel
theorem dP_node_40 : decode bP_node 40 = .ok (.iload_n 2, 1) := by decide +kernel
theorem dP_node_41 : decode bP_node 41 = .ok (.tableswitch 54 0 2 #[27, 36, 45], 27) := by decide +kernel
theorem dP_node_68 : decode bP_node 68 = .ok (.aload_n 0, 1) := by decide +kernel
theorem dP_node_69 : decode bP_node 69 = .ok (.getfield 33, 3) := by decide +kernel
theorem dP_node_72 : decode bP_node 72 = .ok (.iload_n 1, 1) := by decide +kernel
theorem dP_node_73 : decode bP_node 73 = .ok (.invokevirtual 151, 3) := by decide +kernel
theorem dP_node_76 : decode bP_node 76 = .ok (.ireturn, 1) := by decide +kernel
theorem dP_node_77 : decode bP_node 77 = .ok (.aload_n 0, 1) := by decide +kernel
theorem dP_node_78 : decode bP_node 78 = .ok (.getfield 33, 3) := by decide +kernel
theorem dP_node_81 : decode bP_node 81 = .ok (.iload_n 1, 1) := by decide +kernel
theorem dP_node_82 : decode bP_node 82 = .ok (.invokevirtual 154, 3) := by decide +kernel
theorem dP_node_85 : decode bP_node 85 = .ok (.ireturn, 1) := by decide +kernel
theorem dP_node_86 : decode bP_node 86 = .ok (.aload_n 0, 1) := by decide +kernel
theorem dP_node_87 : decode bP_node 87 = .ok (.getfield 33, 3) := by decide +kernel
theorem dP_node_90 : decode bP_node 90 = .ok (.iload_n 1, 1) := by decide +kernel
theorem dP_node_91 : decode bP_node 91 = .ok (.invokevirtual 157, 3) := by decide +kernel
theorem dP_node_94 : decode bP_node 94 = .ok (.ireturn, 1) := by decide +kernel
theorem dP_node_95 : decode bP_node 95 = .ok (.aload_n 0, 1) := by decide +kernel
theorem dP_node_96 : decode bP_node 96 = .ok (.getfield 33, 3) := by decide +kernel
theorem dP_node_99 : decode bP_node 99 = .ok (.iload_n 1, 1) := by decide +kernel
theorem dP_node_100 : decode bP_node 100 = .ok (.invokevirtual 160, 3) := by decide +kernel
theorem dP_node_103 : decode bP_node 103 = .ok (.ireturn, 1) := by decide +kernel
theorem dP_many_0 : decode bP_many 0 = .ok (.aload_n 0, 1) := by decide +kernel
theorem dP_many_1 : decode bP_many 1 = .ok (.getfield 19, 3) := by decide +kernel
theorem dP_many_4 : decode bP_many 4 = .ok (.iload_n 1, 1) := by decide +kernel
theorem dP_many_5 : decode bP_many 5 = .ok (.invokevirtual 98, 3) := by decide +kernel
theorem dP_many_8 : decode bP_many 8 = .ok (.ifCond .ne (11), 3) := by decide +kernel
theorem dP_many_11 : decode bP_many 11 = .ok (.new 56, 3) := by decide +kernel
theorem dP_many_14 : decode bP_many 14 = .ok (.dup, 1) := by decide +kernel
theorem dP_many_15 : decode bP_many 15 = .ok (.invokespecial 58, 3) := by decide +kernel
theorem dP_many_18 : decode bP_many 18 = .ok (.athrow, 1) := by decide +kernel
theorem dP_many_19 : decode bP_many 19 = .ok (.iload_n 2, 1) := by decide +kernel
theorem dP_many_20 : decode bP_many 20 = .ok (.ifCond .lt (16), 3) := by decide +kernel
theorem dP_many_23 : decode bP_many 23 = .ok (.iload_n 3, 1) := by decide +kernel
theorem dP_many_24 : decode bP_many 24 = .ok (.aload_n 0, 1) := by decide +kernel
theorem dP_many_25 : decode bP_many 25 = .ok (.getfield 41, 3) := by decide +kernel
theorem dP_many_28 : decode bP_many 28 = .ok (.if_icmp .gt (8), 3) := by decide +kernel
theorem dP_many_31 : decode bP_many 31 = .ok (.iload_n 2, 1) := by decide +kernel
theorem dP_many_32 : decode bP_many 32 = .ok (.iload_n 3, 1) := by decide +kernel
theorem dP_many_33 : decode bP_many 33 = .ok (.if_icmp .lt (11), 3) := by decide +kernel
theorem dP_many_36 : decode bP_many 36 = .ok (.new 115, 3) := by decide +kernel
theorem dP_many_39 : decode bP_many 39 = .ok (.dup, 1) := by decide +kernel
theorem dP_many_40 : decode bP_many 40 = .ok (.invokespecial 117, 3) := by decide +kernel
theorem dP_many_43 : decode bP_many 43 = .ok (.athrow, 1) := by decide +kernel
theorem dP_many_44 : decode bP_many 44 = .ok (.aload_n 0, 1) := by decide +kernel
theorem dP_many_45 : decode bP_many 45 = .ok (.getfield 26, 3) := by decide +kernel
theorem dP_many_48 : decode bP_many 48 = .ok (.iload_n 1, 1) := by decide +kernel
theorem dP_many_49 : decode bP_many 49 = .ok (.iload_n 2, 1) := by decide +kernel
theorem dP_many_50 : decode bP_many 50 = .ok (.iload_n 3, 1) := by decide +kernel
theorem dP_many_51 : decode bP_many 51 = .ok (.invokestatic 125, 3) := by decide +kernel
theorem dP_many_54 : decode bP_many 54 = .ok (.invokevirtual 163, 3) := by decide +kernel
theorem dP_many_57 : decode bP_many 57 = .ok (.ireturn, 1) := by decide +kernel
theorem dP_count_0 : decode bP_count 0 = .ok (.iload_n 1, 1) := by decide +kernel
theorem dP_count_1 : decode bP_count 1 = .ok (.tableswitch 69 0 4 #[35, 43, 48, 56, 64], 35) := by decide +kernel
theorem dP_count_36 : decode bP_count 36 = .ok (.aload_n 0, 1) := by decide +kernel
theorem dP_count_37 : decode bP_count 37 = .ok (.getfield 19, 3) := by decide +kernel
theorem dP_count_40 : decode bP_count 40 = .ok (.invokevirtual 74, 3) := by decide +kernel
theorem dP_count_43 : decode bP_count 43 = .ok (.ireturn, 1) := by decide +kernel
theorem dP_count_44 : decode bP_count 44 = .ok (.aload_n 0, 1) := by decide +kernel
theorem dP_count_45 : decode bP_count 45 = .ok (.getfield 37, 3) := by decide +kernel
theorem dP_count_48 : decode bP_count 48 = .ok (.ireturn, 1) := by decide +kernel
theorem dP_count_49 : decode bP_count 49 = .ok (.aload_n 0, 1) := by decide +kernel
theorem dP_count_50 : decode bP_count 50 = .ok (.getfield 12, 3) := by decide +kernel
theorem dP_count_53 : decode bP_count 53 = .ok (.invokevirtual 59, 3) := by decide +kernel
theorem dP_count_56 : decode bP_count 56 = .ok (.ireturn, 1) := by decide +kernel
theorem dP_count_57 : decode bP_count 57 = .ok (.aload_n 0, 1) := by decide +kernel
theorem dP_count_58 : decode bP_count 58 = .ok (.getfield 33, 3) := by decide +kernel
theorem dP_count_61 : decode bP_count 61 = .ok (.invokevirtual 150, 3) := by decide +kernel
theorem dP_count_64 : decode bP_count 64 = .ok (.ireturn, 1) := by decide +kernel
theorem dP_count_65 : decode bP_count 65 = .ok (.aload_n 0, 1) := by decide +kernel
theorem dP_count_66 : decode bP_count 66 = .ok (.getfield 41, 3) := by decide +kernel
theorem dP_count_69 : decode bP_count 69 = .ok (.ireturn, 1) := by decide +kernel
theorem dP_count_70 : decode bP_count 70 = .ok (.iconst (-1), 1) := by decide +kernel
theorem dP_count_71 : decode bP_count 71 = .ok (.ireturn, 1) := by decide +kernel
theorem dP_forgetInput_0 : decode bP_forgetInput 0 = .ok (.aload_n 0, 1) := by decide +kernel
theorem dP_forgetInput_1 : decode bP_forgetInput 1 = .ok (.iconst 0, 1) := by decide +kernel
theorem dP_forgetInput_2 : decode bP_forgetInput 2 = .ok (.putfield 41, 3) := by decide +kernel
theorem dP_forgetInput_5 : decode bP_forgetInput 5 = .ok (.aload_n 0, 1) := by decide +kernel
theorem dP_forgetInput_6 : decode bP_forgetInput 6 = .ok (.dconst 0, 1) := by decide +kernel
theorem dP_forgetInput_7 : decode bP_forgetInput 7 = .ok (.putfield 44, 3) := by decide +kernel
theorem dP_forgetInput_10 : decode bP_forgetInput 10 = .ok (.aload_n 0, 1) := by decide +kernel
theorem dP_forgetInput_11 : decode bP_forgetInput 11 = .ok (.getfield 33, 3) := by decide +kernel
theorem dP_forgetInput_14 : decode bP_forgetInput 14 = .ok (.invokevirtual 166, 3) := by decide +kernel
theorem dP_forgetInput_17 : decode bP_forgetInput 17 = .ok (.return_, 1) := by decide +kernel
theorem dP_byteAt_0 : decode bP_byteAt 0 = .ok (.lload_n 0, 1) := by decide +kernel
theorem dP_byteAt_1 : decode bP_byteAt 1 = .ok (.iload_n 2, 1) := by decide +kernel
theorem dP_byteAt_2 : decode bP_byteAt 2 = .ok (.lushr, 1) := by decide +kernel
theorem dP_byteAt_3 : decode bP_byteAt 3 = .ok (.l2i, 1) := by decide +kernel
theorem dP_byteAt_4 : decode bP_byteAt 4 = .ok (.sipush 255, 3) := by decide +kernel
theorem dP_byteAt_7 : decode bP_byteAt 7 = .ok (.iand, 1) := by decide +kernel
theorem dP_byteAt_8 : decode bP_byteAt 8 = .ok (.ireturn, 1) := by decide +kernel
theorem dP_isCharacter_0 : decode bP_isCharacter 0 = .ok (.iload_n 0, 1) := by decide +kernel
theorem dP_isCharacter_1 : decode bP_isCharacter 1 = .ok (.bipush 33, 2) := by decide +kernel
theorem dP_isCharacter_3 : decode bP_isCharacter 3 = .ok (.if_icmp .lt (13), 3) := by decide +kernel
theorem dP_isCharacter_6 : decode bP_isCharacter 6 = .ok (.iload_n 0, 1) := by decide +kernel
theorem dP_isCharacter_7 : decode bP_isCharacter 7 = .ok (.bipush 126, 2) := by decide +kernel
theorem dP_isCharacter_9 : decode bP_isCharacter 9 = .ok (.if_icmp .gt (7), 3) := by decide +kernel
theorem dP_isCharacter_12 : decode bP_isCharacter 12 = .ok (.iconst 1, 1) := by decide +kernel
theorem dP_isCharacter_13 : decode bP_isCharacter 13 = .ok (.goto (4), 3) := by decide +kernel
theorem dP_isCharacter_16 : decode bP_isCharacter 16 = .ok (.iconst 0, 1) := by decide +kernel
theorem dP_isCharacter_17 : decode bP_isCharacter 17 = .ok (.ireturn, 1) := by decide +kernel
theorem dP_isNonterminalNumber_0 : decode bP_isNonterminalNumber 0 = .ok (.iload_n 0, 1) := by decide +kernel
theorem dP_isNonterminalNumber_1 : decode bP_isNonterminalNumber 1 = .ok (.ifCond .lt (13), 3) := by decide +kernel
theorem dP_isNonterminalNumber_4 : decode bP_isNonterminalNumber 4 = .ok (.iload_n 0, 1) := by decide +kernel
theorem dP_isNonterminalNumber_5 : decode bP_isNonterminalNumber 5 = .ok (.bipush 6, 2) := by decide +kernel
theorem dP_isNonterminalNumber_7 : decode bP_isNonterminalNumber 7 = .ok (.if_icmp .ge (7), 3) := by decide +kernel
theorem dP_isNonterminalNumber_10 : decode bP_isNonterminalNumber 10 = .ok (.iconst 1, 1) := by decide +kernel
theorem dP_isNonterminalNumber_11 : decode bP_isNonterminalNumber 11 = .ok (.goto (4), 3) := by decide +kernel
theorem dP_isNonterminalNumber_14 : decode bP_isNonterminalNumber 14 = .ok (.iconst 0, 1) := by decide +kernel
theorem dP_isNonterminalNumber_15 : decode bP_isNonterminalNumber 15 = .ok (.ireturn, 1) := by decide +kernel
theorem dP_nonterminalNumber_0 : decode bP_nonterminalNumber 0 = .ok (.iload_n 0, 1) := by decide +kernel
theorem dP_nonterminalNumber_1 : decode bP_nonterminalNumber 1 = .ok (.bipush 65, 2) := by decide +kernel
theorem dP_nonterminalNumber_3 : decode bP_nonterminalNumber 3 = .ok (.if_icmp .lt (16), 3) := by decide +kernel
theorem dP_nonterminalNumber_6 : decode bP_nonterminalNumber 6 = .ok (.iload_n 0, 1) := by decide +kernel
theorem dP_nonterminalNumber_7 : decode bP_nonterminalNumber 7 = .ok (.bipush 70, 2) := by decide +kernel
theorem dP_nonterminalNumber_9 : decode bP_nonterminalNumber 9 = .ok (.if_icmp .gt (10), 3) := by decide +kernel
theorem dP_nonterminalNumber_12 : decode bP_nonterminalNumber 12 = .ok (.iload_n 0, 1) := by decide +kernel
theorem dP_nonterminalNumber_13 : decode bP_nonterminalNumber 13 = .ok (.bipush 65, 2) := by decide +kernel
theorem dP_nonterminalNumber_15 : decode bP_nonterminalNumber 15 = .ok (.isub, 1) := by decide +kernel
theorem dP_nonterminalNumber_16 : decode bP_nonterminalNumber 16 = .ok (.goto (4), 3) := by decide +kernel
theorem dP_nonterminalNumber_19 : decode bP_nonterminalNumber 19 = .ok (.iconst (-1), 1) := by decide +kernel
theorem dP_nonterminalNumber_20 : decode bP_nonterminalNumber 20 = .ok (.ireturn, 1) := by decide +kernel
theorem dP_contains_0 : decode bP_contains 0 = .ok (.iload_n 0, 1) := by decide +kernel
theorem dP_contains_1 : decode bP_contains 1 = .ok (.iconst 1, 1) := by decide +kernel
theorem dP_contains_2 : decode bP_contains 2 = .ok (.iload_n 1, 1) := by decide +kernel
theorem dP_contains_3 : decode bP_contains 3 = .ok (.ishl, 1) := by decide +kernel
theorem dP_contains_4 : decode bP_contains 4 = .ok (.iand, 1) := by decide +kernel
theorem dP_contains_5 : decode bP_contains 5 = .ok (.ifCond .eq (7), 3) := by decide +kernel
theorem dP_contains_8 : decode bP_contains 8 = .ok (.iconst 1, 1) := by decide +kernel
theorem dP_contains_9 : decode bP_contains 9 = .ok (.goto (4), 3) := by decide +kernel
theorem dP_contains_12 : decode bP_contains 12 = .ok (.iconst 0, 1) := by decide +kernel
theorem dP_contains_13 : decode bP_contains 13 = .ok (.ireturn, 1) := by decide +kernel
theorem dP_spanNumber_0 : decode bP_spanNumber 0 = .ok (.iload_n 1, 1) := by decide +kernel
theorem dP_spanNumber_1 : decode bP_spanNumber 1 = .ok (.iload_n 1, 1) := by decide +kernel
theorem dP_spanNumber_2 : decode bP_spanNumber 2 = .ok (.iconst 1, 1) := by decide +kernel
theorem dP_spanNumber_3 : decode bP_spanNumber 3 = .ok (.isub, 1) := by decide +kernel
theorem dP_spanNumber_4 : decode bP_spanNumber 4 = .ok (.imul, 1) := by decide +kernel
theorem dP_spanNumber_5 : decode bP_spanNumber 5 = .ok (.iconst 2, 1) := by decide +kernel
theorem dP_spanNumber_6 : decode bP_spanNumber 6 = .ok (.idiv, 1) := by decide +kernel
theorem dP_spanNumber_7 : decode bP_spanNumber 7 = .ok (.iload_n 0, 1) := by decide +kernel
theorem dP_spanNumber_8 : decode bP_spanNumber 8 = .ok (.iadd, 1) := by decide +kernel
theorem dP_spanNumber_9 : decode bP_spanNumber 9 = .ok (.ireturn, 1) := by decide +kernel
