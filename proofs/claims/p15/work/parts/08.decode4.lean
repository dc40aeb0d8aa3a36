theorem dX12_counts_27 : decode cX12_counts 27 = .ok (.goto 6, 3) := by decide +kernel
theorem dX12_counts_30 : decode cX12_counts 30 = .ok (.iconst 0, 1) := by decide +kernel
theorem dX12_counts_31 : decode cX12_counts 31 = .ok (.iload_n 1, 1) := by decide +kernel
theorem dX12_counts_32 : decode cX12_counts 32 = .ok (.iadd, 1) := by decide +kernel
theorem dX12_counts_33 : decode cX12_counts 33 = .ok (.istore_n 3, 1) := by decide +kernel
theorem dX12_counts_34 : decode cX12_counts 34 = .ok (.aload_n 0, 1) := by decide +kernel
theorem dX12_counts_35 : decode cX12_counts 35 = .ok (.getfield 35, 3) := by decide +kernel
theorem dX12_counts_38 : decode cX12_counts 38 = .ok (.iconst 2, 1) := by decide +kernel
theorem dX12_counts_39 : decode cX12_counts 39 = .ok (.if_icmp .ne 78, 3) := by decide +kernel
theorem dX12_counts_42 : decode cX12_counts 42 = .ok (.bipush 24, 2) := by decide +kernel
theorem dX12_counts_44 : decode cX12_counts 44 = .ok (.bipush 8, 2) := by decide +kernel
theorem dX12_counts_46 : decode cX12_counts 46 = .ok (.iload_n 2, 1) := by decide +kernel
theorem dX12_counts_47 : decode cX12_counts 47 = .ok (.imul, 1) := by decide +kernel
theorem dX12_counts_48 : decode cX12_counts 48 = .ok (.iadd, 1) := by decide +kernel
theorem dX12_counts_49 : decode cX12_counts 49 = .ok (.iload_n 1, 1) := by decide +kernel
theorem dX12_counts_50 : decode cX12_counts 50 = .ok (.iadd, 1) := by decide +kernel
theorem dX12_counts_51 : decode cX12_counts 51 = .ok (.istore 4, 2) := by decide +kernel
theorem dX12_counts_53 : decode cX12_counts 53 = .ok (.aload_n 0, 1) := by decide +kernel
theorem dX12_counts_54 : decode cX12_counts 54 = .ok (.getfield 7, 3) := by decide +kernel
theorem dX12_counts_57 : decode cX12_counts 57 = .ok (.iload 4, 2) := by decide +kernel
theorem dX12_counts_59 : decode cX12_counts 59 = .ok (.iaload, 1) := by decide +kernel
theorem dX12_counts_60 : decode cX12_counts 60 = .ok (.sipush 999, 3) := by decide +kernel
theorem dX12_counts_63 : decode cX12_counts 63 = .ok (.if_icmp .ge 14, 3) := by decide +kernel
theorem dX12_counts_66 : decode cX12_counts 66 = .ok (.aload_n 0, 1) := by decide +kernel
theorem dX12_counts_67 : decode cX12_counts 67 = .ok (.getfield 7, 3) := by decide +kernel
theorem dX12_counts_70 : decode cX12_counts 70 = .ok (.iload 4, 2) := by decide +kernel
theorem dX12_counts_72 : decode cX12_counts 72 = .ok (.dup2, 1) := by decide +kernel
theorem dX12_counts_73 : decode cX12_counts 73 = .ok (.iaload, 1) := by decide +kernel
theorem dX12_counts_74 : decode cX12_counts 74 = .ok (.iconst 1, 1) := by decide +kernel
theorem dX12_counts_75 : decode cX12_counts 75 = .ok (.iadd, 1) := by decide +kernel
theorem dX12_counts_76 : decode cX12_counts 76 = .ok (.iastore, 1) := by decide +kernel
theorem dX12_counts_77 : decode cX12_counts 77 = .ok (.aload_n 0, 1) := by decide +kernel
theorem dX12_counts_78 : decode cX12_counts 78 = .ok (.getfield 7, 3) := by decide +kernel
theorem dX12_counts_81 : decode cX12_counts 81 = .ok (.iload 4, 2) := by decide +kernel
theorem dX12_counts_83 : decode cX12_counts 83 = .ok (.iaload, 1) := by decide +kernel
theorem dX12_counts_84 : decode cX12_counts 84 = .ok (.aload_n 0, 1) := by decide +kernel
theorem dX12_counts_85 : decode cX12_counts 85 = .ok (.getfield 7, 3) := by decide +kernel
theorem dX12_counts_88 : decode cX12_counts 88 = .ok (.bipush 24, 2) := by decide +kernel
theorem dX12_counts_90 : decode cX12_counts 90 = .ok (.bipush 8, 2) := by decide +kernel
theorem dX12_counts_92 : decode cX12_counts 92 = .ok (.aload_n 0, 1) := by decide +kernel
theorem dX12_counts_93 : decode cX12_counts 93 = .ok (.getfield 7, 3) := by decide +kernel
theorem dX12_counts_96 : decode cX12_counts 96 = .ok (.iconst 0, 1) := by decide +kernel
theorem dX12_counts_97 : decode cX12_counts 97 = .ok (.iload_n 1, 1) := by decide +kernel
theorem dX12_counts_98 : decode cX12_counts 98 = .ok (.iadd, 1) := by decide +kernel
theorem dX12_counts_99 : decode cX12_counts 99 = .ok (.iaload, 1) := by decide +kernel
theorem dX12_counts_100 : decode cX12_counts 100 = .ok (.imul, 1) := by decide +kernel
theorem dX12_counts_101 : decode cX12_counts 101 = .ok (.iadd, 1) := by decide +kernel
theorem dX12_counts_102 : decode cX12_counts 102 = .ok (.iload_n 1, 1) := by decide +kernel
theorem dX12_counts_103 : decode cX12_counts 103 = .ok (.iadd, 1) := by decide +kernel
theorem dX12_counts_104 : decode cX12_counts 104 = .ok (.iaload, 1) := by decide +kernel
theorem dX12_counts_105 : decode cX12_counts 105 = .ok (.if_icmp .le 12, 3) := by decide +kernel
theorem dX12_counts_108 : decode cX12_counts 108 = .ok (.aload_n 0, 1) := by decide +kernel
theorem dX12_counts_109 : decode cX12_counts 109 = .ok (.getfield 7, 3) := by decide +kernel
theorem dX12_counts_112 : decode cX12_counts 112 = .ok (.iconst 0, 1) := by decide +kernel
theorem dX12_counts_113 : decode cX12_counts 113 = .ok (.iload_n 1, 1) := by decide +kernel
theorem dX12_counts_114 : decode cX12_counts 114 = .ok (.iadd, 1) := by decide +kernel
theorem dX12_counts_115 : decode cX12_counts 115 = .ok (.iload_n 2, 1) := by decide +kernel
theorem dX12_counts_116 : decode cX12_counts 116 = .ok (.iastore, 1) := by decide +kernel
theorem dX12_counts_117 : decode cX12_counts 117 = .ok (.aload_n 0, 1) := by decide +kernel
theorem dX12_counts_118 : decode cX12_counts 118 = .ok (.getfield 7, 3) := by decide +kernel
theorem dX12_counts_121 : decode cX12_counts 121 = .ok (.iload_n 3, 1) := by decide +kernel
theorem dX12_counts_122 : decode cX12_counts 122 = .ok (.iaload, 1) := by decide +kernel
theorem dX12_counts_123 : decode cX12_counts 123 = .ok (.iload_n 2, 1) := by decide +kernel
theorem dX12_counts_124 : decode cX12_counts 124 = .ok (.if_icmp .ne 19, 3) := by decide +kernel
theorem dX12_counts_127 : decode cX12_counts 127 = .ok (.aload_n 0, 1) := by decide +kernel
theorem dX12_counts_128 : decode cX12_counts 128 = .ok (.getfield 7, 3) := by decide +kernel
theorem dX12_counts_131 : decode cX12_counts 131 = .ok (.bipush 16, 2) := by decide +kernel
theorem dX12_counts_133 : decode cX12_counts 133 = .ok (.iload_n 1, 1) := by decide +kernel
theorem dX12_counts_134 : decode cX12_counts 134 = .ok (.iadd, 1) := by decide +kernel
theorem dX12_counts_135 : decode cX12_counts 135 = .ok (.dup2, 1) := by decide +kernel
theorem dX12_counts_136 : decode cX12_counts 136 = .ok (.iaload, 1) := by decide +kernel
theorem dX12_counts_137 : decode cX12_counts 137 = .ok (.iconst 1, 1) := by decide +kernel
theorem dX12_counts_138 : decode cX12_counts 138 = .ok (.iadd, 1) := by decide +kernel
theorem dX12_counts_139 : decode cX12_counts 139 = .ok (.iastore, 1) := by decide +kernel
theorem dX12_counts_140 : decode cX12_counts 140 = .ok (.goto 20, 3) := by decide +kernel
theorem dX12_counts_143 : decode cX12_counts 143 = .ok (.aload_n 0, 1) := by decide +kernel
theorem dX12_counts_144 : decode cX12_counts 144 = .ok (.getfield 7, 3) := by decide +kernel
theorem dX12_counts_147 : decode cX12_counts 147 = .ok (.iload_n 3, 1) := by decide +kernel
theorem dX12_counts_148 : decode cX12_counts 148 = .ok (.iload_n 2, 1) := by decide +kernel
theorem dX12_counts_149 : decode cX12_counts 149 = .ok (.iastore, 1) := by decide +kernel
theorem dX12_counts_150 : decode cX12_counts 150 = .ok (.aload_n 0, 1) := by decide +kernel
theorem dX12_counts_151 : decode cX12_counts 151 = .ok (.getfield 7, 3) := by decide +kernel
theorem dX12_counts_154 : decode cX12_counts 154 = .ok (.bipush 16, 2) := by decide +kernel
theorem dX12_counts_156 : decode cX12_counts 156 = .ok (.iload_n 1, 1) := by decide +kernel
theorem dX12_counts_157 : decode cX12_counts 157 = .ok (.iadd, 1) := by decide +kernel
theorem dX12_counts_158 : decode cX12_counts 158 = .ok (.iconst 1, 1) := by decide +kernel
theorem dX12_counts_159 : decode cX12_counts 159 = .ok (.iastore, 1) := by decide +kernel
theorem dX12_counts_160 : decode cX12_counts 160 = .ok (.return_, 1) := by decide +kernel
theorem dX12_query_0 : decode cX12_query 0 = .ok (.aload_n 0, 1) := by decide +kernel
theorem dX12_query_1 : decode cX12_query 1 = .ok (.iconst 0, 1) := by decide +kernel
theorem dX12_query_2 : decode cX12_query 2 = .ok (.putfield 97, 3) := by decide +kernel
theorem dX12_query_5 : decode cX12_query 5 = .ok (.aload_n 0, 1) := by decide +kernel
theorem dX12_query_6 : decode cX12_query 6 = .ok (.iload_n 1, 1) := by decide +kernel
theorem dX12_query_7 : decode cX12_query 7 = .ok (.invokevirtual 120, 3) := by decide +kernel
theorem dX12_query_10 : decode cX12_query 10 = .ok (.ifCond .eq 20, 3) := by decide +kernel
theorem dX12_query_13 : decode cX12_query 13 = .ok (.aload_n 0, 1) := by decide +kernel
theorem dX12_query_14 : decode cX12_query 14 = .ok (.iload_n 1, 1) := by decide +kernel
theorem dX12_query_15 : decode cX12_query 15 = .ok (.iload_n 2, 1) := by decide +kernel
theorem dX12_query_16 : decode cX12_query 16 = .ok (.invokevirtual 139, 3) := by decide +kernel
theorem dX12_query_19 : decode cX12_query 19 = .ok (.ifCond .eq 11, 3) := by decide +kernel
theorem dX12_query_22 : decode cX12_query 22 = .ok (.aload_n 0, 1) := by decide +kernel
theorem dX12_query_23 : decode cX12_query 23 = .ok (.iload_n 1, 1) := by decide +kernel
theorem dX12_query_24 : decode cX12_query 24 = .ok (.invokevirtual 142, 3) := by decide +kernel
theorem dX12_query_27 : decode cX12_query 27 = .ok (.ifCond .ne 5, 3) := by decide +kernel
theorem dX12_query_30 : decode cX12_query 30 = .ok (.iconst (-1), 1) := by decide +kernel
theorem dX12_query_31 : decode cX12_query 31 = .ok (.ireturn, 1) := by decide +kernel
theorem dX12_query_32 : decode cX12_query 32 = .ok (.aload_n 0, 1) := by decide +kernel
theorem dX12_query_33 : decode cX12_query 33 = .ok (.invokevirtual 124, 3) := by decide +kernel
theorem dX12_query_36 : decode cX12_query 36 = .ok (.aload_n 0, 1) := by decide +kernel
theorem dX12_query_37 : decode cX12_query 37 = .ok (.getfield 38, 3) := by decide +kernel
theorem dX12_query_40 : decode cX12_query 40 = .ok (.iload_n 1, 1) := by decide +kernel
theorem dX12_query_41 : decode cX12_query 41 = .ok (.dup2, 1) := by decide +kernel
theorem dX12_query_42 : decode cX12_query 42 = .ok (.iaload, 1) := by decide +kernel
theorem dX12_query_43 : decode cX12_query 43 = .ok (.iconst 1, 1) := by decide +kernel
theorem dX12_query_44 : decode cX12_query 44 = .ok (.iadd, 1) := by decide +kernel
theorem dX12_query_45 : decode cX12_query 45 = .ok (.iastore, 1) := by decide +kernel
theorem dX12_query_46 : decode cX12_query 46 = .ok (.aload_n 0, 1) := by decide +kernel
theorem dX12_query_47 : decode cX12_query 47 = .ok (.dup, 1) := by decide +kernel
theorem dX12_query_48 : decode cX12_query 48 = .ok (.getfield 107, 3) := by decide +kernel
theorem dX12_query_51 : decode cX12_query 51 = .ok (.iconst 1, 1) := by decide +kernel
theorem dX12_query_52 : decode cX12_query 52 = .ok (.iadd, 1) := by decide +kernel
theorem dX12_query_53 : decode cX12_query 53 = .ok (.putfield 107, 3) := by decide +kernel
theorem dX12_query_56 : decode cX12_query 56 = .ok (.aload_n 0, 1) := by decide +kernel
theorem dX12_query_57 : decode cX12_query 57 = .ok (.iload_n 1, 1) := by decide +kernel
theorem dX12_query_58 : decode cX12_query 58 = .ok (.iload_n 2, 1) := by decide +kernel
theorem dX12_query_59 : decode cX12_query 59 = .ok (.invokevirtual 145, 3) := by decide +kernel
theorem dX12_query_62 : decode cX12_query 62 = .ok (.ireturn, 1) := by decide +kernel
theorem dX12_puts_0 : decode cX12_puts 0 = .ok (.iconst 0, 1) := by decide +kernel
theorem dX12_puts_1 : decode cX12_puts 1 = .ok (.istore_n 3, 1) := by decide +kernel
theorem dX12_puts_2 : decode cX12_puts 2 = .ok (.iload_n 3, 1) := by decide +kernel
theorem dX12_puts_3 : decode cX12_puts 3 = .ok (.sipush 288, 3) := by decide +kernel
theorem dX12_puts_6 : decode cX12_puts 6 = .ok (.if_icmp .ge 15, 3) := by decide +kernel
theorem dX12_puts_9 : decode cX12_puts 9 = .ok (.aload_n 2, 1) := by decide +kernel
theorem dX12_puts_10 : decode cX12_puts 10 = .ok (.iload_n 3, 1) := by decide +kernel
theorem dX12_puts_11 : decode cX12_puts 11 = .ok (.aload_n 1, 1) := by decide +kernel
theorem dX12_puts_12 : decode cX12_puts 12 = .ok (.iload_n 3, 1) := by decide +kernel
theorem dX12_puts_13 : decode cX12_puts 13 = .ok (.iaload, 1) := by decide +kernel
theorem dX12_puts_14 : decode cX12_puts 14 = .ok (.iastore, 1) := by decide +kernel
theorem dX12_puts_15 : decode cX12_puts 15 = .ok (.iinc 3 1, 3) := by decide +kernel
theorem dX12_puts_18 : decode cX12_puts 18 = .ok (.goto (-16), 3) := by decide +kernel
theorem dX12_puts_21 : decode cX12_puts 21 = .ok (.return_, 1) := by decide +kernel
theorem dX12_would_0 : decode cX12_would 0 = .ok (.aload_n 0, 1) := by decide +kernel
theorem dX12_would_1 : decode cX12_would 1 = .ok (.iconst 0, 1) := by decide +kernel
theorem dX12_would_2 : decode cX12_would 2 = .ok (.putfield 97, 3) := by decide +kernel
theorem dX12_would_5 : decode cX12_would 5 = .ok (.aload_n 0, 1) := by decide +kernel
theorem dX12_would_6 : decode cX12_would 6 = .ok (.iload_n 1, 1) := by decide +kernel
theorem dX12_would_7 : decode cX12_would 7 = .ok (.invokevirtual 120, 3) := by decide +kernel
theorem dX12_would_10 : decode cX12_would 10 = .ok (.ifCond .eq 20, 3) := by decide +kernel
theorem dX12_would_13 : decode cX12_would 13 = .ok (.aload_n 0, 1) := by decide +kernel
theorem dX12_would_14 : decode cX12_would 14 = .ok (.iload_n 1, 1) := by decide +kernel
theorem dX12_would_15 : decode cX12_would 15 = .ok (.iload_n 2, 1) := by decide +kernel
theorem dX12_would_16 : decode cX12_would 16 = .ok (.invokevirtual 139, 3) := by decide +kernel
theorem dX12_would_19 : decode cX12_would 19 = .ok (.ifCond .eq 11, 3) := by decide +kernel
theorem dX12_would_22 : decode cX12_would 22 = .ok (.aload_n 0, 1) := by decide +kernel
theorem dX12_would_23 : decode cX12_would 23 = .ok (.iload_n 1, 1) := by decide +kernel
theorem dX12_would_24 : decode cX12_would 24 = .ok (.invokevirtual 142, 3) := by decide +kernel
theorem dX12_would_27 : decode cX12_would 27 = .ok (.ifCond .ne 5, 3) := by decide +kernel
theorem dX12_would_30 : decode cX12_would 30 = .ok (.iconst (-1), 1) := by decide +kernel
theorem dX12_would_31 : decode cX12_would 31 = .ok (.ireturn, 1) := by decide +kernel
theorem dX12_would_32 : decode cX12_would 32 = .ok (.aload_n 0, 1) := by decide +kernel
theorem dX12_would_33 : decode cX12_would 33 = .ok (.aload_n 0, 1) := by decide +kernel
theorem dX12_would_34 : decode cX12_would 34 = .ok (.getfield 7, 3) := by decide +kernel
theorem dX12_would_37 : decode cX12_would 37 = .ok (.aload_n 0, 1) := by decide +kernel
theorem dX12_would_38 : decode cX12_would 38 = .ok (.getfield 16, 3) := by decide +kernel
theorem dX12_would_41 : decode cX12_would 41 = .ok (.invokevirtual 148, 3) := by decide +kernel
theorem dX12_would_44 : decode cX12_would 44 = .ok (.aload_n 0, 1) := by decide +kernel
theorem dX12_would_45 : decode cX12_would 45 = .ok (.iload_n 1, 1) := by decide +kernel
theorem dX12_would_46 : decode cX12_would 46 = .ok (.iload_n 2, 1) := by decide +kernel
theorem dX12_would_47 : decode cX12_would 47 = .ok (.invokevirtual 145, 3) := by decide +kernel
theorem dX12_would_50 : decode cX12_would 50 = .ok (.istore_n 3, 1) := by decide +kernel
theorem dX12_would_51 : decode cX12_would 51 = .ok (.aload_n 0, 1) := by decide +kernel
theorem dX12_would_52 : decode cX12_would 52 = .ok (.aload_n 0, 1) := by decide +kernel
theorem dX12_would_53 : decode cX12_would 53 = .ok (.getfield 16, 3) := by decide +kernel
theorem dX12_would_56 : decode cX12_would 56 = .ok (.aload_n 0, 1) := by decide +kernel
theorem dX12_would_57 : decode cX12_would 57 = .ok (.getfield 7, 3) := by decide +kernel
theorem dX12_would_60 : decode cX12_would 60 = .ok (.invokevirtual 148, 3) := by decide +kernel
theorem dX12_would_63 : decode cX12_would 63 = .ok (.iload_n 3, 1) := by decide +kernel
theorem dX12_would_64 : decode cX12_would 64 = .ok (.ireturn, 1) := by decide +kernel
theorem dX12_draw_0 : decode cX12_draw 0 = .ok (.aload_n 0, 1) := by decide +kernel
theorem dX12_draw_1 : decode cX12_draw 1 = .ok (.aload_n 0, 1) := by decide +kernel
theorem dX12_draw_2 : decode cX12_draw 2 = .ok (.getfield 152, 3) := by decide +kernel
theorem dX12_draw_5 : decode cX12_draw 5 = .ok (.ldc 155, 2) := by decide +kernel
theorem dX12_draw_7 : decode cX12_draw 7 = .ok (.imul, 1) := by decide +kernel
theorem dX12_draw_8 : decode cX12_draw 8 = .ok (.sipush 12345, 3) := by decide +kernel
theorem dX12_draw_11 : decode cX12_draw 11 = .ok (.iadd, 1) := by decide +kernel
theorem dX12_draw_12 : decode cX12_draw 12 = .ok (.putfield 152, 3) := by decide +kernel
theorem dX12_draw_15 : decode cX12_draw 15 = .ok (.aload_n 0, 1) := by decide +kernel
theorem dX12_draw_16 : decode cX12_draw 16 = .ok (.getfield 152, 3) := by decide +kernel
theorem dX12_draw_19 : decode cX12_draw 19 = .ok (.bipush 8, 2) := by decide +kernel
theorem dX12_draw_21 : decode cX12_draw 21 = .ok (.iushr, 1) := by decide +kernel
theorem dX12_draw_22 : decode cX12_draw 22 = .ok (.iload_n 1, 1) := by decide +kernel
theorem dX12_draw_23 : decode cX12_draw 23 = .ok (.irem, 1) := by decide +kernel
theorem dX12_draw_24 : decode cX12_draw 24 = .ok (.ireturn, 1) := by decide +kernel
theorem dX12_drawSample_0 : decode cX12_drawSample 0 = .ok (.iconst 1, 1) := by decide +kernel
theorem dX12_drawSample_1 : decode cX12_drawSample 1 = .ok (.aload_n 0, 1) := by decide +kernel
theorem dX12_drawSample_2 : decode cX12_drawSample 2 = .ok (.getfield 19, 3) := by decide +kernel
theorem dX12_drawSample_5 : decode cX12_drawSample 5 = .ok (.ishl, 1) := by decide +kernel
theorem dX12_drawSample_6 : decode cX12_drawSample 6 = .ok (.iconst 1, 1) := by decide +kernel
theorem dX12_drawSample_7 : decode cX12_drawSample 7 = .ok (.isub, 1) := by decide +kernel
theorem dX12_drawSample_8 : decode cX12_drawSample 8 = .ok (.iconst 1, 1) := by decide +kernel
theorem dX12_drawSample_9 : decode cX12_drawSample 9 = .ok (.iload_n 1, 1) := by decide +kernel
theorem dX12_drawSample_10 : decode cX12_drawSample 10 = .ok (.ishl, 1) := by decide +kernel
theorem dX12_drawSample_11 : decode cX12_drawSample 11 = .ok (.iconst (-1), 1) := by decide +kernel
theorem dX12_drawSample_12 : decode cX12_drawSample 12 = .ok (.ixor, 1) := by decide +kernel
theorem dX12_drawSample_13 : decode cX12_drawSample 13 = .ok (.iand, 1) := by decide +kernel
theorem dX12_drawSample_14 : decode cX12_drawSample 14 = .ok (.istore_n 2, 1) := by decide +kernel
theorem dX12_drawSample_15 : decode cX12_drawSample 15 = .ok (.iconst 0, 1) := by decide +kernel
theorem dX12_drawSample_16 : decode cX12_drawSample 16 = .ok (.istore_n 3, 1) := by decide +kernel
theorem dX12_drawSample_17 : decode cX12_drawSample 17 = .ok (.iconst 0, 1) := by decide +kernel
theorem dX12_drawSample_18 : decode cX12_drawSample 18 = .ok (.istore 4, 2) := by decide +kernel
theorem dX12_drawSample_20 : decode cX12_drawSample 20 = .ok (.iload 4, 2) := by decide +kernel
theorem dX12_drawSample_22 : decode cX12_drawSample 22 = .ok (.aload_n 0, 1) := by decide +kernel
theorem dX12_drawSample_23 : decode cX12_drawSample 23 = .ok (.getfield 23, 3) := by decide +kernel
theorem dX12_drawSample_26 : decode cX12_drawSample 26 = .ok (.if_icmp .ge 43, 3) := by decide +kernel
theorem dX12_drawSample_29 : decode cX12_drawSample 29 = .ok (.aload_n 0, 1) := by decide +kernel
theorem dX12_drawSample_30 : decode cX12_drawSample 30 = .ok (.iload_n 2, 1) := by decide +kernel
theorem dX12_drawSample_31 : decode cX12_drawSample 31 = .ok (.invokestatic 127, 3) := by decide +kernel
theorem dX12_drawSample_34 : decode cX12_drawSample 34 = .ok (.invokevirtual 156, 3) := by decide +kernel
theorem dX12_drawSample_37 : decode cX12_drawSample 37 = .ok (.istore 5, 2) := by decide +kernel
theorem dX12_drawSample_39 : decode cX12_drawSample 39 = .ok (.iload_n 2, 1) := by decide +kernel
theorem dX12_drawSample_40 : decode cX12_drawSample 40 = .ok (.iload 5, 2) := by decide +kernel
theorem dX12_drawSample_42 : decode cX12_drawSample 42 = .ok (.invokestatic 159, 3) := by decide +kernel
theorem dX12_drawSample_45 : decode cX12_drawSample 45 = .ok (.istore 6, 2) := by decide +kernel
theorem dX12_drawSample_47 : decode cX12_drawSample 47 = .ok (.iload_n 2, 1) := by decide +kernel
theorem dX12_drawSample_48 : decode cX12_drawSample 48 = .ok (.iconst 1, 1) := by decide +kernel
theorem dX12_drawSample_49 : decode cX12_drawSample 49 = .ok (.iload 6, 2) := by decide +kernel
theorem dX12_drawSample_51 : decode cX12_drawSample 51 = .ok (.ishl, 1) := by decide +kernel
theorem dX12_drawSample_52 : decode cX12_drawSample 52 = .ok (.iconst (-1), 1) := by decide +kernel
theorem dX12_drawSample_53 : decode cX12_drawSample 53 = .ok (.ixor, 1) := by decide +kernel
theorem dX12_drawSample_54 : decode cX12_drawSample 54 = .ok (.iand, 1) := by decide +kernel
theorem dX12_drawSample_55 : decode cX12_drawSample 55 = .ok (.istore_n 2, 1) := by decide +kernel
theorem dX12_drawSample_56 : decode cX12_drawSample 56 = .ok (.iload_n 3, 1) := by decide +kernel
theorem dX12_drawSample_57 : decode cX12_drawSample 57 = .ok (.iconst 1, 1) := by decide +kernel
theorem dX12_drawSample_58 : decode cX12_drawSample 58 = .ok (.iload 6, 2) := by decide +kernel
theorem dX12_drawSample_60 : decode cX12_drawSample 60 = .ok (.ishl, 1) := by decide +kernel
theorem dX12_drawSample_61 : decode cX12_drawSample 61 = .ok (.ior, 1) := by decide +kernel
theorem dX12_drawSample_62 : decode cX12_drawSample 62 = .ok (.istore_n 3, 1) := by decide +kernel
theorem dX12_drawSample_63 : decode cX12_drawSample 63 = .ok (.iinc 4 1, 3) := by decide +kernel
theorem dX12_drawSample_66 : decode cX12_drawSample 66 = .ok (.goto (-46), 3) := by decide +kernel
theorem dX12_drawSample_69 : decode cX12_drawSample 69 = .ok (.iload_n 3, 1) := by decide +kernel
theorem dX12_drawSample_70 : decode cX12_drawSample 70 = .ok (.ireturn, 1) := by decide +kernel
theorem dX12_nth_0 : decode cX12_nth 0 = .ok (.iload_n 1, 1) := by decide +kernel
theorem dX12_nth_1 : decode cX12_nth 1 = .ok (.istore_n 2, 1) := by decide +kernel
theorem dX12_nth_2 : decode cX12_nth 2 = .ok (.iconst 0, 1) := by decide +kernel
theorem dX12_nth_3 : decode cX12_nth 3 = .ok (.istore_n 3, 1) := by decide +kernel
theorem dX12_nth_4 : decode cX12_nth 4 = .ok (.iload_n 0, 1) := by decide +kernel
theorem dX12_nth_5 : decode cX12_nth 5 = .ok (.iload_n 3, 1) := by decide +kernel
theorem dX12_nth_6 : decode cX12_nth 6 = .ok (.invokestatic 100, 3) := by decide +kernel
theorem dX12_nth_9 : decode cX12_nth 9 = .ok (.ifCond .ne 6, 3) := by decide +kernel
theorem dX12_nth_12 : decode cX12_nth 12 = .ok (.goto 12, 3) := by decide +kernel
theorem dX12_nth_15 : decode cX12_nth 15 = .ok (.iload_n 2, 1) := by decide +kernel
theorem dX12_nth_16 : decode cX12_nth 16 = .ok (.ifCond .ne 5, 3) := by decide +kernel
theorem dX12_nth_19 : decode cX12_nth 19 = .ok (.iload_n 3, 1) := by decide +kernel
theorem dX12_nth_20 : decode cX12_nth 20 = .ok (.ireturn, 1) := by decide +kernel
theorem dX12_nth_21 : decode cX12_nth 21 = .ok (.iinc 2 (-1), 3) := by decide +kernel
theorem dX12_nth_24 : decode cX12_nth 24 = .ok (.iinc 3 1, 3) := by decide +kernel
theorem dX12_nth_27 : decode cX12_nth 27 = .ok (.goto (-23), 3) := by decide +kernel
theorem dX12_run_0 : decode cX12_run 0 = .ok (.aload_n 0, 1) := by decide +kernel
theorem dX12_run_1 : decode cX12_run 1 = .ok (.iconst 0, 1) := by decide +kernel
theorem dX12_run_2 : decode cX12_run 2 = .ok (.putfield 97, 3) := by decide +kernel
theorem dX12_run_5 : decode cX12_run 5 = .ok (.iload_n 1, 1) := by decide +kernel
theorem dX12_run_6 : decode cX12_run 6 = .ok (.iconst 1, 1) := by decide +kernel
theorem dX12_run_7 : decode cX12_run 7 = .ok (.sipush 300, 3) := by decide +kernel
theorem dX12_run_10 : decode cX12_run 10 = .ok (.invokestatic 116, 3) := by decide +kernel
theorem dX12_run_13 : decode cX12_run 13 = .ok (.ifCond .ne 5, 3) := by decide +kernel
theorem dX12_run_16 : decode cX12_run 16 = .ok (.iconst (-1), 1) := by decide +kernel
theorem dX12_run_17 : decode cX12_run 17 = .ok (.ireturn, 1) := by decide +kernel
theorem dX12_run_18 : decode cX12_run 18 = .ok (.aload_n 0, 1) := by decide +kernel
theorem dX12_run_19 : decode cX12_run 19 = .ok (.invokevirtual 124, 3) := by decide +kernel
theorem dX12_run_22 : decode cX12_run 22 = .ok (.aload_n 0, 1) := by decide +kernel
theorem dX12_run_23 : decode cX12_run 23 = .ok (.iload_n 2, 1) := by decide +kernel
theorem dX12_run_24 : decode cX12_run 24 = .ok (.putfield 152, 3) := by decide +kernel
theorem dX12_run_27 : decode cX12_run 27 = .ok (.iconst 0, 1) := by decide +kernel
theorem dX12_run_28 : decode cX12_run 28 = .ok (.istore_n 3, 1) := by decide +kernel
theorem dX12_run_29 : decode cX12_run 29 = .ok (.iconst 0, 1) := by decide +kernel
theorem dX12_run_30 : decode cX12_run 30 = .ok (.istore 4, 2) := by decide +kernel
theorem dX12_run_32 : decode cX12_run 32 = .ok (.iload 4, 2) := by decide +kernel
theorem dX12_run_34 : decode cX12_run 34 = .ok (.iload_n 1, 1) := by decide +kernel
theorem dX12_run_35 : decode cX12_run 35 = .ok (.if_icmp .ge 75, 3) := by decide +kernel
theorem dX12_run_38 : decode cX12_run 38 = .ok (.aload_n 0, 1) := by decide +kernel
theorem dX12_run_39 : decode cX12_run 39 = .ok (.aload_n 0, 1) := by decide +kernel
theorem dX12_run_40 : decode cX12_run 40 = .ok (.getfield 19, 3) := by decide +kernel
theorem dX12_run_43 : decode cX12_run 43 = .ok (.invokevirtual 156, 3) := by decide +kernel
theorem dX12_run_46 : decode cX12_run 46 = .ok (.istore 5, 2) := by decide +kernel
theorem dX12_run_48 : decode cX12_run 48 = .ok (.aload_n 0, 1) := by decide +kernel
theorem dX12_run_49 : decode cX12_run 49 = .ok (.iload 5, 2) := by decide +kernel
theorem dX12_run_51 : decode cX12_run 51 = .ok (.invokevirtual 162, 3) := by decide +kernel
theorem dX12_run_54 : decode cX12_run 54 = .ok (.istore 6, 2) := by decide +kernel
theorem dX12_run_56 : decode cX12_run 56 = .ok (.aload_n 0, 1) := by decide +kernel
theorem dX12_run_57 : decode cX12_run 57 = .ok (.iload 5, 2) := by decide +kernel
theorem dX12_run_59 : decode cX12_run 59 = .ok (.invokevirtual 142, 3) := by decide +kernel
theorem dX12_run_62 : decode cX12_run 62 = .ok (.ifCond .ne 6, 3) := by decide +kernel
theorem dX12_run_65 : decode cX12_run 65 = .ok (.goto 39, 3) := by decide +kernel
theorem dX12_run_68 : decode cX12_run 68 = .ok (.aload_n 0, 1) := by decide +kernel
theorem dX12_run_69 : decode cX12_run 69 = .ok (.getfield 38, 3) := by decide +kernel
theorem dX12_run_72 : decode cX12_run 72 = .ok (.iload 5, 2) := by decide +kernel
theorem dX12_run_74 : decode cX12_run 74 = .ok (.dup2, 1) := by decide +kernel
theorem dX12_run_75 : decode cX12_run 75 = .ok (.iaload, 1) := by decide +kernel
theorem dX12_run_76 : decode cX12_run 76 = .ok (.iconst 1, 1) := by decide +kernel
theorem dX12_run_77 : decode cX12_run 77 = .ok (.iadd, 1) := by decide +kernel
theorem dX12_run_78 : decode cX12_run 78 = .ok (.iastore, 1) := by decide +kernel
theorem dX12_run_79 : decode cX12_run 79 = .ok (.aload_n 0, 1) := by decide +kernel
theorem dX12_run_80 : decode cX12_run 80 = .ok (.dup, 1) := by decide +kernel
theorem dX12_run_81 : decode cX12_run 81 = .ok (.getfield 107, 3) := by decide +kernel
theorem dX12_run_84 : decode cX12_run 84 = .ok (.iconst 1, 1) := by decide +kernel
theorem dX12_run_85 : decode cX12_run 85 = .ok (.iadd, 1) := by decide +kernel
theorem dX12_run_86 : decode cX12_run 86 = .ok (.putfield 107, 3) := by decide +kernel
theorem dX12_run_89 : decode cX12_run 89 = .ok (.aload_n 0, 1) := by decide +kernel
theorem dX12_run_90 : decode cX12_run 90 = .ok (.iload 5, 2) := by decide +kernel
theorem dX12_run_92 : decode cX12_run 92 = .ok (.iload 6, 2) := by decide +kernel
theorem dX12_run_94 : decode cX12_run 94 = .ok (.invokevirtual 145, 3) := by decide +kernel
theorem dX12_run_97 : decode cX12_run 97 = .ok (.iconst 2, 1) := by decide +kernel
theorem dX12_run_98 : decode cX12_run 98 = .ok (.if_icmp .ne 6, 3) := by decide +kernel
theorem dX12_run_101 : decode cX12_run 101 = .ok (.iinc 3 1, 3) := by decide +kernel
theorem dX12_run_104 : decode cX12_run 104 = .ok (.iinc 4 1, 3) := by decide +kernel
theorem dX12_run_107 : decode cX12_run 107 = .ok (.goto (-75), 3) := by decide +kernel
theorem dX12_run_110 : decode cX12_run 110 = .ok (.iload_n 3, 1) := by decide +kernel
theorem dX12_run_111 : decode cX12_run 111 = .ok (.ireturn, 1) := by decide +kernel
theorem dX12_node_0 : decode cX12_node 0 = .ok (.aload_n 0, 1) := by decide +kernel
theorem dX12_node_1 : decode cX12_node 1 = .ok (.iconst 0, 1) := by decide +kernel
theorem dX12_node_2 : decode cX12_node 2 = .ok (.putfield 97, 3) := by decide +kernel
theorem dX12_node_5 : decode cX12_node 5 = .ok (.aload_n 0, 1) := by decide +kernel
theorem dX12_node_6 : decode cX12_node 6 = .ok (.iload_n 1, 1) := by decide +kernel
theorem dX12_node_7 : decode cX12_node 7 = .ok (.invokevirtual 120, 3) := by decide +kernel
theorem dX12_node_10 : decode cX12_node 10 = .ok (.ifCond .ne 6, 3) := by decide +kernel
theorem dX12_node_13 : decode cX12_node 13 = .ok (.bipush (-2), 2) := by decide +kernel
theorem dX12_node_15 : decode cX12_node 15 = .ok (.ireturn, 1) := by decide +kernel
theorem dX12_node_16 : decode cX12_node 16 = .ok (.iload_n 2, 1) := by decide +kernel
theorem dX12_node_17 : decode cX12_node 17 = .ok (.tableswitch 123 0 7 #[47, 56, 66, 76, 86, 96, 106, 116], 47) := by decide +kernel
theorem dX12_node_64 : decode cX12_node 64 = .ok (.aload_n 0, 1) := by decide +kernel
theorem dX12_node_65 : decode cX12_node 65 = .ok (.getfield 7, 3) := by decide +kernel
theorem dX12_node_68 : decode cX12_node 68 = .ok (.iconst 0, 1) := by decide +kernel
theorem dX12_node_69 : decode cX12_node 69 = .ok (.iload_n 1, 1) := by decide +kernel
theorem dX12_node_70 : decode cX12_node 70 = .ok (.iadd, 1) := by decide +kernel
theorem dX12_node_71 : decode cX12_node 71 = .ok (.iaload, 1) := by decide +kernel
theorem dX12_node_72 : decode cX12_node 72 = .ok (.ireturn, 1) := by decide +kernel
theorem dX12_node_73 : decode cX12_node 73 = .ok (.aload_n 0, 1) := by decide +kernel
theorem dX12_node_74 : decode cX12_node 74 = .ok (.getfield 7, 3) := by decide +kernel
theorem dX12_node_77 : decode cX12_node 77 = .ok (.bipush 8, 2) := by decide +kernel
theorem dX12_node_79 : decode cX12_node 79 = .ok (.iload_n 1, 1) := by decide +kernel
theorem dX12_node_80 : decode cX12_node 80 = .ok (.iadd, 1) := by decide +kernel
theorem dX12_node_81 : decode cX12_node 81 = .ok (.iaload, 1) := by decide +kernel
theorem dX12_node_82 : decode cX12_node 82 = .ok (.ireturn, 1) := by decide +kernel
theorem dX12_node_83 : decode cX12_node 83 = .ok (.aload_n 0, 1) := by decide +kernel
theorem dX12_node_84 : decode cX12_node 84 = .ok (.getfield 7, 3) := by decide +kernel
theorem dX12_node_87 : decode cX12_node 87 = .ok (.bipush 16, 2) := by decide +kernel
theorem dX12_node_89 : decode cX12_node 89 = .ok (.iload_n 1, 1) := by decide +kernel
theorem dX12_node_90 : decode cX12_node 90 = .ok (.iadd, 1) := by decide +kernel
theorem dX12_node_91 : decode cX12_node 91 = .ok (.iaload, 1) := by decide +kernel
theorem dX12_node_92 : decode cX12_node 92 = .ok (.ireturn, 1) := by decide +kernel
theorem dX12_node_93 : decode cX12_node 93 = .ok (.aload_n 0, 1) := by decide +kernel
theorem dX12_node_94 : decode cX12_node 94 = .ok (.getfield 7, 3) := by decide +kernel
theorem dX12_node_97 : decode cX12_node 97 = .ok (.bipush 24, 2) := by decide +kernel
theorem dX12_node_99 : decode cX12_node 99 = .ok (.iload_n 1, 1) := by decide +kernel
theorem dX12_node_100 : decode cX12_node 100 = .ok (.iadd, 1) := by decide +kernel
theorem dX12_node_101 : decode cX12_node 101 = .ok (.iaload, 1) := by decide +kernel
theorem dX12_node_102 : decode cX12_node 102 = .ok (.ireturn, 1) := by decide +kernel
theorem dX12_node_103 : decode cX12_node 103 = .ok (.aload_n 0, 1) := by decide +kernel
theorem dX12_node_104 : decode cX12_node 104 = .ok (.getfield 7, 3) := by decide +kernel
theorem dX12_node_107 : decode cX12_node 107 = .ok (.bipush 32, 2) := by decide +kernel
theorem dX12_node_109 : decode cX12_node 109 = .ok (.iload_n 1, 1) := by decide +kernel
theorem dX12_node_110 : decode cX12_node 110 = .ok (.iadd, 1) := by decide +kernel
theorem dX12_node_111 : decode cX12_node 111 = .ok (.iaload, 1) := by decide +kernel
theorem dX12_node_112 : decode cX12_node 112 = .ok (.ireturn, 1) := by decide +kernel
theorem dX12_node_113 : decode cX12_node 113 = .ok (.aload_n 0, 1) := by decide +kernel
theorem dX12_node_114 : decode cX12_node 114 = .ok (.getfield 7, 3) := by decide +kernel
theorem dX12_node_117 : decode cX12_node 117 = .ok (.bipush 40, 2) := by decide +kernel
theorem dX12_node_119 : decode cX12_node 119 = .ok (.iload_n 1, 1) := by decide +kernel
theorem dX12_node_120 : decode cX12_node 120 = .ok (.iadd, 1) := by decide +kernel
theorem dX12_node_121 : decode cX12_node 121 = .ok (.iaload, 1) := by decide +kernel
theorem dX12_node_122 : decode cX12_node 122 = .ok (.ireturn, 1) := by decide +kernel
theorem dX12_node_123 : decode cX12_node 123 = .ok (.aload_n 0, 1) := by decide +kernel
theorem dX12_node_124 : decode cX12_node 124 = .ok (.getfield 7, 3) := by decide +kernel
theorem dX12_node_127 : decode cX12_node 127 = .ok (.bipush 48, 2) := by decide +kernel
theorem dX12_node_129 : decode cX12_node 129 = .ok (.iload_n 1, 1) := by decide +kernel
theorem dX12_node_130 : decode cX12_node 130 = .ok (.iadd, 1) := by decide +kernel
theorem dX12_node_131 : decode cX12_node 131 = .ok (.iaload, 1) := by decide +kernel
theorem dX12_node_132 : decode cX12_node 132 = .ok (.ireturn, 1) := by decide +kernel
theorem dX12_node_133 : decode cX12_node 133 = .ok (.aload_n 0, 1) := by decide +kernel
theorem dX12_node_134 : decode cX12_node 134 = .ok (.getfield 38, 3) := by decide +kernel
theorem dX12_node_137 : decode cX12_node 137 = .ok (.iload_n 1, 1) := by decide +kernel
theorem dX12_node_138 : decode cX12_node 138 = .ok (.iaload, 1) := by decide +kernel
theorem dX12_node_139 : decode cX12_node 139 = .ok (.ireturn, 1) := by decide +kernel
theorem dX12_node_140 : decode cX12_node 140 = .ok (.bipush (-2), 2) := by decide +kernel
theorem dX12_node_142 : decode cX12_node 142 = .ok (.ireturn, 1) := by decide +kernel
theorem dX12_areSplit_0 : decode cX12_areSplit 0 = .ok (.iconst 0, 1) := by decide +kernel
theorem dX12_areSplit_1 : decode cX12_areSplit 1 = .ok (.istore_n 1, 1) := by decide +kernel
theorem dX12_areSplit_2 : decode cX12_areSplit 2 = .ok (.iload_n 1, 1) := by decide +kernel
theorem dX12_areSplit_3 : decode cX12_areSplit 3 = .ok (.aload_n 0, 1) := by decide +kernel
theorem dX12_areSplit_4 : decode cX12_areSplit 4 = .ok (.getfield 19, 3) := by decide +kernel
theorem dX12_areSplit_7 : decode cX12_areSplit 7 = .ok (.if_icmp .ge 59, 3) := by decide +kernel
theorem dX12_areSplit_10 : decode cX12_areSplit 10 = .ok (.iconst 0, 1) := by decide +kernel
theorem dX12_areSplit_11 : decode cX12_areSplit 11 = .ok (.istore_n 2, 1) := by decide +kernel
theorem dX12_areSplit_12 : decode cX12_areSplit 12 = .ok (.iload_n 2, 1) := by decide +kernel
theorem dX12_areSplit_13 : decode cX12_areSplit 13 = .ok (.iload_n 1, 1) := by decide +kernel
theorem dX12_areSplit_14 : decode cX12_areSplit 14 = .ok (.if_icmp .ge 46, 3) := by decide +kernel
theorem dX12_areSplit_17 : decode cX12_areSplit 17 = .ok (.aload_n 0, 1) := by decide +kernel
theorem dX12_areSplit_18 : decode cX12_areSplit 18 = .ok (.iload_n 1, 1) := by decide +kernel
theorem dX12_areSplit_19 : decode cX12_areSplit 19 = .ok (.invokevirtual 165, 3) := by decide +kernel
theorem dX12_areSplit_22 : decode cX12_areSplit 22 = .ok (.ifCond .eq 32, 3) := by decide +kernel
theorem dX12_areSplit_25 : decode cX12_areSplit 25 = .ok (.aload_n 0, 1) := by decide +kernel
theorem dX12_areSplit_26 : decode cX12_areSplit 26 = .ok (.iload_n 2, 1) := by decide +kernel
theorem dX12_areSplit_27 : decode cX12_areSplit 27 = .ok (.invokevirtual 165, 3) := by decide +kernel
theorem dX12_areSplit_30 : decode cX12_areSplit 30 = .ok (.ifCond .eq 24, 3) := by decide +kernel
theorem dX12_areSplit_33 : decode cX12_areSplit 33 = .ok (.aload_n 0, 1) := by decide +kernel
theorem dX12_areSplit_34 : decode cX12_areSplit 34 = .ok (.getfield 7, 3) := by decide +kernel
theorem dX12_areSplit_37 : decode cX12_areSplit 37 = .ok (.iconst 0, 1) := by decide +kernel
theorem dX12_areSplit_38 : decode cX12_areSplit 38 = .ok (.iload_n 1, 1) := by decide +kernel
theorem dX12_areSplit_39 : decode cX12_areSplit 39 = .ok (.iadd, 1) := by decide +kernel
theorem dX12_areSplit_40 : decode cX12_areSplit 40 = .ok (.iaload, 1) := by decide +kernel
theorem dX12_areSplit_41 : decode cX12_areSplit 41 = .ok (.aload_n 0, 1) := by decide +kernel
theorem dX12_areSplit_42 : decode cX12_areSplit 42 = .ok (.getfield 7, 3) := by decide +kernel
theorem dX12_areSplit_45 : decode cX12_areSplit 45 = .ok (.iconst 0, 1) := by decide +kernel
theorem dX12_areSplit_46 : decode cX12_areSplit 46 = .ok (.iload_n 2, 1) := by decide +kernel
theorem dX12_areSplit_47 : decode cX12_areSplit 47 = .ok (.iadd, 1) := by decide +kernel
theorem dX12_areSplit_48 : decode cX12_areSplit 48 = .ok (.iaload, 1) := by decide +kernel
theorem dX12_areSplit_49 : decode cX12_areSplit 49 = .ok (.if_icmp .eq 5, 3) := by decide +kernel
theorem dX12_areSplit_52 : decode cX12_areSplit 52 = .ok (.iconst 1, 1) := by decide +kernel
theorem dX12_areSplit_53 : decode cX12_areSplit 53 = .ok (.ireturn, 1) := by decide +kernel
theorem dX12_areSplit_54 : decode cX12_areSplit 54 = .ok (.iinc 2 1, 3) := by decide +kernel
theorem dX12_areSplit_57 : decode cX12_areSplit 57 = .ok (.goto (-45), 3) := by decide +kernel
theorem dX12_areSplit_60 : decode cX12_areSplit 60 = .ok (.iinc 1 1, 3) := by decide +kernel
theorem dX12_areSplit_63 : decode cX12_areSplit 63 = .ok (.goto (-61), 3) := by decide +kernel
theorem dX12_areSplit_66 : decode cX12_areSplit 66 = .ok (.iconst 0, 1) := by decide +kernel
theorem dX12_areSplit_67 : decode cX12_areSplit 67 = .ok (.ireturn, 1) := by decide +kernel
theorem dX12_isDecided_0 : decode cX12_isDecided 0 = .ok (.aload_n 0, 1) := by decide +kernel
theorem dX12_isDecided_1 : decode cX12_isDecided 1 = .ok (.getfield 7, 3) := by decide +kernel
theorem dX12_isDecided_4 : decode cX12_isDecided 4 = .ok (.bipush 48, 2) := by decide +kernel
theorem dX12_isDecided_6 : decode cX12_isDecided 6 = .ok (.iload_n 1, 1) := by decide +kernel
theorem dX12_isDecided_7 : decode cX12_isDecided 7 = .ok (.iadd, 1) := by decide +kernel
theorem dX12_isDecided_8 : decode cX12_isDecided 8 = .ok (.iaload, 1) := by decide +kernel
theorem dX12_isDecided_9 : decode cX12_isDecided 9 = .ok (.ifCond .ne 20, 3) := by decide +kernel
theorem dX12_isDecided_12 : decode cX12_isDecided 12 = .ok (.aload_n 0, 1) := by decide +kernel
theorem dX12_isDecided_13 : decode cX12_isDecided 13 = .ok (.getfield 7, 3) := by decide +kernel
theorem dX12_isDecided_16 : decode cX12_isDecided 16 = .ok (.bipush 40, 2) := by decide +kernel
theorem dX12_isDecided_18 : decode cX12_isDecided 18 = .ok (.iload_n 1, 1) := by decide +kernel
theorem dX12_isDecided_19 : decode cX12_isDecided 19 = .ok (.iadd, 1) := by decide +kernel
theorem dX12_isDecided_20 : decode cX12_isDecided 20 = .ok (.iaload, 1) := by decide +kernel
theorem dX12_isDecided_21 : decode cX12_isDecided 21 = .ok (.iconst 1, 1) := by decide +kernel
theorem dX12_isDecided_22 : decode cX12_isDecided 22 = .ok (.if_icmp .ne 7, 3) := by decide +kernel
theorem dX12_isDecided_25 : decode cX12_isDecided 25 = .ok (.iconst 1, 1) := by decide +kernel
theorem dX12_isDecided_26 : decode cX12_isDecided 26 = .ok (.goto 4, 3) := by decide +kernel
theorem dX12_isDecided_29 : decode cX12_isDecided 29 = .ok (.iconst 0, 1) := by decide +kernel
theorem dX12_isDecided_30 : decode cX12_isDecided 30 = .ok (.ireturn, 1) := by decide +kernel
theorem dX12_areAgreed_0 : decode cX12_areAgreed 0 = .ok (.iconst (-1), 1) := by decide +kernel
theorem dX12_areAgreed_1 : decode cX12_areAgreed 1 = .ok (.istore_n 1, 1) := by decide +kernel
theorem dX12_areAgreed_2 : decode cX12_areAgreed 2 = .ok (.iconst 0, 1) := by decide +kernel
theorem dX12_areAgreed_3 : decode cX12_areAgreed 3 = .ok (.istore_n 2, 1) := by decide +kernel
theorem dX12_areAgreed_4 : decode cX12_areAgreed 4 = .ok (.iload_n 2, 1) := by decide +kernel
theorem dX12_areAgreed_5 : decode cX12_areAgreed 5 = .ok (.aload_n 0, 1) := by decide +kernel
theorem dX12_areAgreed_6 : decode cX12_areAgreed 6 = .ok (.getfield 19, 3) := by decide +kernel
theorem dX12_areAgreed_9 : decode cX12_areAgreed 9 = .ok (.if_icmp .ge 59, 3) := by decide +kernel
theorem dX12_areAgreed_12 : decode cX12_areAgreed 12 = .ok (.aload_n 0, 1) := by decide +kernel
theorem dX12_areAgreed_13 : decode cX12_areAgreed 13 = .ok (.getfield 7, 3) := by decide +kernel
theorem dX12_areAgreed_16 : decode cX12_areAgreed 16 = .ok (.bipush 48, 2) := by decide +kernel
theorem dX12_areAgreed_18 : decode cX12_areAgreed 18 = .ok (.iload_n 2, 1) := by decide +kernel
theorem dX12_areAgreed_19 : decode cX12_areAgreed 19 = .ok (.iadd, 1) := by decide +kernel
theorem dX12_areAgreed_20 : decode cX12_areAgreed 20 = .ok (.iaload, 1) := by decide +kernel
theorem dX12_areAgreed_21 : decode cX12_areAgreed 21 = .ok (.ifCond .eq 6, 3) := by decide +kernel
theorem dX12_areAgreed_24 : decode cX12_areAgreed 24 = .ok (.goto 38, 3) := by decide +kernel
theorem dX12_areAgreed_27 : decode cX12_areAgreed 27 = .ok (.aload_n 0, 1) := by decide +kernel
theorem dX12_areAgreed_28 : decode cX12_areAgreed 28 = .ok (.iload_n 2, 1) := by decide +kernel
theorem dX12_areAgreed_29 : decode cX12_areAgreed 29 = .ok (.invokevirtual 165, 3) := by decide +kernel
theorem dX12_areAgreed_32 : decode cX12_areAgreed 32 = .ok (.ifCond .eq 19, 3) := by decide +kernel
theorem dX12_areAgreed_35 : decode cX12_areAgreed 35 = .ok (.iload_n 1, 1) := by decide +kernel
theorem dX12_areAgreed_36 : decode cX12_areAgreed 36 = .ok (.ifCond .lt 17, 3) := by decide +kernel
theorem dX12_areAgreed_39 : decode cX12_areAgreed 39 = .ok (.aload_n 0, 1) := by decide +kernel
theorem dX12_areAgreed_40 : decode cX12_areAgreed 40 = .ok (.getfield 7, 3) := by decide +kernel
theorem dX12_areAgreed_43 : decode cX12_areAgreed 43 = .ok (.iconst 0, 1) := by decide +kernel
theorem dX12_areAgreed_44 : decode cX12_areAgreed 44 = .ok (.iload_n 2, 1) := by decide +kernel
theorem dX12_areAgreed_45 : decode cX12_areAgreed 45 = .ok (.iadd, 1) := by decide +kernel
theorem dX12_areAgreed_46 : decode cX12_areAgreed 46 = .ok (.iaload, 1) := by decide +kernel
theorem dX12_areAgreed_47 : decode cX12_areAgreed 47 = .ok (.iload_n 1, 1) := by decide +kernel
theorem dX12_areAgreed_48 : decode cX12_areAgreed 48 = .ok (.if_icmp .eq 5, 3) := by decide +kernel
theorem dX12_areAgreed_51 : decode cX12_areAgreed 51 = .ok (.iconst 0, 1) := by decide +kernel
theorem dX12_areAgreed_52 : decode cX12_areAgreed 52 = .ok (.ireturn, 1) := by decide +kernel
theorem dX12_areAgreed_53 : decode cX12_areAgreed 53 = .ok (.aload_n 0, 1) := by decide +kernel
theorem dX12_areAgreed_54 : decode cX12_areAgreed 54 = .ok (.getfield 7, 3) := by decide +kernel
theorem dX12_areAgreed_57 : decode cX12_areAgreed 57 = .ok (.iconst 0, 1) := by decide +kernel
theorem dX12_areAgreed_58 : decode cX12_areAgreed 58 = .ok (.iload_n 2, 1) := by decide +kernel
theorem dX12_areAgreed_59 : decode cX12_areAgreed 59 = .ok (.iadd, 1) := by decide +kernel
theorem dX12_areAgreed_60 : decode cX12_areAgreed 60 = .ok (.iaload, 1) := by decide +kernel
theorem dX12_areAgreed_61 : decode cX12_areAgreed 61 = .ok (.istore_n 1, 1) := by decide +kernel
theorem dX12_areAgreed_62 : decode cX12_areAgreed 62 = .ok (.iinc 2 1, 3) := by decide +kernel
theorem dX12_areAgreed_65 : decode cX12_areAgreed 65 = .ok (.goto (-61), 3) := by decide +kernel
theorem dX12_areAgreed_68 : decode cX12_areAgreed 68 = .ok (.iload_n 1, 1) := by decide +kernel
theorem dX12_areAgreed_69 : decode cX12_areAgreed 69 = .ok (.ifCond .lt 7, 3) := by decide +kernel
theorem dX12_areAgreed_72 : decode cX12_areAgreed 72 = .ok (.iconst 1, 1) := by decide +kernel
theorem dX12_areAgreed_73 : decode cX12_areAgreed 73 = .ok (.goto 4, 3) := by decide +kernel
theorem dX12_areAgreed_76 : decode cX12_areAgreed 76 = .ok (.iconst 0, 1) := by decide +kernel
theorem dX12_areAgreed_77 : decode cX12_areAgreed 77 = .ok (.ireturn, 1) := by decide +kernel
theorem dX12_coloured_0 : decode cX12_coloured 0 = .ok (.iconst 0, 1) := by decide +kernel
theorem dX12_coloured_1 : decode cX12_coloured 1 = .ok (.istore_n 1, 1) := by decide +kernel
theorem dX12_coloured_2 : decode cX12_coloured 2 = .ok (.iconst 0, 1) := by decide +kernel
theorem dX12_coloured_3 : decode cX12_coloured 3 = .ok (.istore_n 2, 1) := by decide +kernel
theorem dX12_coloured_4 : decode cX12_coloured 4 = .ok (.iload_n 2, 1) := by decide +kernel
theorem dX12_coloured_5 : decode cX12_coloured 5 = .ok (.aload_n 0, 1) := by decide +kernel
theorem dX12_coloured_6 : decode cX12_coloured 6 = .ok (.getfield 19, 3) := by decide +kernel
theorem dX12_coloured_9 : decode cX12_coloured 9 = .ok (.if_icmp .ge 39, 3) := by decide +kernel
theorem dX12_coloured_12 : decode cX12_coloured 12 = .ok (.aload_n 0, 1) := by decide +kernel
theorem dX12_coloured_13 : decode cX12_coloured 13 = .ok (.getfield 7, 3) := by decide +kernel
theorem dX12_coloured_16 : decode cX12_coloured 16 = .ok (.bipush 48, 2) := by decide +kernel
theorem dX12_coloured_18 : decode cX12_coloured 18 = .ok (.iload_n 2, 1) := by decide +kernel
theorem dX12_coloured_19 : decode cX12_coloured 19 = .ok (.iadd, 1) := by decide +kernel
theorem dX12_coloured_20 : decode cX12_coloured 20 = .ok (.iaload, 1) := by decide +kernel
theorem dX12_coloured_21 : decode cX12_coloured 21 = .ok (.ifCond .ne 21, 3) := by decide +kernel
theorem dX12_coloured_24 : decode cX12_coloured 24 = .ok (.aload_n 0, 1) := by decide +kernel
theorem dX12_coloured_25 : decode cX12_coloured 25 = .ok (.getfield 7, 3) := by decide +kernel
theorem dX12_coloured_28 : decode cX12_coloured 28 = .ok (.iconst 0, 1) := by decide +kernel
theorem dX12_coloured_29 : decode cX12_coloured 29 = .ok (.iload_n 2, 1) := by decide +kernel
theorem dX12_coloured_30 : decode cX12_coloured 30 = .ok (.iadd, 1) := by decide +kernel
theorem dX12_coloured_31 : decode cX12_coloured 31 = .ok (.iaload, 1) := by decide +kernel
theorem dX12_coloured_32 : decode cX12_coloured 32 = .ok (.iconst 1, 1) := by decide +kernel
theorem dX12_coloured_33 : decode cX12_coloured 33 = .ok (.if_icmp .ne 9, 3) := by decide +kernel
theorem dX12_coloured_36 : decode cX12_coloured 36 = .ok (.iload_n 1, 1) := by decide +kernel
theorem dX12_coloured_37 : decode cX12_coloured 37 = .ok (.iconst 1, 1) := by decide +kernel
theorem dX12_coloured_38 : decode cX12_coloured 38 = .ok (.iload_n 2, 1) := by decide +kernel
theorem dX12_coloured_39 : decode cX12_coloured 39 = .ok (.ishl, 1) := by decide +kernel
theorem dX12_coloured_40 : decode cX12_coloured 40 = .ok (.ior, 1) := by decide +kernel
theorem dX12_coloured_41 : decode cX12_coloured 41 = .ok (.istore_n 1, 1) := by decide +kernel
theorem dX12_coloured_42 : decode cX12_coloured 42 = .ok (.iinc 2 1, 3) := by decide +kernel
theorem dX12_coloured_45 : decode cX12_coloured 45 = .ok (.goto (-41), 3) := by decide +kernel
theorem dX12_coloured_48 : decode cX12_coloured 48 = .ok (.iload_n 1, 1) := by decide +kernel
theorem dX12_coloured_49 : decode cX12_coloured 49 = .ok (.ireturn, 1) := by decide +kernel
theorem dX12_room_0 : decode cX12_room 0 = .ok (.iconst 0, 1) := by decide +kernel
theorem dX12_room_1 : decode cX12_room 1 = .ok (.istore_n 1, 1) := by decide +kernel
theorem dX12_room_2 : decode cX12_room 2 = .ok (.iload_n 1, 1) := by decide +kernel
theorem dX12_room_3 : decode cX12_room 3 = .ok (.iconst 2, 1) := by decide +kernel
theorem dX12_room_4 : decode cX12_room 4 = .ok (.if_icmp .ge 50, 3) := by decide +kernel
theorem dX12_room_7 : decode cX12_room 7 = .ok (.aload_n 0, 1) := by decide +kernel
theorem dX12_room_8 : decode cX12_room 8 = .ok (.getfield 54, 3) := by decide +kernel
theorem dX12_room_11 : decode cX12_room 11 = .ok (.iload_n 1, 1) := by decide +kernel
theorem dX12_room_12 : decode cX12_room 12 = .ok (.aaload, 1) := by decide +kernel
theorem dX12_room_13 : decode cX12_room 13 = .ok (.ifnonnull 41, 3) := by decide +kernel
theorem dX12_room_16 : decode cX12_room 16 = .ok (.aload_n 0, 1) := by decide +kernel
theorem dX12_room_17 : decode cX12_room 17 = .ok (.getfield 54, 3) := by decide +kernel
theorem dX12_room_20 : decode cX12_room 20 = .ok (.iload_n 1, 1) := by decide +kernel
theorem dX12_room_21 : decode cX12_room 21 = .ok (.ldc 168, 2) := by decide +kernel
theorem dX12_room_23 : decode cX12_room 23 = .ok (.newarray .int, 2) := by decide +kernel
theorem dX12_room_25 : decode cX12_room 25 = .ok (.aastore, 1) := by decide +kernel
theorem dX12_room_26 : decode cX12_room 26 = .ok (.aload_n 0, 1) := by decide +kernel
theorem dX12_room_27 : decode cX12_room 27 = .ok (.getfield 61, 3) := by decide +kernel
theorem dX12_room_30 : decode cX12_room 30 = .ok (.iload_n 1, 1) := by decide +kernel
theorem dX12_room_31 : decode cX12_room 31 = .ok (.sipush 8192, 3) := by decide +kernel
theorem dX12_room_34 : decode cX12_room 34 = .ok (.newarray .int, 2) := by decide +kernel
theorem dX12_room_36 : decode cX12_room 36 = .ok (.aastore, 1) := by decide +kernel
theorem dX12_room_37 : decode cX12_room 37 = .ok (.aload_n 0, 1) := by decide +kernel
theorem dX12_room_38 : decode cX12_room 38 = .ok (.getfield 66, 3) := by decide +kernel
theorem dX12_room_41 : decode cX12_room 41 = .ok (.iload_n 1, 1) := by decide +kernel
theorem dX12_room_42 : decode cX12_room 42 = .ok (.sipush 2001, 3) := by decide +kernel
theorem dX12_room_45 : decode cX12_room 45 = .ok (.newarray .long, 2) := by decide +kernel
theorem dX12_room_47 : decode cX12_room 47 = .ok (.aastore, 1) := by decide +kernel
theorem dX12_room_48 : decode cX12_room 48 = .ok (.iinc 1 1, 3) := by decide +kernel
theorem dX12_room_51 : decode cX12_room 51 = .ok (.goto (-49), 3) := by decide +kernel
theorem dX12_room_54 : decode cX12_room 54 = .ok (.return_, 1) := by decide +kernel
theorem dX12_clears_0 : decode cX12_clears 0 = .ok (.aload_n 0, 1) := by decide +kernel
theorem dX12_clears_1 : decode cX12_clears 1 = .ok (.getfield 58, 3) := by decide +kernel
theorem dX12_clears_4 : decode cX12_clears 4 = .ok (.iload_n 1, 1) := by decide +kernel
theorem dX12_clears_5 : decode cX12_clears 5 = .ok (.iconst 0, 1) := by decide +kernel
theorem dX12_clears_6 : decode cX12_clears 6 = .ok (.iastore, 1) := by decide +kernel
theorem dX12_clears_7 : decode cX12_clears 7 = .ok (.iconst 0, 1) := by decide +kernel
theorem dX12_clears_8 : decode cX12_clears 8 = .ok (.istore_n 2, 1) := by decide +kernel
theorem dX12_clears_9 : decode cX12_clears 9 = .ok (.iload_n 2, 1) := by decide +kernel
theorem dX12_clears_10 : decode cX12_clears 10 = .ok (.sipush 8192, 3) := by decide +kernel
theorem dX12_clears_13 : decode cX12_clears 13 = .ok (.if_icmp .ge 18, 3) := by decide +kernel
theorem dX12_clears_16 : decode cX12_clears 16 = .ok (.aload_n 0, 1) := by decide +kernel
theorem dX12_clears_17 : decode cX12_clears 17 = .ok (.getfield 61, 3) := by decide +kernel
theorem dX12_clears_20 : decode cX12_clears 20 = .ok (.iload_n 1, 1) := by decide +kernel
theorem dX12_clears_21 : decode cX12_clears 21 = .ok (.aaload, 1) := by decide +kernel
theorem dX12_clears_22 : decode cX12_clears 22 = .ok (.iload_n 2, 1) := by decide +kernel
theorem dX12_clears_23 : decode cX12_clears 23 = .ok (.iconst 0, 1) := by decide +kernel
theorem dX12_clears_24 : decode cX12_clears 24 = .ok (.iastore, 1) := by decide +kernel
theorem dX12_clears_25 : decode cX12_clears 25 = .ok (.iinc 2 1, 3) := by decide +kernel
theorem dX12_clears_28 : decode cX12_clears 28 = .ok (.goto (-19), 3) := by decide +kernel
theorem dX12_clears_31 : decode cX12_clears 31 = .ok (.return_, 1) := by decide +kernel
theorem dX12_slot_0 : decode cX12_slot 0 = .ok (.bipush 17, 2) := by decide +kernel
theorem dX12_slot_2 : decode cX12_slot 2 = .ok (.istore_n 1, 1) := by decide +kernel
theorem dX12_slot_3 : decode cX12_slot 3 = .ok (.iconst 0, 1) := by decide +kernel
theorem dX12_slot_4 : decode cX12_slot 4 = .ok (.istore_n 2, 1) := by decide +kernel
theorem dX12_slot_5 : decode cX12_slot 5 = .ok (.iload_n 2, 1) := by decide +kernel
theorem dX12_slot_6 : decode cX12_slot 6 = .ok (.bipush 48, 2) := by decide +kernel
theorem dX12_slot_8 : decode cX12_slot 8 = .ok (.if_icmp .ge 21, 3) := by decide +kernel
theorem dX12_slot_11 : decode cX12_slot 11 = .ok (.bipush 31, 2) := by decide +kernel
theorem dX12_slot_13 : decode cX12_slot 13 = .ok (.iload_n 1, 1) := by decide +kernel
theorem dX12_slot_14 : decode cX12_slot 14 = .ok (.imul, 1) := by decide +kernel
theorem dX12_slot_15 : decode cX12_slot 15 = .ok (.aload_n 0, 1) := by decide +kernel
theorem dX12_slot_16 : decode cX12_slot 16 = .ok (.getfield 7, 3) := by decide +kernel
theorem dX12_slot_19 : decode cX12_slot 19 = .ok (.iload_n 2, 1) := by decide +kernel
theorem dX12_slot_20 : decode cX12_slot 20 = .ok (.iaload, 1) := by decide +kernel
theorem dX12_slot_21 : decode cX12_slot 21 = .ok (.iadd, 1) := by decide +kernel
theorem dX12_slot_22 : decode cX12_slot 22 = .ok (.istore_n 1, 1) := by decide +kernel
theorem dX12_slot_23 : decode cX12_slot 23 = .ok (.iinc 2 1, 3) := by decide +kernel
theorem dX12_slot_26 : decode cX12_slot 26 = .ok (.goto (-21), 3) := by decide +kernel
theorem dX12_slot_29 : decode cX12_slot 29 = .ok (.iload_n 1, 1) := by decide +kernel
theorem dX12_slot_30 : decode cX12_slot 30 = .ok (.iload_n 1, 1) := by decide +kernel
theorem dX12_slot_31 : decode cX12_slot 31 = .ok (.bipush 15, 2) := by decide +kernel
theorem dX12_slot_33 : decode cX12_slot 33 = .ok (.iushr, 1) := by decide +kernel
theorem dX12_slot_34 : decode cX12_slot 34 = .ok (.ixor, 1) := by decide +kernel
theorem dX12_slot_35 : decode cX12_slot 35 = .ok (.istore_n 1, 1) := by decide +kernel
theorem dX12_slot_36 : decode cX12_slot 36 = .ok (.iload_n 1, 1) := by decide +kernel
theorem dX12_slot_37 : decode cX12_slot 37 = .ok (.sipush 8191, 3) := by decide +kernel
theorem dX12_slot_40 : decode cX12_slot 40 = .ok (.iand, 1) := by decide +kernel
theorem dX12_slot_41 : decode cX12_slot 41 = .ok (.ireturn, 1) := by decide +kernel
theorem dX12_isAsNow_0 : decode cX12_isAsNow 0 = .ok (.iconst 0, 1) := by decide +kernel
theorem dX12_isAsNow_1 : decode cX12_isAsNow 1 = .ok (.istore_n 3, 1) := by decide +kernel
theorem dX12_isAsNow_2 : decode cX12_isAsNow 2 = .ok (.iload_n 3, 1) := by decide +kernel
theorem dX12_isAsNow_3 : decode cX12_isAsNow 3 = .ok (.bipush 48, 2) := by decide +kernel
theorem dX12_isAsNow_5 : decode cX12_isAsNow 5 = .ok (.if_icmp .ge 33, 3) := by decide +kernel
theorem dX12_isAsNow_8 : decode cX12_isAsNow 8 = .ok (.aload_n 0, 1) := by decide +kernel
theorem dX12_isAsNow_9 : decode cX12_isAsNow 9 = .ok (.getfield 54, 3) := by decide +kernel
theorem dX12_isAsNow_12 : decode cX12_isAsNow 12 = .ok (.iload_n 1, 1) := by decide +kernel
theorem dX12_isAsNow_13 : decode cX12_isAsNow 13 = .ok (.aaload, 1) := by decide +kernel
theorem dX12_isAsNow_14 : decode cX12_isAsNow 14 = .ok (.bipush 48, 2) := by decide +kernel
theorem dX12_isAsNow_16 : decode cX12_isAsNow 16 = .ok (.iload_n 2, 1) := by decide +kernel
theorem dX12_isAsNow_17 : decode cX12_isAsNow 17 = .ok (.imul, 1) := by decide +kernel
theorem dX12_isAsNow_18 : decode cX12_isAsNow 18 = .ok (.iload_n 3, 1) := by decide +kernel
theorem dX12_isAsNow_19 : decode cX12_isAsNow 19 = .ok (.iadd, 1) := by decide +kernel
theorem dX12_isAsNow_20 : decode cX12_isAsNow 20 = .ok (.iaload, 1) := by decide +kernel
theorem dX12_isAsNow_21 : decode cX12_isAsNow 21 = .ok (.aload_n 0, 1) := by decide +kernel
theorem dX12_isAsNow_22 : decode cX12_isAsNow 22 = .ok (.getfield 7, 3) := by decide +kernel
theorem dX12_isAsNow_25 : decode cX12_isAsNow 25 = .ok (.iload_n 3, 1) := by decide +kernel
theorem dX12_isAsNow_26 : decode cX12_isAsNow 26 = .ok (.iaload, 1) := by decide +kernel
theorem dX12_isAsNow_27 : decode cX12_isAsNow 27 = .ok (.if_icmp .eq 5, 3) := by decide +kernel
theorem dX12_isAsNow_30 : decode cX12_isAsNow 30 = .ok (.iconst 0, 1) := by decide +kernel
theorem dX12_isAsNow_31 : decode cX12_isAsNow 31 = .ok (.ireturn, 1) := by decide +kernel
theorem dX12_isAsNow_32 : decode cX12_isAsNow 32 = .ok (.iinc 3 1, 3) := by decide +kernel
theorem dX12_isAsNow_35 : decode cX12_isAsNow 35 = .ok (.goto (-33), 3) := by decide +kernel
theorem dX12_isAsNow_38 : decode cX12_isAsNow 38 = .ok (.iconst 1, 1) := by decide +kernel
theorem dX12_isAsNow_39 : decode cX12_isAsNow 39 = .ok (.ireturn, 1) := by decide +kernel
theorem dX12_numberOf_0 : decode cX12_numberOf 0 = .ok (.aload_n 0, 1) := by decide +kernel
theorem dX12_numberOf_1 : decode cX12_numberOf 1 = .ok (.invokevirtual 169, 3) := by decide +kernel
theorem dX12_numberOf_4 : decode cX12_numberOf 4 = .ok (.istore_n 3, 1) := by decide +kernel
theorem dX12_numberOf_5 : decode cX12_numberOf 5 = .ok (.aload_n 0, 1) := by decide +kernel
theorem dX12_numberOf_6 : decode cX12_numberOf 6 = .ok (.getfield 61, 3) := by decide +kernel
theorem dX12_numberOf_9 : decode cX12_numberOf 9 = .ok (.iload_n 1, 1) := by decide +kernel
theorem dX12_numberOf_10 : decode cX12_numberOf 10 = .ok (.aaload, 1) := by decide +kernel
theorem dX12_numberOf_11 : decode cX12_numberOf 11 = .ok (.iload_n 3, 1) := by decide +kernel
theorem dX12_numberOf_12 : decode cX12_numberOf 12 = .ok (.iaload, 1) := by decide +kernel
theorem dX12_numberOf_13 : decode cX12_numberOf 13 = .ok (.ifCond .le 43, 3) := by decide +kernel
theorem dX12_numberOf_16 : decode cX12_numberOf 16 = .ok (.aload_n 0, 1) := by decide +kernel
theorem dX12_numberOf_17 : decode cX12_numberOf 17 = .ok (.iload_n 1, 1) := by decide +kernel
theorem dX12_numberOf_18 : decode cX12_numberOf 18 = .ok (.aload_n 0, 1) := by decide +kernel
theorem dX12_numberOf_19 : decode cX12_numberOf 19 = .ok (.getfield 61, 3) := by decide +kernel
theorem dX12_numberOf_22 : decode cX12_numberOf 22 = .ok (.iload_n 1, 1) := by decide +kernel
theorem dX12_numberOf_23 : decode cX12_numberOf 23 = .ok (.aaload, 1) := by decide +kernel
theorem dX12_numberOf_24 : decode cX12_numberOf 24 = .ok (.iload_n 3, 1) := by decide +kernel
theorem dX12_numberOf_25 : decode cX12_numberOf 25 = .ok (.iaload, 1) := by decide +kernel
theorem dX12_numberOf_26 : decode cX12_numberOf 26 = .ok (.iconst 1, 1) := by decide +kernel
theorem dX12_numberOf_27 : decode cX12_numberOf 27 = .ok (.isub, 1) := by decide +kernel
theorem dX12_numberOf_28 : decode cX12_numberOf 28 = .ok (.invokevirtual 173, 3) := by decide +kernel
theorem dX12_numberOf_31 : decode cX12_numberOf 31 = .ok (.ifCond .eq 14, 3) := by decide +kernel
theorem dX12_numberOf_34 : decode cX12_numberOf 34 = .ok (.aload_n 0, 1) := by decide +kernel
theorem dX12_numberOf_35 : decode cX12_numberOf 35 = .ok (.getfield 61, 3) := by decide +kernel
theorem dX12_numberOf_38 : decode cX12_numberOf 38 = .ok (.iload_n 1, 1) := by decide +kernel
theorem dX12_numberOf_39 : decode cX12_numberOf 39 = .ok (.aaload, 1) := by decide +kernel
theorem dX12_numberOf_40 : decode cX12_numberOf 40 = .ok (.iload_n 3, 1) := by decide +kernel
theorem dX12_numberOf_41 : decode cX12_numberOf 41 = .ok (.iaload, 1) := by decide +kernel
theorem dX12_numberOf_42 : decode cX12_numberOf 42 = .ok (.iconst 1, 1) := by decide +kernel
theorem dX12_numberOf_43 : decode cX12_numberOf 43 = .ok (.isub, 1) := by decide +kernel
theorem dX12_numberOf_44 : decode cX12_numberOf 44 = .ok (.ireturn, 1) := by decide +kernel
theorem dX12_numberOf_45 : decode cX12_numberOf 45 = .ok (.iload_n 3, 1) := by decide +kernel
theorem dX12_numberOf_46 : decode cX12_numberOf 46 = .ok (.iconst 1, 1) := by decide +kernel
theorem dX12_numberOf_47 : decode cX12_numberOf 47 = .ok (.iadd, 1) := by decide +kernel
theorem dX12_numberOf_48 : decode cX12_numberOf 48 = .ok (.sipush 8192, 3) := by decide +kernel
theorem dX12_numberOf_51 : decode cX12_numberOf 51 = .ok (.irem, 1) := by decide +kernel
theorem dX12_numberOf_52 : decode cX12_numberOf 52 = .ok (.istore_n 3, 1) := by decide +kernel
theorem dX12_numberOf_53 : decode cX12_numberOf 53 = .ok (.goto (-48), 3) := by decide +kernel
theorem dX12_numberOf_56 : decode cX12_numberOf 56 = .ok (.aload_n 0, 1) := by decide +kernel
theorem dX12_numberOf_57 : decode cX12_numberOf 57 = .ok (.getfield 58, 3) := by decide +kernel
theorem dX12_numberOf_60 : decode cX12_numberOf 60 = .ok (.iload_n 1, 1) := by decide +kernel
theorem dX12_numberOf_61 : decode cX12_numberOf 61 = .ok (.iaload, 1) := by decide +kernel
theorem dX12_numberOf_62 : decode cX12_numberOf 62 = .ok (.iload_n 2, 1) := by decide +kernel
theorem dX12_numberOf_63 : decode cX12_numberOf 63 = .ok (.if_icmp .ne 5, 3) := by decide +kernel
theorem dX12_numberOf_66 : decode cX12_numberOf 66 = .ok (.iconst (-1), 1) := by decide +kernel
theorem dX12_numberOf_67 : decode cX12_numberOf 67 = .ok (.ireturn, 1) := by decide +kernel
theorem dX12_numberOf_68 : decode cX12_numberOf 68 = .ok (.aload_n 0, 1) := by decide +kernel
theorem dX12_numberOf_69 : decode cX12_numberOf 69 = .ok (.getfield 58, 3) := by decide +kernel
theorem dX12_numberOf_72 : decode cX12_numberOf 72 = .ok (.iload_n 1, 1) := by decide +kernel
theorem dX12_numberOf_73 : decode cX12_numberOf 73 = .ok (.iaload, 1) := by decide +kernel
theorem dX12_numberOf_74 : decode cX12_numberOf 74 = .ok (.istore 4, 2) := by decide +kernel
theorem dX12_numberOf_76 : decode cX12_numberOf 76 = .ok (.iconst 0, 1) := by decide +kernel
theorem dX12_numberOf_77 : decode cX12_numberOf 77 = .ok (.istore 5, 2) := by decide +kernel
theorem dX12_numberOf_79 : decode cX12_numberOf 79 = .ok (.iload 5, 2) := by decide +kernel
theorem dX12_numberOf_81 : decode cX12_numberOf 81 = .ok (.bipush 48, 2) := by decide +kernel
theorem dX12_numberOf_83 : decode cX12_numberOf 83 = .ok (.if_icmp .ge 31, 3) := by decide +kernel
theorem dX12_numberOf_86 : decode cX12_numberOf 86 = .ok (.aload_n 0, 1) := by decide +kernel
theorem dX12_numberOf_87 : decode cX12_numberOf 87 = .ok (.getfield 54, 3) := by decide +kernel
theorem dX12_numberOf_90 : decode cX12_numberOf 90 = .ok (.iload_n 1, 1) := by decide +kernel
theorem dX12_numberOf_91 : decode cX12_numberOf 91 = .ok (.aaload, 1) := by decide +kernel
theorem dX12_numberOf_92 : decode cX12_numberOf 92 = .ok (.bipush 48, 2) := by decide +kernel
theorem dX12_numberOf_94 : decode cX12_numberOf 94 = .ok (.iload 4, 2) := by decide +kernel
theorem dX12_numberOf_96 : decode cX12_numberOf 96 = .ok (.imul, 1) := by decide +kernel
theorem dX12_numberOf_97 : decode cX12_numberOf 97 = .ok (.iload 5, 2) := by decide +kernel
theorem dX12_numberOf_99 : decode cX12_numberOf 99 = .ok (.iadd, 1) := by decide +kernel
theorem dX12_numberOf_100 : decode cX12_numberOf 100 = .ok (.aload_n 0, 1) := by decide +kernel
theorem dX12_numberOf_101 : decode cX12_numberOf 101 = .ok (.getfield 7, 3) := by decide +kernel
theorem dX12_numberOf_104 : decode cX12_numberOf 104 = .ok (.iload 5, 2) := by decide +kernel
theorem dX12_numberOf_106 : decode cX12_numberOf 106 = .ok (.iaload, 1) := by decide +kernel
theorem dX12_numberOf_107 : decode cX12_numberOf 107 = .ok (.iastore, 1) := by decide +kernel
theorem dX12_numberOf_108 : decode cX12_numberOf 108 = .ok (.iinc 5 1, 3) := by decide +kernel
theorem dX12_numberOf_111 : decode cX12_numberOf 111 = .ok (.goto (-32), 3) := by decide +kernel
theorem dX12_numberOf_114 : decode cX12_numberOf 114 = .ok (.aload_n 0, 1) := by decide +kernel
theorem dX12_numberOf_115 : decode cX12_numberOf 115 = .ok (.getfield 66, 3) := by decide +kernel
theorem dX12_numberOf_118 : decode cX12_numberOf 118 = .ok (.iload_n 1, 1) := by decide +kernel
theorem dX12_numberOf_119 : decode cX12_numberOf 119 = .ok (.aaload, 1) := by decide +kernel
theorem dX12_numberOf_120 : decode cX12_numberOf 120 = .ok (.iload 4, 2) := by decide +kernel
theorem dX12_numberOf_122 : decode cX12_numberOf 122 = .ok (.lconst 0, 1) := by decide +kernel
theorem dX12_numberOf_123 : decode cX12_numberOf 123 = .ok (.lastore, 1) := by decide +kernel
theorem dX12_numberOf_124 : decode cX12_numberOf 124 = .ok (.aload_n 0, 1) := by decide +kernel
theorem dX12_numberOf_125 : decode cX12_numberOf 125 = .ok (.getfield 58, 3) := by decide +kernel
theorem dX12_numberOf_128 : decode cX12_numberOf 128 = .ok (.iload_n 1, 1) := by decide +kernel
theorem dX12_numberOf_129 : decode cX12_numberOf 129 = .ok (.dup2, 1) := by decide +kernel
theorem dX12_numberOf_130 : decode cX12_numberOf 130 = .ok (.iaload, 1) := by decide +kernel
theorem dX12_numberOf_131 : decode cX12_numberOf 131 = .ok (.iconst 1, 1) := by decide +kernel
theorem dX12_numberOf_132 : decode cX12_numberOf 132 = .ok (.iadd, 1) := by decide +kernel
theorem dX12_numberOf_133 : decode cX12_numberOf 133 = .ok (.iastore, 1) := by decide +kernel
theorem dX12_numberOf_134 : decode cX12_numberOf 134 = .ok (.aload_n 0, 1) := by decide +kernel
theorem dX12_numberOf_135 : decode cX12_numberOf 135 = .ok (.getfield 61, 3) := by decide +kernel
theorem dX12_numberOf_138 : decode cX12_numberOf 138 = .ok (.iload_n 1, 1) := by decide +kernel
theorem dX12_numberOf_139 : decode cX12_numberOf 139 = .ok (.aaload, 1) := by decide +kernel
theorem dX12_numberOf_140 : decode cX12_numberOf 140 = .ok (.iload_n 3, 1) := by decide +kernel
theorem dX12_numberOf_141 : decode cX12_numberOf 141 = .ok (.iload 4, 2) := by decide +kernel
theorem dX12_numberOf_143 : decode cX12_numberOf 143 = .ok (.iconst 1, 1) := by decide +kernel
theorem dX12_numberOf_144 : decode cX12_numberOf 144 = .ok (.iadd, 1) := by decide +kernel
theorem dX12_numberOf_145 : decode cX12_numberOf 145 = .ok (.iastore, 1) := by decide +kernel
theorem dX12_numberOf_146 : decode cX12_numberOf 146 = .ok (.iload 4, 2) := by decide +kernel
theorem dX12_numberOf_148 : decode cX12_numberOf 148 = .ok (.ireturn, 1) := by decide +kernel
theorem dX12_brings_0 : decode cX12_brings 0 = .ok (.iconst 0, 1) := by decide +kernel
theorem dX12_brings_1 : decode cX12_brings 1 = .ok (.istore_n 3, 1) := by decide +kernel
theorem dX12_brings_2 : decode cX12_brings 2 = .ok (.iload_n 3, 1) := by decide +kernel
theorem dX12_brings_3 : decode cX12_brings 3 = .ok (.bipush 48, 2) := by decide +kernel
theorem dX12_brings_5 : decode cX12_brings 5 = .ok (.if_icmp .ge 28, 3) := by decide +kernel
theorem dX12_brings_8 : decode cX12_brings 8 = .ok (.aload_n 0, 1) := by decide +kernel
theorem dX12_brings_9 : decode cX12_brings 9 = .ok (.getfield 7, 3) := by decide +kernel
theorem dX12_brings_12 : decode cX12_brings 12 = .ok (.iload_n 3, 1) := by decide +kernel
theorem dX12_brings_13 : decode cX12_brings 13 = .ok (.aload_n 0, 1) := by decide +kernel
theorem dX12_brings_14 : decode cX12_brings 14 = .ok (.getfield 54, 3) := by decide +kernel
theorem dX12_brings_17 : decode cX12_brings 17 = .ok (.iload_n 1, 1) := by decide +kernel
theorem dX12_brings_18 : decode cX12_brings 18 = .ok (.aaload, 1) := by decide +kernel
theorem dX12_brings_19 : decode cX12_brings 19 = .ok (.bipush 48, 2) := by decide +kernel
theorem dX12_brings_21 : decode cX12_brings 21 = .ok (.iload_n 2, 1) := by decide +kernel
theorem dX12_brings_22 : decode cX12_brings 22 = .ok (.imul, 1) := by decide +kernel
theorem dX12_brings_23 : decode cX12_brings 23 = .ok (.iload_n 3, 1) := by decide +kernel
theorem dX12_brings_24 : decode cX12_brings 24 = .ok (.iadd, 1) := by decide +kernel
theorem dX12_brings_25 : decode cX12_brings 25 = .ok (.iaload, 1) := by decide +kernel
theorem dX12_brings_26 : decode cX12_brings 26 = .ok (.iastore, 1) := by decide +kernel
theorem dX12_brings_27 : decode cX12_brings 27 = .ok (.iinc 3 1, 3) := by decide +kernel
theorem dX12_brings_30 : decode cX12_brings 30 = .ok (.goto (-28), 3) := by decide +kernel
theorem dX12_brings_33 : decode cX12_brings 33 = .ok (.return_, 1) := by decide +kernel
theorem dX12_choose_0 : decode cX12_choose 0 = .ok (.lconst 1, 1) := by decide +kernel
theorem dX12_choose_1 : decode cX12_choose 1 = .ok (.lstore_n 2, 1) := by decide +kernel
theorem dX12_choose_2 : decode cX12_choose 2 = .ok (.iconst 0, 1) := by decide +kernel
theorem dX12_choose_3 : decode cX12_choose 3 = .ok (.istore 4, 2) := by decide +kernel
theorem dX12_choose_5 : decode cX12_choose 5 = .ok (.iload 4, 2) := by decide +kernel
theorem dX12_choose_7 : decode cX12_choose 7 = .ok (.iload_n 1, 1) := by decide +kernel
theorem dX12_choose_8 : decode cX12_choose 8 = .ok (.if_icmp .ge 23, 3) := by decide +kernel
theorem dX12_choose_11 : decode cX12_choose 11 = .ok (.lload_n 2, 1) := by decide +kernel
theorem dX12_choose_12 : decode cX12_choose 12 = .ok (.iload_n 0, 1) := by decide +kernel
theorem dX12_choose_13 : decode cX12_choose 13 = .ok (.iload 4, 2) := by decide +kernel
theorem dX12_choose_15 : decode cX12_choose 15 = .ok (.isub, 1) := by decide +kernel
theorem dX12_choose_16 : decode cX12_choose 16 = .ok (.i2l, 1) := by decide +kernel
theorem dX12_choose_17 : decode cX12_choose 17 = .ok (.lmul, 1) := by decide +kernel
theorem dX12_choose_18 : decode cX12_choose 18 = .ok (.iload 4, 2) := by decide +kernel
theorem dX12_choose_20 : decode cX12_choose 20 = .ok (.iconst 1, 1) := by decide +kernel
theorem dX12_choose_21 : decode cX12_choose 21 = .ok (.iadd, 1) := by decide +kernel
theorem dX12_choose_22 : decode cX12_choose 22 = .ok (.i2l, 1) := by decide +kernel
theorem dX12_choose_23 : decode cX12_choose 23 = .ok (.ldiv, 1) := by decide +kernel
theorem dX12_choose_24 : decode cX12_choose 24 = .ok (.lstore_n 2, 1) := by decide +kernel
theorem dX12_choose_25 : decode cX12_choose 25 = .ok (.iinc 4 1, 3) := by decide +kernel
theorem dX12_choose_28 : decode cX12_choose 28 = .ok (.goto (-23), 3) := by decide +kernel
theorem dX12_choose_31 : decode cX12_choose 31 = .ok (.iload_n 1, 1) := by decide +kernel
theorem dX12_choose_32 : decode cX12_choose 32 = .ok (.ifCond .lt 8, 3) := by decide +kernel
theorem dX12_choose_35 : decode cX12_choose 35 = .ok (.iload_n 1, 1) := by decide +kernel
theorem dX12_choose_36 : decode cX12_choose 36 = .ok (.iload_n 0, 1) := by decide +kernel
theorem dX12_choose_37 : decode cX12_choose 37 = .ok (.if_icmp .le 7, 3) := by decide +kernel
theorem dX12_choose_40 : decode cX12_choose 40 = .ok (.lconst 0, 1) := by decide +kernel
theorem dX12_choose_41 : decode cX12_choose 41 = .ok (.goto 4, 3) := by decide +kernel
theorem dX12_choose_44 : decode cX12_choose 44 = .ok (.lload_n 2, 1) := by decide +kernel
theorem dX12_choose_45 : decode cX12_choose 45 = .ok (.lreturn, 1) := by decide +kernel
theorem dX12_samples_0 : decode cX12_samples 0 = .ok (.aload_n 0, 1) := by decide +kernel
theorem dX12_samples_1 : decode cX12_samples 1 = .ok (.getfield 19, 3) := by decide +kernel
theorem dX12_samples_4 : decode cX12_samples 4 = .ok (.iconst 1, 1) := by decide +kernel
theorem dX12_samples_5 : decode cX12_samples 5 = .ok (.isub, 1) := by decide +kernel
theorem dX12_samples_6 : decode cX12_samples 6 = .ok (.aload_n 0, 1) := by decide +kernel
theorem dX12_samples_7 : decode cX12_samples 7 = .ok (.getfield 23, 3) := by decide +kernel
theorem dX12_samples_10 : decode cX12_samples 10 = .ok (.invokestatic 176, 3) := by decide +kernel
theorem dX12_samples_13 : decode cX12_samples 13 = .ok (.lreturn, 1) := by decide +kernel
theorem dX12_waysOf_0 : decode cX12_waysOf 0 = .ok (.aload_n 0, 1) := by decide +kernel
theorem dX12_waysOf_1 : decode cX12_waysOf 1 = .ok (.getfield 19, 3) := by decide +kernel
theorem dX12_waysOf_4 : decode cX12_waysOf 4 = .ok (.i2l, 1) := by decide +kernel
theorem dX12_waysOf_5 : decode cX12_waysOf 5 = .ok (.aload_n 0, 1) := by decide +kernel
theorem dX12_waysOf_6 : decode cX12_waysOf 6 = .ok (.invokevirtual 180, 3) := by decide +kernel
theorem dX12_waysOf_9 : decode cX12_waysOf 9 = .ok (.lmul, 1) := by decide +kernel
theorem dX12_waysOf_10 : decode cX12_waysOf 10 = .ok (.lstore_n 2, 1) := by decide +kernel
theorem dX12_waysOf_11 : decode cX12_waysOf 11 = .ok (.lconst 1, 1) := by decide +kernel
theorem dX12_waysOf_12 : decode cX12_waysOf 12 = .ok (.lstore 4, 2) := by decide +kernel
theorem dX12_waysOf_14 : decode cX12_waysOf 14 = .ok (.iconst 0, 1) := by decide +kernel
theorem dX12_waysOf_15 : decode cX12_waysOf 15 = .ok (.istore 6, 2) := by decide +kernel
theorem dX12_waysOf_17 : decode cX12_waysOf 17 = .ok (.iload 6, 2) := by decide +kernel
theorem dX12_waysOf_19 : decode cX12_waysOf 19 = .ok (.iload_n 1, 1) := by decide +kernel
theorem dX12_waysOf_20 : decode cX12_waysOf 20 = .ok (.if_icmp .ge 30, 3) := by decide +kernel
theorem dX12_waysOf_23 : decode cX12_waysOf 23 = .ok (.lload 4, 2) := by decide +kernel
theorem dX12_waysOf_25 : decode cX12_waysOf 25 = .ok (.ldc2_w 186, 3) := by decide +kernel
theorem dX12_waysOf_28 : decode cX12_waysOf 28 = .ok (.lload_n 2, 1) := by decide +kernel
theorem dX12_waysOf_29 : decode cX12_waysOf 29 = .ok (.ldiv, 1) := by decide +kernel
theorem dX12_waysOf_30 : decode cX12_waysOf 30 = .ok (.lcmp, 1) := by decide +kernel
theorem dX12_waysOf_31 : decode cX12_waysOf 31 = .ok (.ifCond .le 7, 3) := by decide +kernel
theorem dX12_waysOf_34 : decode cX12_waysOf 34 = .ok (.ldc2_w 188, 3) := by decide +kernel
theorem dX12_waysOf_37 : decode cX12_waysOf 37 = .ok (.lreturn, 1) := by decide +kernel
theorem dX12_waysOf_38 : decode cX12_waysOf 38 = .ok (.lload 4, 2) := by decide +kernel
theorem dX12_waysOf_40 : decode cX12_waysOf 40 = .ok (.lload_n 2, 1) := by decide +kernel
theorem dX12_waysOf_41 : decode cX12_waysOf 41 = .ok (.lmul, 1) := by decide +kernel
theorem dX12_waysOf_42 : decode cX12_waysOf 42 = .ok (.lstore 4, 2) := by decide +kernel
theorem dX12_waysOf_44 : decode cX12_waysOf 44 = .ok (.iinc 6 1, 3) := by decide +kernel
theorem dX12_waysOf_47 : decode cX12_waysOf 47 = .ok (.goto (-30), 3) := by decide +kernel
theorem dX12_waysOf_50 : decode cX12_waysOf 50 = .ok (.lload 4, 2) := by decide +kernel
theorem dX12_waysOf_52 : decode cX12_waysOf 52 = .ok (.lreturn, 1) := by decide +kernel
theorem dX12_goes_0 : decode cX12_goes 0 = .ok (.aload_n 0, 1) := by decide +kernel
theorem dX12_goes_1 : decode cX12_goes 1 = .ok (.invokevirtual 190, 3) := by decide +kernel
theorem dX12_goes_4 : decode cX12_goes 4 = .ok (.iconst 0, 1) := by decide +kernel
theorem dX12_goes_5 : decode cX12_goes 5 = .ok (.istore_n 2, 1) := by decide +kernel
theorem dX12_goes_6 : decode cX12_goes 6 = .ok (.aload_n 0, 1) := by decide +kernel
theorem dX12_goes_7 : decode cX12_goes 7 = .ok (.iconst 0, 1) := by decide +kernel
theorem dX12_goes_8 : decode cX12_goes 8 = .ok (.invokevirtual 193, 3) := by decide +kernel
theorem dX12_goes_11 : decode cX12_goes 11 = .ok (.aload_n 0, 1) := by decide +kernel
theorem dX12_goes_12 : decode cX12_goes 12 = .ok (.aload_n 0, 1) := by decide +kernel
theorem dX12_goes_13 : decode cX12_goes 13 = .ok (.getfield 7, 3) := by decide +kernel
theorem dX12_goes_16 : decode cX12_goes 16 = .ok (.aload_n 0, 1) := by decide +kernel
theorem dX12_goes_17 : decode cX12_goes 17 = .ok (.getfield 16, 3) := by decide +kernel
theorem dX12_goes_20 : decode cX12_goes 20 = .ok (.invokevirtual 148, 3) := by decide +kernel
theorem dX12_goes_23 : decode cX12_goes 23 = .ok (.aload_n 0, 1) := by decide +kernel
theorem dX12_goes_24 : decode cX12_goes 24 = .ok (.getfield 66, 3) := by decide +kernel
theorem dX12_goes_27 : decode cX12_goes 27 = .ok (.iconst 0, 1) := by decide +kernel
theorem dX12_goes_28 : decode cX12_goes 28 = .ok (.aaload, 1) := by decide +kernel
theorem dX12_goes_29 : decode cX12_goes 29 = .ok (.aload_n 0, 1) := by decide +kernel
theorem dX12_goes_30 : decode cX12_goes 30 = .ok (.iconst 0, 1) := by decide +kernel
theorem dX12_goes_31 : decode cX12_goes 31 = .ok (.sipush 2000, 3) := by decide +kernel
theorem dX12_goes_34 : decode cX12_goes 34 = .ok (.invokevirtual 197, 3) := by decide +kernel
theorem dX12_goes_37 : decode cX12_goes 37 = .ok (.lconst 1, 1) := by decide +kernel
theorem dX12_goes_38 : decode cX12_goes 38 = .ok (.lastore, 1) := by decide +kernel
theorem dX12_goes_39 : decode cX12_goes 39 = .ok (.iconst 0, 1) := by decide +kernel
theorem dX12_goes_40 : decode cX12_goes 40 = .ok (.istore_n 3, 1) := by decide +kernel
theorem dX12_goes_41 : decode cX12_goes 41 = .ok (.iload_n 3, 1) := by decide +kernel
theorem dX12_goes_42 : decode cX12_goes 42 = .ok (.iload_n 1, 1) := by decide +kernel
theorem dX12_goes_43 : decode cX12_goes 43 = .ok (.if_icmp .ge 64, 3) := by decide +kernel
theorem dX12_goes_46 : decode cX12_goes 46 = .ok (.aload_n 0, 1) := by decide +kernel
theorem dX12_goes_47 : decode cX12_goes 47 = .ok (.iconst 1, 1) := by decide +kernel
theorem dX12_goes_48 : decode cX12_goes 48 = .ok (.iload_n 2, 1) := by decide +kernel
theorem dX12_goes_49 : decode cX12_goes 49 = .ok (.isub, 1) := by decide +kernel
theorem dX12_goes_50 : decode cX12_goes 50 = .ok (.invokevirtual 193, 3) := by decide +kernel
theorem dX12_goes_53 : decode cX12_goes 53 = .ok (.iconst 0, 1) := by decide +kernel
theorem dX12_goes_54 : decode cX12_goes 54 = .ok (.istore 4, 2) := by decide +kernel
theorem dX12_goes_56 : decode cX12_goes 56 = .ok (.iload 4, 2) := by decide +kernel
theorem dX12_goes_58 : decode cX12_goes 58 = .ok (.aload_n 0, 1) := by decide +kernel
theorem dX12_goes_59 : decode cX12_goes 59 = .ok (.getfield 58, 3) := by decide +kernel
theorem dX12_goes_62 : decode cX12_goes 62 = .ok (.iload_n 2, 1) := by decide +kernel
theorem dX12_goes_63 : decode cX12_goes 63 = .ok (.iaload, 1) := by decide +kernel
theorem dX12_goes_64 : decode cX12_goes 64 = .ok (.if_icmp .ge 33, 3) := by decide +kernel
theorem dX12_goes_67 : decode cX12_goes 67 = .ok (.aload_n 0, 1) := by decide +kernel
theorem dX12_goes_68 : decode cX12_goes 68 = .ok (.iload_n 2, 1) := by decide +kernel
theorem dX12_goes_69 : decode cX12_goes 69 = .ok (.iload 4, 2) := by decide +kernel
theorem dX12_goes_71 : decode cX12_goes 71 = .ok (.invokevirtual 200, 3) := by decide +kernel
theorem dX12_goes_74 : decode cX12_goes 74 = .ok (.ifCond .ne 17, 3) := by decide +kernel
theorem dX12_goes_77 : decode cX12_goes 77 = .ok (.aload_n 0, 1) := by decide +kernel
theorem dX12_goes_78 : decode cX12_goes 78 = .ok (.aload_n 0, 1) := by decide +kernel
theorem dX12_goes_79 : decode cX12_goes 79 = .ok (.getfield 16, 3) := by decide +kernel
theorem dX12_goes_82 : decode cX12_goes 82 = .ok (.aload_n 0, 1) := by decide +kernel
theorem dX12_goes_83 : decode cX12_goes 83 = .ok (.getfield 7, 3) := by decide +kernel
theorem dX12_goes_86 : decode cX12_goes 86 = .ok (.invokevirtual 148, 3) := by decide +kernel
theorem dX12_goes_89 : decode cX12_goes 89 = .ok (.iconst (-1), 1) := by decide +kernel
theorem dX12_goes_90 : decode cX12_goes 90 = .ok (.ireturn, 1) := by decide +kernel
theorem dX12_goes_91 : decode cX12_goes 91 = .ok (.iinc 4 1, 3) := by decide +kernel
theorem dX12_goes_94 : decode cX12_goes 94 = .ok (.goto (-38), 3) := by decide +kernel
theorem dX12_goes_97 : decode cX12_goes 97 = .ok (.iconst 1, 1) := by decide +kernel
theorem dX12_goes_98 : decode cX12_goes 98 = .ok (.iload_n 2, 1) := by decide +kernel
theorem dX12_goes_99 : decode cX12_goes 99 = .ok (.isub, 1) := by decide +kernel
theorem dX12_goes_100 : decode cX12_goes 100 = .ok (.istore_n 2, 1) := by decide +kernel
theorem dX12_goes_101 : decode cX12_goes 101 = .ok (.iinc 3 1, 3) := by decide +kernel
theorem dX12_goes_104 : decode cX12_goes 104 = .ok (.goto (-63), 3) := by decide +kernel
theorem dX12_goes_107 : decode cX12_goes 107 = .ok (.aload_n 0, 1) := by decide +kernel
theorem dX12_goes_108 : decode cX12_goes 108 = .ok (.aload_n 0, 1) := by decide +kernel
theorem dX12_goes_109 : decode cX12_goes 109 = .ok (.getfield 16, 3) := by decide +kernel
theorem dX12_goes_112 : decode cX12_goes 112 = .ok (.aload_n 0, 1) := by decide +kernel
theorem dX12_goes_113 : decode cX12_goes 113 = .ok (.getfield 7, 3) := by decide +kernel
theorem dX12_goes_116 : decode cX12_goes 116 = .ok (.invokevirtual 148, 3) := by decide +kernel
theorem dX12_goes_119 : decode cX12_goes 119 = .ok (.iload_n 2, 1) := by decide +kernel
theorem dX12_goes_120 : decode cX12_goes 120 = .ok (.ireturn, 1) := by decide +kernel
theorem dX12_spreads_0 : decode cX12_spreads 0 = .ok (.iconst 0, 1) := by decide +kernel
theorem dX12_spreads_1 : decode cX12_spreads 1 = .ok (.istore_n 3, 1) := by decide +kernel
theorem dX12_spreads_2 : decode cX12_spreads 2 = .ok (.iload_n 3, 1) := by decide +kernel
theorem dX12_spreads_3 : decode cX12_spreads 3 = .ok (.aload_n 0, 1) := by decide +kernel
theorem dX12_spreads_4 : decode cX12_spreads 4 = .ok (.getfield 19, 3) := by decide +kernel
theorem dX12_spreads_7 : decode cX12_spreads 7 = .ok (.if_icmp .ge 113, 3) := by decide +kernel
theorem dX12_spreads_10 : decode cX12_spreads 10 = .ok (.iconst 0, 1) := by decide +kernel
theorem dX12_spreads_11 : decode cX12_spreads 11 = .ok (.istore 4, 2) := by decide +kernel
theorem dX12_spreads_13 : decode cX12_spreads 13 = .ok (.iload 4, 2) := by decide +kernel
theorem dX12_spreads_15 : decode cX12_spreads 15 = .ok (.iconst 1, 1) := by decide +kernel
theorem dX12_spreads_16 : decode cX12_spreads 16 = .ok (.aload_n 0, 1) := by decide +kernel
theorem dX12_spreads_17 : decode cX12_spreads 17 = .ok (.getfield 19, 3) := by decide +kernel
theorem dX12_spreads_20 : decode cX12_spreads 20 = .ok (.ishl, 1) := by decide +kernel
theorem dX12_spreads_21 : decode cX12_spreads 21 = .ok (.if_icmp .ge 93, 3) := by decide +kernel
theorem dX12_spreads_24 : decode cX12_spreads 24 = .ok (.aload_n 0, 1) := by decide +kernel
theorem dX12_spreads_25 : decode cX12_spreads 25 = .ok (.iload_n 3, 1) := by decide +kernel
theorem dX12_spreads_26 : decode cX12_spreads 26 = .ok (.iload 4, 2) := by decide +kernel
theorem dX12_spreads_28 : decode cX12_spreads 28 = .ok (.invokevirtual 139, 3) := by decide +kernel
theorem dX12_spreads_31 : decode cX12_spreads 31 = .ok (.ifCond .ne 6, 3) := by decide +kernel
theorem dX12_spreads_34 : decode cX12_spreads 34 = .ok (.goto 74, 3) := by decide +kernel
theorem dX12_spreads_37 : decode cX12_spreads 37 = .ok (.aload_n 0, 1) := by decide +kernel
theorem dX12_spreads_38 : decode cX12_spreads 38 = .ok (.iload_n 1, 1) := by decide +kernel
theorem dX12_spreads_39 : decode cX12_spreads 39 = .ok (.iload_n 2, 1) := by decide +kernel
theorem dX12_spreads_40 : decode cX12_spreads 40 = .ok (.invokevirtual 203, 3) := by decide +kernel
theorem dX12_spreads_43 : decode cX12_spreads 43 = .ok (.aload_n 0, 1) := by decide +kernel
theorem dX12_spreads_44 : decode cX12_spreads 44 = .ok (.iload_n 3, 1) := by decide +kernel
theorem dX12_spreads_45 : decode cX12_spreads 45 = .ok (.invokevirtual 142, 3) := by decide +kernel
theorem dX12_spreads_48 : decode cX12_spreads 48 = .ok (.ifCond .eq 19, 3) := by decide +kernel
theorem dX12_spreads_51 : decode cX12_spreads 51 = .ok (.aload_n 0, 1) := by decide +kernel
theorem dX12_spreads_52 : decode cX12_spreads 52 = .ok (.iload_n 3, 1) := by decide +kernel
theorem dX12_spreads_53 : decode cX12_spreads 53 = .ok (.iload 4, 2) := by decide +kernel
theorem dX12_spreads_55 : decode cX12_spreads 55 = .ok (.invokevirtual 145, 3) := by decide +kernel
theorem dX12_spreads_58 : decode cX12_spreads 58 = .ok (.istore 5, 2) := by decide +kernel
theorem dX12_spreads_60 : decode cX12_spreads 60 = .ok (.iload 5, 2) := by decide +kernel
theorem dX12_spreads_62 : decode cX12_spreads 62 = .ok (.ifCond .ge 5, 3) := by decide +kernel
theorem dX12_spreads_65 : decode cX12_spreads 65 = .ok (.iconst 0, 1) := by decide +kernel
theorem dX12_spreads_66 : decode cX12_spreads 66 = .ok (.ireturn, 1) := by decide +kernel
theorem dX12_spreads_67 : decode cX12_spreads 67 = .ok (.aload_n 0, 1) := by decide +kernel
theorem dX12_spreads_68 : decode cX12_spreads 68 = .ok (.iconst 1, 1) := by decide +kernel
theorem dX12_spreads_69 : decode cX12_spreads 69 = .ok (.iload_n 1, 1) := by decide +kernel
theorem dX12_spreads_70 : decode cX12_spreads 70 = .ok (.isub, 1) := by decide +kernel
theorem dX12_spreads_71 : decode cX12_spreads 71 = .ok (.sipush 2000, 3) := by decide +kernel
theorem dX12_spreads_74 : decode cX12_spreads 74 = .ok (.invokevirtual 197, 3) := by decide +kernel
theorem dX12_spreads_77 : decode cX12_spreads 77 = .ok (.istore 5, 2) := by decide +kernel
theorem dX12_spreads_79 : decode cX12_spreads 79 = .ok (.iload 5, 2) := by decide +kernel
theorem dX12_spreads_81 : decode cX12_spreads 81 = .ok (.ifCond .ge 5, 3) := by decide +kernel
theorem dX12_spreads_84 : decode cX12_spreads 84 = .ok (.iconst 0, 1) := by decide +kernel
theorem dX12_spreads_85 : decode cX12_spreads 85 = .ok (.ireturn, 1) := by decide +kernel
theorem dX12_spreads_86 : decode cX12_spreads 86 = .ok (.aload_n 0, 1) := by decide +kernel
theorem dX12_spreads_87 : decode cX12_spreads 87 = .ok (.getfield 66, 3) := by decide +kernel
theorem dX12_spreads_90 : decode cX12_spreads 90 = .ok (.iconst 1, 1) := by decide +kernel
theorem dX12_spreads_91 : decode cX12_spreads 91 = .ok (.iload_n 1, 1) := by decide +kernel
theorem dX12_spreads_92 : decode cX12_spreads 92 = .ok (.isub, 1) := by decide +kernel
theorem dX12_spreads_93 : decode cX12_spreads 93 = .ok (.aaload, 1) := by decide +kernel
theorem dX12_spreads_94 : decode cX12_spreads 94 = .ok (.iload 5, 2) := by decide +kernel
theorem dX12_spreads_96 : decode cX12_spreads 96 = .ok (.dup2, 1) := by decide +kernel
theorem dX12_spreads_97 : decode cX12_spreads 97 = .ok (.laload, 1) := by decide +kernel
theorem dX12_spreads_98 : decode cX12_spreads 98 = .ok (.aload_n 0, 1) := by decide +kernel
theorem dX12_spreads_99 : decode cX12_spreads 99 = .ok (.getfield 66, 3) := by decide +kernel
theorem dX12_spreads_102 : decode cX12_spreads 102 = .ok (.iload_n 1, 1) := by decide +kernel
theorem dX12_spreads_103 : decode cX12_spreads 103 = .ok (.aaload, 1) := by decide +kernel
theorem dX12_spreads_104 : decode cX12_spreads 104 = .ok (.iload_n 2, 1) := by decide +kernel
theorem dX12_spreads_105 : decode cX12_spreads 105 = .ok (.laload, 1) := by decide +kernel
theorem dX12_spreads_106 : decode cX12_spreads 106 = .ok (.ladd, 1) := by decide +kernel
theorem dX12_spreads_107 : decode cX12_spreads 107 = .ok (.lastore, 1) := by decide +kernel
theorem dX12_spreads_108 : decode cX12_spreads 108 = .ok (.iinc 4 1, 3) := by decide +kernel
theorem dX12_spreads_111 : decode cX12_spreads 111 = .ok (.goto (-98), 3) := by decide +kernel
theorem dX12_spreads_114 : decode cX12_spreads 114 = .ok (.iinc 3 1, 3) := by decide +kernel
theorem dX12_spreads_117 : decode cX12_spreads 117 = .ok (.goto (-115), 3) := by decide +kernel
theorem dX12_spreads_120 : decode cX12_spreads 120 = .ok (.iconst 1, 1) := by decide +kernel
theorem dX12_spreads_121 : decode cX12_spreads 121 = .ok (.ireturn, 1) := by decide +kernel
theorem dX12_counted_0 : decode cX12_counted 0 = .ok (.aload_n 0, 1) := by decide +kernel
theorem dX12_counted_1 : decode cX12_counted 1 = .ok (.iload_n 1, 1) := by decide +kernel
theorem dX12_counted_2 : decode cX12_counted 2 = .ok (.invokevirtual 206, 3) := by decide +kernel
theorem dX12_counted_5 : decode cX12_counted 5 = .ok (.istore 4, 2) := by decide +kernel
theorem dX12_counted_7 : decode cX12_counted 7 = .ok (.iload 4, 2) := by decide +kernel
theorem dX12_counted_9 : decode cX12_counted 9 = .ok (.ifCond .ge 7, 3) := by decide +kernel
theorem dX12_counted_12 : decode cX12_counted 12 = .ok (.ldc2_w 209, 3) := by decide +kernel
theorem dX12_counted_15 : decode cX12_counted 15 = .ok (.lreturn, 1) := by decide +kernel
theorem dX12_counted_16 : decode cX12_counted 16 = .ok (.aload_n 0, 1) := by decide +kernel
theorem dX12_counted_17 : decode cX12_counted 17 = .ok (.aload_n 0, 1) := by decide +kernel
theorem dX12_counted_18 : decode cX12_counted 18 = .ok (.getfield 7, 3) := by decide +kernel
theorem dX12_counted_21 : decode cX12_counted 21 = .ok (.aload_n 0, 1) := by decide +kernel
theorem dX12_counted_22 : decode cX12_counted 22 = .ok (.getfield 16, 3) := by decide +kernel
theorem dX12_counted_25 : decode cX12_counted 25 = .ok (.invokevirtual 148, 3) := by decide +kernel
theorem dX12_counted_28 : decode cX12_counted 28 = .ok (.lconst 0, 1) := by decide +kernel
theorem dX12_counted_29 : decode cX12_counted 29 = .ok (.lstore 5, 2) := by decide +kernel
theorem dX12_counted_31 : decode cX12_counted 31 = .ok (.iconst 0, 1) := by decide +kernel
theorem dX12_counted_32 : decode cX12_counted 32 = .ok (.istore 7, 2) := by decide +kernel
theorem dX12_counted_34 : decode cX12_counted 34 = .ok (.iload 7, 2) := by decide +kernel
theorem dX12_counted_36 : decode cX12_counted 36 = .ok (.aload_n 0, 1) := by decide +kernel
theorem dX12_counted_37 : decode cX12_counted 37 = .ok (.getfield 58, 3) := by decide +kernel
theorem dX12_counted_40 : decode cX12_counted 40 = .ok (.iload 4, 2) := by decide +kernel
theorem dX12_counted_42 : decode cX12_counted 42 = .ok (.iaload, 1) := by decide +kernel
theorem dX12_counted_43 : decode cX12_counted 43 = .ok (.if_icmp .ge 79, 3) := by decide +kernel
theorem dX12_counted_46 : decode cX12_counted 46 = .ok (.aload_n 0, 1) := by decide +kernel
theorem dX12_counted_47 : decode cX12_counted 47 = .ok (.iload 4, 2) := by decide +kernel
theorem dX12_counted_49 : decode cX12_counted 49 = .ok (.iload 7, 2) := by decide +kernel
theorem dX12_counted_51 : decode cX12_counted 51 = .ok (.invokevirtual 203, 3) := by decide +kernel
theorem dX12_counted_54 : decode cX12_counted 54 = .ok (.iload_n 2, 1) := by decide +kernel
theorem dX12_counted_55 : decode cX12_counted 55 = .ok (.iconst 1, 1) := by decide +kernel
theorem dX12_counted_56 : decode cX12_counted 56 = .ok (.if_icmp .ne 10, 3) := by decide +kernel
theorem dX12_counted_59 : decode cX12_counted 59 = .ok (.aload_n 0, 1) := by decide +kernel
theorem dX12_counted_60 : decode cX12_counted 60 = .ok (.invokevirtual 211, 3) := by decide +kernel
theorem dX12_counted_63 : decode cX12_counted 63 = .ok (.goto 31, 3) := by decide +kernel
theorem dX12_counted_66 : decode cX12_counted 66 = .ok (.iload_n 2, 1) := by decide +kernel
theorem dX12_counted_67 : decode cX12_counted 67 = .ok (.iconst 2, 1) := by decide +kernel
theorem dX12_counted_68 : decode cX12_counted 68 = .ok (.if_icmp .ne 10, 3) := by decide +kernel
theorem dX12_counted_71 : decode cX12_counted 71 = .ok (.aload_n 0, 1) := by decide +kernel
theorem dX12_counted_72 : decode cX12_counted 72 = .ok (.invokevirtual 215, 3) := by decide +kernel
theorem dX12_counted_75 : decode cX12_counted 75 = .ok (.goto 19, 3) := by decide +kernel
theorem dX12_counted_78 : decode cX12_counted 78 = .ok (.aload_n 0, 1) := by decide +kernel
theorem dX12_counted_79 : decode cX12_counted 79 = .ok (.invokevirtual 218, 3) := by decide +kernel
theorem dX12_counted_82 : decode cX12_counted 82 = .ok (.invokestatic 127, 3) := by decide +kernel
theorem dX12_counted_85 : decode cX12_counted 85 = .ok (.iload_n 3, 1) := by decide +kernel
theorem dX12_counted_86 : decode cX12_counted 86 = .ok (.if_icmp .ne 7, 3) := by decide +kernel
theorem dX12_counted_89 : decode cX12_counted 89 = .ok (.iconst 1, 1) := by decide +kernel
theorem dX12_counted_90 : decode cX12_counted 90 = .ok (.goto 4, 3) := by decide +kernel
theorem dX12_counted_93 : decode cX12_counted 93 = .ok (.iconst 0, 1) := by decide +kernel
theorem dX12_counted_94 : decode cX12_counted 94 = .ok (.istore 8, 2) := by decide +kernel
theorem dX12_counted_96 : decode cX12_counted 96 = .ok (.iload 8, 2) := by decide +kernel
theorem dX12_counted_98 : decode cX12_counted 98 = .ok (.ifCond .eq 18, 3) := by decide +kernel
theorem dX12_counted_101 : decode cX12_counted 101 = .ok (.lload 5, 2) := by decide +kernel
theorem dX12_counted_103 : decode cX12_counted 103 = .ok (.aload_n 0, 1) := by decide +kernel
theorem dX12_counted_104 : decode cX12_counted 104 = .ok (.getfield 66, 3) := by decide +kernel
theorem dX12_counted_107 : decode cX12_counted 107 = .ok (.iload 4, 2) := by decide +kernel
theorem dX12_counted_109 : decode cX12_counted 109 = .ok (.aaload, 1) := by decide +kernel
theorem dX12_counted_110 : decode cX12_counted 110 = .ok (.iload 7, 2) := by decide +kernel
theorem dX12_counted_112 : decode cX12_counted 112 = .ok (.laload, 1) := by decide +kernel
theorem dX12_counted_113 : decode cX12_counted 113 = .ok (.ladd, 1) := by decide +kernel
theorem dX12_counted_114 : decode cX12_counted 114 = .ok (.lstore 5, 2) := by decide +kernel
theorem dX12_counted_116 : decode cX12_counted 116 = .ok (.iinc 7 1, 3) := by decide +kernel
theorem dX12_counted_119 : decode cX12_counted 119 = .ok (.goto (-85), 3) := by decide +kernel
theorem dX12_counted_122 : decode cX12_counted 122 = .ok (.aload_n 0, 1) := by decide +kernel
theorem dX12_counted_123 : decode cX12_counted 123 = .ok (.aload_n 0, 1) := by decide +kernel
theorem dX12_counted_124 : decode cX12_counted 124 = .ok (.getfield 16, 3) := by decide +kernel
theorem dX12_counted_127 : decode cX12_counted 127 = .ok (.aload_n 0, 1) := by decide +kernel
theorem dX12_counted_128 : decode cX12_counted 128 = .ok (.getfield 7, 3) := by decide +kernel
theorem dX12_counted_131 : decode cX12_counted 131 = .ok (.invokevirtual 148, 3) := by decide +kernel
theorem dX12_counted_134 : decode cX12_counted 134 = .ok (.lload 5, 2) := by decide +kernel
theorem dX12_counted_136 : decode cX12_counted 136 = .ok (.lreturn, 1) := by decide +kernel
theorem dX12_exact_0 : decode cX12_exact 0 = .ok (.aload_n 0, 1) := by decide +kernel
theorem dX12_exact_1 : decode cX12_exact 1 = .ok (.iconst 0, 1) := by decide +kernel
theorem dX12_exact_2 : decode cX12_exact 2 = .ok (.putfield 97, 3) := by decide +kernel
theorem dX12_exact_5 : decode cX12_exact 5 = .ok (.iload_n 1, 1) := by decide +kernel
theorem dX12_exact_6 : decode cX12_exact 6 = .ok (.iconst 1, 1) := by decide +kernel
theorem dX12_exact_7 : decode cX12_exact 7 = .ok (.bipush 12, 2) := by decide +kernel
theorem dX12_exact_9 : decode cX12_exact 9 = .ok (.invokestatic 116, 3) := by decide +kernel
theorem dX12_exact_12 : decode cX12_exact 12 = .ok (.ifCond .eq 12, 3) := by decide +kernel
theorem dX12_exact_15 : decode cX12_exact 15 = .ok (.iload_n 2, 1) := by decide +kernel
theorem dX12_exact_16 : decode cX12_exact 16 = .ok (.iconst 0, 1) := by decide +kernel
theorem dX12_exact_17 : decode cX12_exact 17 = .ok (.iconst 2, 1) := by decide +kernel
theorem dX12_exact_18 : decode cX12_exact 18 = .ok (.invokestatic 116, 3) := by decide +kernel
theorem dX12_exact_21 : decode cX12_exact 21 = .ok (.ifCond .ne 7, 3) := by decide +kernel
theorem dX12_exact_24 : decode cX12_exact 24 = .ok (.ldc2_w 188, 3) := by decide +kernel
theorem dX12_exact_27 : decode cX12_exact 27 = .ok (.lreturn, 1) := by decide +kernel
theorem dX12_exact_28 : decode cX12_exact 28 = .ok (.aload_n 0, 1) := by decide +kernel
theorem dX12_exact_29 : decode cX12_exact 29 = .ok (.iload_n 1, 1) := by decide +kernel
theorem dX12_exact_30 : decode cX12_exact 30 = .ok (.invokevirtual 221, 3) := by decide +kernel
theorem dX12_exact_33 : decode cX12_exact 33 = .ok (.lstore_n 3, 1) := by decide +kernel
theorem dX12_exact_34 : decode cX12_exact 34 = .ok (.lload_n 3, 1) := by decide +kernel
theorem dX12_exact_35 : decode cX12_exact 35 = .ok (.lconst 0, 1) := by decide +kernel
theorem dX12_exact_36 : decode cX12_exact 36 = .ok (.lcmp, 1) := by decide +kernel
theorem dX12_exact_37 : decode cX12_exact 37 = .ok (.ifCond .ge 7, 3) := by decide +kernel
theorem dX12_exact_40 : decode cX12_exact 40 = .ok (.ldc2_w 225, 3) := by decide +kernel
theorem dX12_exact_43 : decode cX12_exact 43 = .ok (.lreturn, 1) := by decide +kernel
theorem dX12_exact_44 : decode cX12_exact 44 = .ok (.iload_n 2, 1) := by decide +kernel
theorem dX12_exact_45 : decode cX12_exact 45 = .ok (.ifCond .ne 7, 3) := by decide +kernel
theorem dX12_exact_48 : decode cX12_exact 48 = .ok (.lload_n 3, 1) := by decide +kernel
theorem dX12_exact_49 : decode cX12_exact 49 = .ok (.goto 10, 3) := by decide +kernel
theorem dX12_exact_52 : decode cX12_exact 52 = .ok (.aload_n 0, 1) := by decide +kernel
theorem dX12_exact_53 : decode cX12_exact 53 = .ok (.iload_n 1, 1) := by decide +kernel
theorem dX12_exact_54 : decode cX12_exact 54 = .ok (.iload_n 2, 1) := by decide +kernel
theorem dX12_exact_55 : decode cX12_exact 55 = .ok (.iconst 0, 1) := by decide +kernel
theorem dX12_exact_56 : decode cX12_exact 56 = .ok (.invokevirtual 227, 3) := by decide +kernel
theorem dX12_exact_59 : decode cX12_exact 59 = .ok (.lreturn, 1) := by decide +kernel
theorem dX12_colours_0 : decode cX12_colours 0 = .ok (.aload_n 0, 1) := by decide +kernel
theorem dX12_colours_1 : decode cX12_colours 1 = .ok (.iconst 0, 1) := by decide +kernel
theorem dX12_colours_2 : decode cX12_colours 2 = .ok (.putfield 97, 3) := by decide +kernel
theorem dX12_colours_5 : decode cX12_colours 5 = .ok (.iload_n 1, 1) := by decide +kernel
theorem dX12_colours_6 : decode cX12_colours 6 = .ok (.iconst 1, 1) := by decide +kernel
theorem dX12_colours_7 : decode cX12_colours 7 = .ok (.bipush 12, 2) := by decide +kernel
theorem dX12_colours_9 : decode cX12_colours 9 = .ok (.invokestatic 116, 3) := by decide +kernel
theorem dX12_colours_12 : decode cX12_colours 12 = .ok (.ifCond .eq 15, 3) := by decide +kernel
theorem dX12_colours_15 : decode cX12_colours 15 = .ok (.iload_n 2, 1) := by decide +kernel
theorem dX12_colours_16 : decode cX12_colours 16 = .ok (.iconst 0, 1) := by decide +kernel
theorem dX12_colours_17 : decode cX12_colours 17 = .ok (.aload_n 0, 1) := by decide +kernel
theorem dX12_colours_18 : decode cX12_colours 18 = .ok (.getfield 19, 3) := by decide +kernel
theorem dX12_colours_21 : decode cX12_colours 21 = .ok (.invokestatic 116, 3) := by decide +kernel
theorem dX12_colours_24 : decode cX12_colours 24 = .ok (.ifCond .ne 7, 3) := by decide +kernel
theorem dX12_colours_27 : decode cX12_colours 27 = .ok (.ldc2_w 188, 3) := by decide +kernel
theorem dX12_colours_30 : decode cX12_colours 30 = .ok (.lreturn, 1) := by decide +kernel
theorem dX12_colours_31 : decode cX12_colours 31 = .ok (.aload_n 0, 1) := by decide +kernel
theorem dX12_colours_32 : decode cX12_colours 32 = .ok (.iload_n 1, 1) := by decide +kernel
theorem dX12_colours_33 : decode cX12_colours 33 = .ok (.invokevirtual 221, 3) := by decide +kernel
theorem dX12_colours_36 : decode cX12_colours 36 = .ok (.lconst 0, 1) := by decide +kernel
theorem dX12_colours_37 : decode cX12_colours 37 = .ok (.lcmp, 1) := by decide +kernel
theorem dX12_colours_38 : decode cX12_colours 38 = .ok (.ifCond .ge 9, 3) := by decide +kernel
theorem dX12_colours_41 : decode cX12_colours 41 = .ok (.ldc2_w 225, 3) := by decide +kernel
theorem dX12_colours_44 : decode cX12_colours 44 = .ok (.goto 10, 3) := by decide +kernel
theorem dX12_colours_47 : decode cX12_colours 47 = .ok (.aload_n 0, 1) := by decide +kernel
theorem dX12_colours_48 : decode cX12_colours 48 = .ok (.iload_n 1, 1) := by decide +kernel
theorem dX12_colours_49 : decode cX12_colours 49 = .ok (.iconst 3, 1) := by decide +kernel
theorem dX12_colours_50 : decode cX12_colours 50 = .ok (.iload_n 2, 1) := by decide +kernel
theorem dX12_colours_51 : decode cX12_colours 51 = .ok (.invokevirtual 227, 3) := by decide +kernel
theorem dX12_colours_54 : decode cX12_colours 54 = .ok (.lreturn, 1) := by decide +kernel
theorem dX12_odds_0 : decode cX12_odds 0 = .ok (.aload_n 0, 1) := by decide +kernel
theorem dX12_odds_1 : decode cX12_odds 1 = .ok (.iconst 0, 1) := by decide +kernel
theorem dX12_odds_2 : decode cX12_odds 2 = .ok (.putfield 97, 3) := by decide +kernel
theorem dX12_odds_5 : decode cX12_odds 5 = .ok (.iload_n 1, 1) := by decide +kernel
theorem dX12_odds_6 : decode cX12_odds 6 = .ok (.iconst 1, 1) := by decide +kernel
theorem dX12_odds_7 : decode cX12_odds 7 = .ok (.bipush 12, 2) := by decide +kernel
theorem dX12_odds_9 : decode cX12_odds 9 = .ok (.invokestatic 116, 3) := by decide +kernel
theorem dX12_odds_12 : decode cX12_odds 12 = .ok (.ifCond .ne 5, 3) := by decide +kernel
theorem dX12_odds_15 : decode cX12_odds 15 = .ok (.iconst (-1), 1) := by decide +kernel
theorem dX12_odds_16 : decode cX12_odds 16 = .ok (.ireturn, 1) := by decide +kernel
theorem dX12_odds_17 : decode cX12_odds 17 = .ok (.aload_n 0, 1) := by decide +kernel
theorem dX12_odds_18 : decode cX12_odds 18 = .ok (.iload_n 1, 1) := by decide +kernel
theorem dX12_odds_19 : decode cX12_odds 19 = .ok (.invokevirtual 221, 3) := by decide +kernel
theorem dX12_odds_22 : decode cX12_odds 22 = .ok (.lstore_n 2, 1) := by decide +kernel
theorem dX12_odds_23 : decode cX12_odds 23 = .ok (.lload_n 2, 1) := by decide +kernel
theorem dX12_odds_24 : decode cX12_odds 24 = .ok (.lconst 0, 1) := by decide +kernel
theorem dX12_odds_25 : decode cX12_odds 25 = .ok (.lcmp, 1) := by decide +kernel
theorem dX12_odds_26 : decode cX12_odds 26 = .ok (.ifCond .ge 6, 3) := by decide +kernel
theorem dX12_odds_29 : decode cX12_odds 29 = .ok (.bipush (-2), 2) := by decide +kernel
theorem dX12_odds_31 : decode cX12_odds 31 = .ok (.ireturn, 1) := by decide +kernel
theorem dX12_odds_32 : decode cX12_odds 32 = .ok (.aload_n 0, 1) := by decide +kernel
theorem dX12_odds_33 : decode cX12_odds 33 = .ok (.iload_n 1, 1) := by decide +kernel
theorem dX12_odds_34 : decode cX12_odds 34 = .ok (.iconst 1, 1) := by decide +kernel
theorem dX12_odds_35 : decode cX12_odds 35 = .ok (.iconst 0, 1) := by decide +kernel
theorem dX12_odds_36 : decode cX12_odds 36 = .ok (.invokevirtual 227, 3) := by decide +kernel
theorem dX12_odds_39 : decode cX12_odds 39 = .ok (.lstore 4, 2) := by decide +kernel
theorem dX12_odds_41 : decode cX12_odds 41 = .ok (.lload 4, 2) := by decide +kernel
theorem dX12_odds_43 : decode cX12_odds 43 = .ok (.lconst 0, 1) := by decide +kernel
theorem dX12_odds_44 : decode cX12_odds 44 = .ok (.lcmp, 1) := by decide +kernel
theorem dX12_odds_45 : decode cX12_odds 45 = .ok (.ifCond .ge 6, 3) := by decide +kernel
theorem dX12_odds_48 : decode cX12_odds 48 = .ok (.bipush (-3), 2) := by decide +kernel
theorem dX12_odds_50 : decode cX12_odds 50 = .ok (.ireturn, 1) := by decide +kernel
theorem dX12_odds_51 : decode cX12_odds 51 = .ok (.lload_n 2, 1) := by decide +kernel
theorem dX12_odds_52 : decode cX12_odds 52 = .ok (.l2f, 1) := by decide +kernel
theorem dX12_odds_53 : decode cX12_odds 53 = .ok (.fstore 6, 2) := by decide +kernel
theorem dX12_odds_55 : decode cX12_odds 55 = .ok (.lload 4, 2) := by decide +kernel
theorem dX12_odds_57 : decode cX12_odds 57 = .ok (.l2f, 1) := by decide +kernel
theorem dX12_odds_58 : decode cX12_odds 58 = .ok (.fstore 7, 2) := by decide +kernel
theorem dX12_odds_60 : decode cX12_odds 60 = .ok (.fload 7, 2) := by decide +kernel
theorem dX12_odds_62 : decode cX12_odds 62 = .ok (.fload 6, 2) := by decide +kernel
theorem dX12_odds_64 : decode cX12_odds 64 = .ok (.fdiv, 1) := by decide +kernel
theorem dX12_odds_65 : decode cX12_odds 65 = .ok (.invokestatic 231, 3) := by decide +kernel
theorem dX12_odds_68 : decode cX12_odds 68 = .ok (.ireturn, 1) := by decide +kernel
theorem dX12_finds_0 : decode cX12_finds 0 = .ok (.aload_n 0, 1) := by decide +kernel
theorem dX12_finds_1 : decode cX12_finds 1 = .ok (.invokevirtual 211, 3) := by decide +kernel
theorem dX12_finds_4 : decode cX12_finds 4 = .ok (.ifCond .eq 5, 3) := by decide +kernel
theorem dX12_finds_7 : decode cX12_finds 7 = .ok (.iconst 0, 1) := by decide +kernel
theorem dX12_finds_8 : decode cX12_finds 8 = .ok (.ireturn, 1) := by decide +kernel
theorem dX12_finds_9 : decode cX12_finds 9 = .ok (.aload_n 0, 1) := by decide +kernel
theorem dX12_finds_10 : decode cX12_finds 10 = .ok (.invokevirtual 190, 3) := by decide +kernel
theorem dX12_finds_13 : decode cX12_finds 13 = .ok (.aload_n 0, 1) := by decide +kernel
theorem dX12_finds_14 : decode cX12_finds 14 = .ok (.iconst 0, 1) := by decide +kernel
theorem dX12_finds_15 : decode cX12_finds 15 = .ok (.invokevirtual 193, 3) := by decide +kernel
theorem dX12_finds_18 : decode cX12_finds 18 = .ok (.aload_n 0, 1) := by decide +kernel
theorem dX12_finds_19 : decode cX12_finds 19 = .ok (.aload_n 0, 1) := by decide +kernel
theorem dX12_finds_20 : decode cX12_finds 20 = .ok (.getfield 7, 3) := by decide +kernel
theorem dX12_finds_23 : decode cX12_finds 23 = .ok (.aload_n 0, 1) := by decide +kernel
theorem dX12_finds_24 : decode cX12_finds 24 = .ok (.getfield 16, 3) := by decide +kernel
theorem dX12_finds_27 : decode cX12_finds 27 = .ok (.invokevirtual 148, 3) := by decide +kernel
theorem dX12_finds_30 : decode cX12_finds 30 = .ok (.aload_n 0, 1) := by decide +kernel
theorem dX12_finds_31 : decode cX12_finds 31 = .ok (.getfield 79, 3) := by decide +kernel
theorem dX12_finds_34 : decode cX12_finds 34 = .ok (.aload_n 0, 1) := by decide +kernel
theorem dX12_finds_35 : decode cX12_finds 35 = .ok (.iconst 0, 1) := by decide +kernel
theorem dX12_finds_36 : decode cX12_finds 36 = .ok (.sipush 2000, 3) := by decide +kernel
theorem dX12_finds_39 : decode cX12_finds 39 = .ok (.invokevirtual 197, 3) := by decide +kernel
theorem dX12_finds_42 : decode cX12_finds 42 = .ok (.iconst 0, 1) := by decide +kernel
theorem dX12_finds_43 : decode cX12_finds 43 = .ok (.iastore, 1) := by decide +kernel
theorem dX12_finds_44 : decode cX12_finds 44 = .ok (.iconst (-1), 1) := by decide +kernel
theorem dX12_finds_45 : decode cX12_finds 45 = .ok (.istore_n 1, 1) := by decide +kernel
theorem dX12_finds_46 : decode cX12_finds 46 = .ok (.iconst 0, 1) := by decide +kernel
theorem dX12_finds_47 : decode cX12_finds 47 = .ok (.istore_n 2, 1) := by decide +kernel
theorem dX12_finds_48 : decode cX12_finds 48 = .ok (.iload_n 2, 1) := by decide +kernel
theorem dX12_finds_49 : decode cX12_finds 49 = .ok (.aload_n 0, 1) := by decide +kernel
theorem dX12_finds_50 : decode cX12_finds 50 = .ok (.getfield 58, 3) := by decide +kernel
theorem dX12_finds_53 : decode cX12_finds 53 = .ok (.iconst 0, 1) := by decide +kernel
theorem dX12_finds_54 : decode cX12_finds 54 = .ok (.iaload, 1) := by decide +kernel
theorem dX12_finds_55 : decode cX12_finds 55 = .ok (.if_icmp .ge 20, 3) := by decide +kernel
theorem dX12_finds_58 : decode cX12_finds 58 = .ok (.iload_n 1, 1) := by decide +kernel
theorem dX12_finds_59 : decode cX12_finds 59 = .ok (.iconst (-1), 1) := by decide +kernel
theorem dX12_finds_60 : decode cX12_finds 60 = .ok (.if_icmp .ne 15, 3) := by decide +kernel
theorem dX12_finds_63 : decode cX12_finds 63 = .ok (.aload_n 0, 1) := by decide +kernel
theorem dX12_finds_64 : decode cX12_finds 64 = .ok (.iload_n 2, 1) := by decide +kernel
theorem dX12_finds_65 : decode cX12_finds 65 = .ok (.invokevirtual 237, 3) := by decide +kernel
theorem dX12_finds_68 : decode cX12_finds 68 = .ok (.istore_n 1, 1) := by decide +kernel
theorem dX12_finds_69 : decode cX12_finds 69 = .ok (.iinc 2 1, 3) := by decide +kernel
theorem dX12_finds_72 : decode cX12_finds 72 = .ok (.goto (-24), 3) := by decide +kernel
theorem dX12_finds_75 : decode cX12_finds 75 = .ok (.aload_n 0, 1) := by decide +kernel
theorem dX12_finds_76 : decode cX12_finds 76 = .ok (.aload_n 0, 1) := by decide +kernel
theorem dX12_finds_77 : decode cX12_finds 77 = .ok (.getfield 16, 3) := by decide +kernel
theorem dX12_finds_80 : decode cX12_finds 80 = .ok (.aload_n 0, 1) := by decide +kernel
theorem dX12_finds_81 : decode cX12_finds 81 = .ok (.getfield 7, 3) := by decide +kernel
theorem dX12_finds_84 : decode cX12_finds 84 = .ok (.invokevirtual 148, 3) := by decide +kernel
theorem dX12_finds_87 : decode cX12_finds 87 = .ok (.iload_n 1, 1) := by decide +kernel
theorem dX12_finds_88 : decode cX12_finds 88 = .ok (.ireturn, 1) := by decide +kernel
theorem dX12_findsBehind_0 : decode cX12_findsBehind 0 = .ok (.iconst 0, 1) := by decide +kernel
theorem dX12_findsBehind_1 : decode cX12_findsBehind 1 = .ok (.istore_n 2, 1) := by decide +kernel
theorem dX12_findsBehind_2 : decode cX12_findsBehind 2 = .ok (.iload_n 2, 1) := by decide +kernel
theorem dX12_findsBehind_3 : decode cX12_findsBehind 3 = .ok (.aload_n 0, 1) := by decide +kernel
theorem dX12_findsBehind_4 : decode cX12_findsBehind 4 = .ok (.getfield 19, 3) := by decide +kernel
theorem dX12_findsBehind_7 : decode cX12_findsBehind 7 = .ok (.if_icmp .ge 169, 3) := by decide +kernel
theorem dX12_findsBehind_10 : decode cX12_findsBehind 10 = .ok (.iconst 0, 1) := by decide +kernel
theorem dX12_findsBehind_11 : decode cX12_findsBehind 11 = .ok (.istore_n 3, 1) := by decide +kernel
theorem dX12_findsBehind_12 : decode cX12_findsBehind 12 = .ok (.iload_n 3, 1) := by decide +kernel
theorem dX12_findsBehind_13 : decode cX12_findsBehind 13 = .ok (.iconst 1, 1) := by decide +kernel
theorem dX12_findsBehind_14 : decode cX12_findsBehind 14 = .ok (.aload_n 0, 1) := by decide +kernel
theorem dX12_findsBehind_15 : decode cX12_findsBehind 15 = .ok (.getfield 19, 3) := by decide +kernel
theorem dX12_findsBehind_18 : decode cX12_findsBehind 18 = .ok (.ishl, 1) := by decide +kernel
theorem dX12_findsBehind_19 : decode cX12_findsBehind 19 = .ok (.if_icmp .ge 151, 3) := by decide +kernel
theorem dX12_findsBehind_22 : decode cX12_findsBehind 22 = .ok (.aload_n 0, 1) := by decide +kernel
theorem dX12_findsBehind_23 : decode cX12_findsBehind 23 = .ok (.iload_n 2, 1) := by decide +kernel
theorem dX12_findsBehind_24 : decode cX12_findsBehind 24 = .ok (.iload_n 3, 1) := by decide +kernel
theorem dX12_findsBehind_25 : decode cX12_findsBehind 25 = .ok (.invokevirtual 139, 3) := by decide +kernel
theorem dX12_findsBehind_28 : decode cX12_findsBehind 28 = .ok (.ifCond .ne 6, 3) := by decide +kernel
theorem dX12_findsBehind_31 : decode cX12_findsBehind 31 = .ok (.goto 133, 3) := by decide +kernel
theorem dX12_findsBehind_34 : decode cX12_findsBehind 34 = .ok (.aload_n 0, 1) := by decide +kernel
theorem dX12_findsBehind_35 : decode cX12_findsBehind 35 = .ok (.iconst 0, 1) := by decide +kernel
theorem dX12_findsBehind_36 : decode cX12_findsBehind 36 = .ok (.iload_n 1, 1) := by decide +kernel
theorem dX12_findsBehind_37 : decode cX12_findsBehind 37 = .ok (.invokevirtual 203, 3) := by decide +kernel
theorem dX12_findsBehind_40 : decode cX12_findsBehind 40 = .ok (.aload_n 0, 1) := by decide +kernel
theorem dX12_findsBehind_41 : decode cX12_findsBehind 41 = .ok (.iload_n 2, 1) := by decide +kernel
theorem dX12_findsBehind_42 : decode cX12_findsBehind 42 = .ok (.invokevirtual 142, 3) := by decide +kernel
theorem dX12_findsBehind_45 : decode cX12_findsBehind 45 = .ok (.ifCond .ne 6, 3) := by decide +kernel
theorem dX12_findsBehind_48 : decode cX12_findsBehind 48 = .ok (.goto 122, 3) := by decide +kernel
theorem dX12_findsBehind_51 : decode cX12_findsBehind 51 = .ok (.aload_n 0, 1) := by decide +kernel
theorem dX12_findsBehind_52 : decode cX12_findsBehind 52 = .ok (.iload_n 2, 1) := by decide +kernel
theorem dX12_findsBehind_53 : decode cX12_findsBehind 53 = .ok (.iload_n 3, 1) := by decide +kernel
theorem dX12_findsBehind_54 : decode cX12_findsBehind 54 = .ok (.invokevirtual 145, 3) := by decide +kernel
theorem dX12_findsBehind_57 : decode cX12_findsBehind 57 = .ok (.pop, 1) := by decide +kernel
theorem dX12_findsBehind_58 : decode cX12_findsBehind 58 = .ok (.aload_n 0, 1) := by decide +kernel
theorem dX12_findsBehind_59 : decode cX12_findsBehind 59 = .ok (.invokevirtual 211, 3) := by decide +kernel
theorem dX12_findsBehind_62 : decode cX12_findsBehind 62 = .ok (.ifCond .eq 27, 3) := by decide +kernel
theorem dX12_findsBehind_65 : decode cX12_findsBehind 65 = .ok (.aload_n 0, 1) := by decide +kernel
theorem dX12_findsBehind_66 : decode cX12_findsBehind 66 = .ok (.iload_n 1, 1) := by decide +kernel
theorem dX12_findsBehind_67 : decode cX12_findsBehind 67 = .ok (.putfield 240, 3) := by decide +kernel
theorem dX12_findsBehind_70 : decode cX12_findsBehind 70 = .ok (.aload_n 0, 1) := by decide +kernel
theorem dX12_findsBehind_71 : decode cX12_findsBehind 71 = .ok (.iload_n 2, 1) := by decide +kernel
theorem dX12_findsBehind_72 : decode cX12_findsBehind 72 = .ok (.putfield 243, 3) := by decide +kernel
theorem dX12_findsBehind_75 : decode cX12_findsBehind 75 = .ok (.aload_n 0, 1) := by decide +kernel
theorem dX12_findsBehind_76 : decode cX12_findsBehind 76 = .ok (.iload_n 3, 1) := by decide +kernel
theorem dX12_findsBehind_77 : decode cX12_findsBehind 77 = .ok (.putfield 246, 3) := by decide +kernel
theorem dX12_findsBehind_80 : decode cX12_findsBehind 80 = .ok (.aload_n 0, 1) := by decide +kernel
theorem dX12_findsBehind_81 : decode cX12_findsBehind 81 = .ok (.getfield 79, 3) := by decide +kernel
theorem dX12_findsBehind_84 : decode cX12_findsBehind 84 = .ok (.iload_n 1, 1) := by decide +kernel
theorem dX12_findsBehind_85 : decode cX12_findsBehind 85 = .ok (.iaload, 1) := by decide +kernel
theorem dX12_findsBehind_86 : decode cX12_findsBehind 86 = .ok (.iconst 1, 1) := by decide +kernel
theorem dX12_findsBehind_87 : decode cX12_findsBehind 87 = .ok (.iadd, 1) := by decide +kernel
theorem dX12_findsBehind_88 : decode cX12_findsBehind 88 = .ok (.ireturn, 1) := by decide +kernel
theorem dX12_findsBehind_89 : decode cX12_findsBehind 89 = .ok (.aload_n 0, 1) := by decide +kernel
theorem dX12_findsBehind_90 : decode cX12_findsBehind 90 = .ok (.getfield 58, 3) := by decide +kernel
theorem dX12_findsBehind_93 : decode cX12_findsBehind 93 = .ok (.iconst 0, 1) := by decide +kernel
theorem dX12_findsBehind_94 : decode cX12_findsBehind 94 = .ok (.iaload, 1) := by decide +kernel
theorem dX12_findsBehind_95 : decode cX12_findsBehind 95 = .ok (.istore 4, 2) := by decide +kernel
theorem dX12_findsBehind_97 : decode cX12_findsBehind 97 = .ok (.aload_n 0, 1) := by decide +kernel
theorem dX12_findsBehind_98 : decode cX12_findsBehind 98 = .ok (.iconst 0, 1) := by decide +kernel
theorem dX12_findsBehind_99 : decode cX12_findsBehind 99 = .ok (.sipush 2000, 3) := by decide +kernel
theorem dX12_findsBehind_102 : decode cX12_findsBehind 102 = .ok (.invokevirtual 197, 3) := by decide +kernel
theorem dX12_findsBehind_105 : decode cX12_findsBehind 105 = .ok (.istore 5, 2) := by decide +kernel
theorem dX12_findsBehind_107 : decode cX12_findsBehind 107 = .ok (.iload 5, 2) := by decide +kernel
theorem dX12_findsBehind_109 : decode cX12_findsBehind 109 = .ok (.ifCond .ge 6, 3) := by decide +kernel
theorem dX12_findsBehind_112 : decode cX12_findsBehind 112 = .ok (.bipush (-3), 2) := by decide +kernel
theorem dX12_findsBehind_114 : decode cX12_findsBehind 114 = .ok (.ireturn, 1) := by decide +kernel
theorem dX12_findsBehind_115 : decode cX12_findsBehind 115 = .ok (.iload 5, 2) := by decide +kernel
theorem dX12_findsBehind_117 : decode cX12_findsBehind 117 = .ok (.iload 4, 2) := by decide +kernel
theorem dX12_findsBehind_119 : decode cX12_findsBehind 119 = .ok (.if_icmp .ge 6, 3) := by decide +kernel
theorem dX12_findsBehind_122 : decode cX12_findsBehind 122 = .ok (.goto 42, 3) := by decide +kernel
theorem dX12_findsBehind_125 : decode cX12_findsBehind 125 = .ok (.aload_n 0, 1) := by decide +kernel
theorem dX12_findsBehind_126 : decode cX12_findsBehind 126 = .ok (.getfield 79, 3) := by decide +kernel
theorem dX12_findsBehind_129 : decode cX12_findsBehind 129 = .ok (.iload 5, 2) := by decide +kernel
theorem dX12_findsBehind_131 : decode cX12_findsBehind 131 = .ok (.aload_n 0, 1) := by decide +kernel
theorem dX12_findsBehind_132 : decode cX12_findsBehind 132 = .ok (.getfield 79, 3) := by decide +kernel
theorem dX12_findsBehind_135 : decode cX12_findsBehind 135 = .ok (.iload_n 1, 1) := by decide +kernel
theorem dX12_findsBehind_136 : decode cX12_findsBehind 136 = .ok (.iaload, 1) := by decide +kernel
theorem dX12_findsBehind_137 : decode cX12_findsBehind 137 = .ok (.iconst 1, 1) := by decide +kernel
theorem dX12_findsBehind_138 : decode cX12_findsBehind 138 = .ok (.iadd, 1) := by decide +kernel
theorem dX12_findsBehind_139 : decode cX12_findsBehind 139 = .ok (.iastore, 1) := by decide +kernel
theorem dX12_findsBehind_140 : decode cX12_findsBehind 140 = .ok (.aload_n 0, 1) := by decide +kernel
theorem dX12_findsBehind_141 : decode cX12_findsBehind 141 = .ok (.getfield 70, 3) := by decide +kernel
theorem dX12_findsBehind_144 : decode cX12_findsBehind 144 = .ok (.iload 5, 2) := by decide +kernel
theorem dX12_findsBehind_146 : decode cX12_findsBehind 146 = .ok (.iload_n 1, 1) := by decide +kernel
theorem dX12_findsBehind_147 : decode cX12_findsBehind 147 = .ok (.iastore, 1) := by decide +kernel
theorem dX12_findsBehind_148 : decode cX12_findsBehind 148 = .ok (.aload_n 0, 1) := by decide +kernel
theorem dX12_findsBehind_149 : decode cX12_findsBehind 149 = .ok (.getfield 73, 3) := by decide +kernel
theorem dX12_findsBehind_152 : decode cX12_findsBehind 152 = .ok (.iload 5, 2) := by decide +kernel
theorem dX12_findsBehind_154 : decode cX12_findsBehind 154 = .ok (.iload_n 2, 1) := by decide +kernel
theorem dX12_findsBehind_155 : decode cX12_findsBehind 155 = .ok (.iastore, 1) := by decide +kernel
theorem dX12_findsBehind_156 : decode cX12_findsBehind 156 = .ok (.aload_n 0, 1) := by decide +kernel
theorem dX12_findsBehind_157 : decode cX12_findsBehind 157 = .ok (.getfield 76, 3) := by decide +kernel
theorem dX12_findsBehind_160 : decode cX12_findsBehind 160 = .ok (.iload 5, 2) := by decide +kernel
theorem dX12_findsBehind_162 : decode cX12_findsBehind 162 = .ok (.iload_n 3, 1) := by decide +kernel
theorem dX12_findsBehind_163 : decode cX12_findsBehind 163 = .ok (.iastore, 1) := by decide +kernel
theorem dX12_findsBehind_164 : decode cX12_findsBehind 164 = .ok (.iinc 3 1, 3) := by decide +kernel
theorem dX12_findsBehind_167 : decode cX12_findsBehind 167 = .ok (.goto (-155), 3) := by decide +kernel
theorem dX12_findsBehind_170 : decode cX12_findsBehind 170 = .ok (.iinc 2 1, 3) := by decide +kernel
theorem dX12_findsBehind_173 : decode cX12_findsBehind 173 = .ok (.goto (-171), 3) := by decide +kernel
theorem dX12_findsBehind_176 : decode cX12_findsBehind 176 = .ok (.iconst (-1), 1) := by decide +kernel
theorem dX12_findsBehind_177 : decode cX12_findsBehind 177 = .ok (.ireturn, 1) := by decide +kernel
theorem dX12_soonest_0 : decode cX12_soonest 0 = .ok (.aload_n 0, 1) := by decide +kernel
theorem dX12_soonest_1 : decode cX12_soonest 1 = .ok (.iconst 0, 1) := by decide +kernel
theorem dX12_soonest_2 : decode cX12_soonest 2 = .ok (.putfield 97, 3) := by decide +kernel
theorem dX12_soonest_5 : decode cX12_soonest 5 = .ok (.aload_n 0, 1) := by decide +kernel
theorem dX12_soonest_6 : decode cX12_soonest 6 = .ok (.invokevirtual 249, 3) := by decide +kernel
theorem dX12_soonest_9 : decode cX12_soonest 9 = .ok (.ireturn, 1) := by decide +kernel
theorem dX12_way_0 : decode cX12_way 0 = .ok (.aload_n 0, 1) := by decide +kernel
theorem dX12_way_1 : decode cX12_way 1 = .ok (.iconst 0, 1) := by decide +kernel
theorem dX12_way_2 : decode cX12_way 2 = .ok (.putfield 97, 3) := by decide +kernel
theorem dX12_way_5 : decode cX12_way 5 = .ok (.aload_n 0, 1) := by decide +kernel
theorem dX12_way_6 : decode cX12_way 6 = .ok (.invokevirtual 249, 3) := by decide +kernel
theorem dX12_way_9 : decode cX12_way 9 = .ok (.istore_n 3, 1) := by decide +kernel
theorem dX12_way_10 : decode cX12_way 10 = .ok (.iload_n 3, 1) := by decide +kernel
theorem dX12_way_11 : decode cX12_way 11 = .ok (.bipush (-3), 2) := by decide +kernel
theorem dX12_way_13 : decode cX12_way 13 = .ok (.if_icmp .ne 6, 3) := by decide +kernel
theorem dX12_way_16 : decode cX12_way 16 = .ok (.bipush (-3), 2) := by decide +kernel
theorem dX12_way_18 : decode cX12_way 18 = .ok (.ireturn, 1) := by decide +kernel
theorem dX12_way_19 : decode cX12_way 19 = .ok (.iload_n 2, 1) := by decide +kernel
theorem dX12_way_20 : decode cX12_way 20 = .ok (.iconst 0, 1) := by decide +kernel
theorem dX12_way_21 : decode cX12_way 21 = .ok (.iconst 1, 1) := by decide +kernel
theorem dX12_way_22 : decode cX12_way 22 = .ok (.invokestatic 116, 3) := by decide +kernel
theorem dX12_way_25 : decode cX12_way 25 = .ok (.ifCond .eq 14, 3) := by decide +kernel
theorem dX12_way_28 : decode cX12_way 28 = .ok (.iload_n 1, 1) := by decide +kernel
theorem dX12_way_29 : decode cX12_way 29 = .ok (.iconst 0, 1) := by decide +kernel
theorem dX12_way_30 : decode cX12_way 30 = .ok (.iload_n 3, 1) := by decide +kernel
theorem dX12_way_31 : decode cX12_way 31 = .ok (.iconst 1, 1) := by decide +kernel
theorem dX12_way_32 : decode cX12_way 32 = .ok (.isub, 1) := by decide +kernel
theorem dX12_way_33 : decode cX12_way 33 = .ok (.invokestatic 116, 3) := by decide +kernel
theorem dX12_way_36 : decode cX12_way 36 = .ok (.ifCond .ne 6, 3) := by decide +kernel
theorem dX12_way_39 : decode cX12_way 39 = .ok (.bipush (-2), 2) := by decide +kernel
theorem dX12_way_41 : decode cX12_way 41 = .ok (.ireturn, 1) := by decide +kernel
theorem dX12_way_42 : decode cX12_way 42 = .ok (.aload_n 0, 1) := by decide +kernel
theorem dX12_way_43 : decode cX12_way 43 = .ok (.getfield 243, 3) := by decide +kernel
theorem dX12_way_46 : decode cX12_way 46 = .ok (.istore 4, 2) := by decide +kernel
theorem dX12_way_48 : decode cX12_way 48 = .ok (.aload_n 0, 1) := by decide +kernel
theorem dX12_way_49 : decode cX12_way 49 = .ok (.getfield 246, 3) := by decide +kernel
theorem dX12_way_52 : decode cX12_way 52 = .ok (.istore 5, 2) := by decide +kernel
theorem dX12_way_54 : decode cX12_way 54 = .ok (.aload_n 0, 1) := by decide +kernel
theorem dX12_way_55 : decode cX12_way 55 = .ok (.getfield 240, 3) := by decide +kernel
theorem dX12_way_58 : decode cX12_way 58 = .ok (.istore 6, 2) := by decide +kernel
theorem dX12_way_60 : decode cX12_way 60 = .ok (.iload_n 3, 1) := by decide +kernel
theorem dX12_way_61 : decode cX12_way 61 = .ok (.iconst 1, 1) := by decide +kernel
theorem dX12_way_62 : decode cX12_way 62 = .ok (.isub, 1) := by decide +kernel
theorem dX12_way_63 : decode cX12_way 63 = .ok (.istore 7, 2) := by decide +kernel
theorem dX12_way_65 : decode cX12_way 65 = .ok (.iload 7, 2) := by decide +kernel
theorem dX12_way_67 : decode cX12_way 67 = .ok (.iload_n 1, 1) := by decide +kernel
theorem dX12_way_68 : decode cX12_way 68 = .ok (.if_icmp .le 36, 3) := by decide +kernel
theorem dX12_way_71 : decode cX12_way 71 = .ok (.aload_n 0, 1) := by decide +kernel
theorem dX12_way_72 : decode cX12_way 72 = .ok (.getfield 73, 3) := by decide +kernel
theorem dX12_way_75 : decode cX12_way 75 = .ok (.iload 6, 2) := by decide +kernel
theorem dX12_way_77 : decode cX12_way 77 = .ok (.iaload, 1) := by decide +kernel
theorem dX12_way_78 : decode cX12_way 78 = .ok (.istore 4, 2) := by decide +kernel
theorem dX12_way_80 : decode cX12_way 80 = .ok (.aload_n 0, 1) := by decide +kernel
theorem dX12_way_81 : decode cX12_way 81 = .ok (.getfield 76, 3) := by decide +kernel
theorem dX12_way_84 : decode cX12_way 84 = .ok (.iload 6, 2) := by decide +kernel
theorem dX12_way_86 : decode cX12_way 86 = .ok (.iaload, 1) := by decide +kernel
theorem dX12_way_87 : decode cX12_way 87 = .ok (.istore 5, 2) := by decide +kernel
theorem dX12_way_89 : decode cX12_way 89 = .ok (.aload_n 0, 1) := by decide +kernel
theorem dX12_way_90 : decode cX12_way 90 = .ok (.getfield 70, 3) := by decide +kernel
theorem dX12_way_93 : decode cX12_way 93 = .ok (.iload 6, 2) := by decide +kernel
theorem dX12_way_95 : decode cX12_way 95 = .ok (.iaload, 1) := by decide +kernel
theorem dX12_way_96 : decode cX12_way 96 = .ok (.istore 6, 2) := by decide +kernel
theorem dX12_way_98 : decode cX12_way 98 = .ok (.iinc 7 (-1), 3) := by decide +kernel
theorem dX12_way_101 : decode cX12_way 101 = .ok (.goto (-36), 3) := by decide +kernel
theorem dX12_way_104 : decode cX12_way 104 = .ok (.iload_n 2, 1) := by decide +kernel
theorem dX12_way_105 : decode cX12_way 105 = .ok (.ifCond .ne 8, 3) := by decide +kernel
theorem dX12_way_108 : decode cX12_way 108 = .ok (.iload 4, 2) := by decide +kernel
theorem dX12_way_110 : decode cX12_way 110 = .ok (.goto 5, 3) := by decide +kernel
theorem dX12_way_113 : decode cX12_way 113 = .ok (.iload 5, 2) := by decide +kernel
theorem dX12_way_115 : decode cX12_way 115 = .ok (.ireturn, 1) := by decide +kernel
theorem dX12_times_0 : decode cX12_times 0 = .ok (.lload_n 1, 1) := by decide +kernel
theorem dX12_times_1 : decode cX12_times 1 = .ok (.lconst 0, 1) := by decide +kernel
theorem dX12_times_2 : decode cX12_times 2 = .ok (.lcmp, 1) := by decide +kernel
theorem dX12_times_3 : decode cX12_times 3 = .ok (.ifCond .eq 9, 3) := by decide +kernel
theorem dX12_times_6 : decode cX12_times 6 = .ok (.lload_n 3, 1) := by decide +kernel
theorem dX12_times_7 : decode cX12_times 7 = .ok (.lconst 0, 1) := by decide +kernel
theorem dX12_times_8 : decode cX12_times 8 = .ok (.lcmp, 1) := by decide +kernel
theorem dX12_times_9 : decode cX12_times 9 = .ok (.ifCond .ne 5, 3) := by decide +kernel
theorem dX12_times_12 : decode cX12_times 12 = .ok (.lconst 0, 1) := by decide +kernel
theorem dX12_times_13 : decode cX12_times 13 = .ok (.lreturn, 1) := by decide +kernel
theorem dX12_times_14 : decode cX12_times 14 = .ok (.lload_n 1, 1) := by decide +kernel
theorem dX12_times_15 : decode cX12_times 15 = .ok (.lload_n 3, 1) := by decide +kernel
theorem dX12_times_16 : decode cX12_times 16 = .ok (.lmul, 1) := by decide +kernel
theorem dX12_times_17 : decode cX12_times 17 = .ok (.lstore 5, 2) := by decide +kernel
theorem dX12_times_19 : decode cX12_times 19 = .ok (.lload 5, 2) := by decide +kernel
theorem dX12_times_21 : decode cX12_times 21 = .ok (.lload_n 3, 1) := by decide +kernel
theorem dX12_times_22 : decode cX12_times 22 = .ok (.ldiv, 1) := by decide +kernel
theorem dX12_times_23 : decode cX12_times 23 = .ok (.lload_n 1, 1) := by decide +kernel
theorem dX12_times_24 : decode cX12_times 24 = .ok (.lcmp, 1) := by decide +kernel
theorem dX12_times_25 : decode cX12_times 25 = .ok (.ifCond .eq 8, 3) := by decide +kernel
theorem dX12_times_28 : decode cX12_times 28 = .ok (.aload_n 0, 1) := by decide +kernel
theorem dX12_times_29 : decode cX12_times 29 = .ok (.iconst 1, 1) := by decide +kernel
theorem dX12_times_30 : decode cX12_times 30 = .ok (.putfield 252, 3) := by decide +kernel
theorem dX12_times_33 : decode cX12_times 33 = .ok (.lload 5, 2) := by decide +kernel
theorem dX12_times_35 : decode cX12_times 35 = .ok (.lreturn, 1) := by decide +kernel
theorem dX12_plus_0 : decode cX12_plus 0 = .ok (.lload_n 1, 1) := by decide +kernel
theorem dX12_plus_1 : decode cX12_plus 1 = .ok (.lload_n 3, 1) := by decide +kernel
theorem dX12_plus_2 : decode cX12_plus 2 = .ok (.ladd, 1) := by decide +kernel
theorem dX12_plus_3 : decode cX12_plus 3 = .ok (.lstore 5, 2) := by decide +kernel
theorem dX12_plus_5 : decode cX12_plus 5 = .ok (.lload_n 1, 1) := by decide +kernel
theorem dX12_plus_6 : decode cX12_plus 6 = .ok (.lconst 0, 1) := by decide +kernel
theorem dX12_plus_7 : decode cX12_plus 7 = .ok (.lcmp, 1) := by decide +kernel
theorem dX12_plus_8 : decode cX12_plus 8 = .ok (.ifCond .ge 7, 3) := by decide +kernel
theorem dX12_plus_11 : decode cX12_plus 11 = .ok (.iconst 1, 1) := by decide +kernel
theorem dX12_plus_12 : decode cX12_plus 12 = .ok (.goto 4, 3) := by decide +kernel
theorem dX12_plus_15 : decode cX12_plus 15 = .ok (.iconst 0, 1) := by decide +kernel
theorem dX12_plus_16 : decode cX12_plus 16 = .ok (.lload_n 3, 1) := by decide +kernel
theorem dX12_plus_17 : decode cX12_plus 17 = .ok (.lconst 0, 1) := by decide +kernel
theorem dX12_plus_18 : decode cX12_plus 18 = .ok (.lcmp, 1) := by decide +kernel
theorem dX12_plus_19 : decode cX12_plus 19 = .ok (.ifCond .ge 7, 3) := by decide +kernel
theorem dX12_plus_22 : decode cX12_plus 22 = .ok (.iconst 1, 1) := by decide +kernel
