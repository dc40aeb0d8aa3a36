theorem dX12_init_85 : decode cX12_init 85 = .ok (.aload_n 0, 1) := by decide +kernel
theorem dX12_init_86 : decode cX12_init 86 = .ok (.bipush 16, 2) := by decide +kernel
theorem dX12_init_88 : decode cX12_init 88 = .ok (.newarray .int, 2) := by decide +kernel
theorem dX12_init_90 : decode cX12_init 90 = .ok (.putfield 47, 3) := by decide +kernel
theorem dX12_init_93 : decode cX12_init 93 = .ok (.aload_n 0, 1) := by decide +kernel
theorem dX12_init_94 : decode cX12_init 94 = .ok (.bipush 16, 2) := by decide +kernel
theorem dX12_init_96 : decode cX12_init 96 = .ok (.newarray .int, 2) := by decide +kernel
theorem dX12_init_98 : decode cX12_init 98 = .ok (.putfield 50, 3) := by decide +kernel
theorem dX12_init_101 : decode cX12_init 101 = .ok (.aload_n 0, 1) := by decide +kernel
theorem dX12_init_102 : decode cX12_init 102 = .ok (.iconst 2, 1) := by decide +kernel
theorem dX12_init_103 : decode cX12_init 103 = .ok (.anewarray 53, 3) := by decide +kernel
theorem dX12_init_106 : decode cX12_init 106 = .ok (.putfield 54, 3) := by decide +kernel
theorem dX12_init_109 : decode cX12_init 109 = .ok (.aload_n 0, 1) := by decide +kernel
theorem dX12_init_110 : decode cX12_init 110 = .ok (.iconst 2, 1) := by decide +kernel
theorem dX12_init_111 : decode cX12_init 111 = .ok (.newarray .int, 2) := by decide +kernel
theorem dX12_init_113 : decode cX12_init 113 = .ok (.putfield 58, 3) := by decide +kernel
theorem dX12_init_116 : decode cX12_init 116 = .ok (.aload_n 0, 1) := by decide +kernel
theorem dX12_init_117 : decode cX12_init 117 = .ok (.iconst 2, 1) := by decide +kernel
theorem dX12_init_118 : decode cX12_init 118 = .ok (.anewarray 53, 3) := by decide +kernel
theorem dX12_init_121 : decode cX12_init 121 = .ok (.putfield 61, 3) := by decide +kernel
theorem dX12_init_124 : decode cX12_init 124 = .ok (.aload_n 0, 1) := by decide +kernel
theorem dX12_init_125 : decode cX12_init 125 = .ok (.iconst 2, 1) := by decide +kernel
theorem dX12_init_126 : decode cX12_init 126 = .ok (.anewarray 64, 3) := by decide +kernel
theorem dX12_init_129 : decode cX12_init 129 = .ok (.putfield 66, 3) := by decide +kernel
theorem dX12_init_132 : decode cX12_init 132 = .ok (.aload_n 0, 1) := by decide +kernel
theorem dX12_init_133 : decode cX12_init 133 = .ok (.sipush 2001, 3) := by decide +kernel
theorem dX12_init_136 : decode cX12_init 136 = .ok (.newarray .int, 2) := by decide +kernel
theorem dX12_init_138 : decode cX12_init 138 = .ok (.putfield 70, 3) := by decide +kernel
theorem dX12_init_141 : decode cX12_init 141 = .ok (.aload_n 0, 1) := by decide +kernel
theorem dX12_init_142 : decode cX12_init 142 = .ok (.sipush 2001, 3) := by decide +kernel
theorem dX12_init_145 : decode cX12_init 145 = .ok (.newarray .int, 2) := by decide +kernel
theorem dX12_init_147 : decode cX12_init 147 = .ok (.putfield 73, 3) := by decide +kernel
theorem dX12_init_150 : decode cX12_init 150 = .ok (.aload_n 0, 1) := by decide +kernel
theorem dX12_init_151 : decode cX12_init 151 = .ok (.sipush 2001, 3) := by decide +kernel
theorem dX12_init_154 : decode cX12_init 154 = .ok (.newarray .int, 2) := by decide +kernel
theorem dX12_init_156 : decode cX12_init 156 = .ok (.putfield 76, 3) := by decide +kernel
theorem dX12_init_159 : decode cX12_init 159 = .ok (.aload_n 0, 1) := by decide +kernel
theorem dX12_init_160 : decode cX12_init 160 = .ok (.sipush 2001, 3) := by decide +kernel
theorem dX12_init_163 : decode cX12_init 163 = .ok (.newarray .int, 2) := by decide +kernel
theorem dX12_init_165 : decode cX12_init 165 = .ok (.putfield 79, 3) := by decide +kernel
theorem dX12_init_168 : decode cX12_init 168 = .ok (.aload_n 0, 1) := by decide +kernel
theorem dX12_init_169 : decode cX12_init 169 = .ok (.bipush 9, 2) := by decide +kernel
theorem dX12_init_171 : decode cX12_init 171 = .ok (.newarray .long, 2) := by decide +kernel
theorem dX12_init_173 : decode cX12_init 173 = .ok (.putfield 82, 3) := by decide +kernel
theorem dX12_init_176 : decode cX12_init 176 = .ok (.aload_n 0, 1) := by decide +kernel
theorem dX12_init_177 : decode cX12_init 177 = .ok (.bipush 9, 2) := by decide +kernel
theorem dX12_init_179 : decode cX12_init 179 = .ok (.newarray .long, 2) := by decide +kernel
theorem dX12_init_181 : decode cX12_init 181 = .ok (.putfield 85, 3) := by decide +kernel
theorem dX12_init_184 : decode cX12_init 184 = .ok (.aload_n 0, 1) := by decide +kernel
theorem dX12_init_185 : decode cX12_init 185 = .ok (.bipush 9, 2) := by decide +kernel
theorem dX12_init_187 : decode cX12_init 187 = .ok (.newarray .long, 2) := by decide +kernel
theorem dX12_init_189 : decode cX12_init 189 = .ok (.putfield 88, 3) := by decide +kernel
theorem dX12_init_192 : decode cX12_init 192 = .ok (.aload_n 0, 1) := by decide +kernel
theorem dX12_init_193 : decode cX12_init 193 = .ok (.bipush 9, 2) := by decide +kernel
theorem dX12_init_195 : decode cX12_init 195 = .ok (.newarray .long, 2) := by decide +kernel
theorem dX12_init_197 : decode cX12_init 197 = .ok (.putfield 91, 3) := by decide +kernel
theorem dX12_init_200 : decode cX12_init 200 = .ok (.aload_n 0, 1) := by decide +kernel
theorem dX12_init_201 : decode cX12_init 201 = .ok (.invokevirtual 94, 3) := by decide +kernel
theorem dX12_init_204 : decode cX12_init 204 = .ok (.return_, 1) := by decide +kernel
theorem dX12_thrown_0 : decode cX12_thrown 0 = .ok (.aload_n 0, 1) := by decide +kernel
theorem dX12_thrown_1 : decode cX12_thrown 1 = .ok (.getfield 97, 3) := by decide +kernel
theorem dX12_thrown_4 : decode cX12_thrown 4 = .ok (.ireturn, 1) := by decide +kernel
theorem dX12_within_0 : decode cX12_within 0 = .ok (.iload_n 0, 1) := by decide +kernel
theorem dX12_within_1 : decode cX12_within 1 = .ok (.iload_n 1, 1) := by decide +kernel
theorem dX12_within_2 : decode cX12_within 2 = .ok (.if_icmp .lt 12, 3) := by decide +kernel
theorem dX12_within_5 : decode cX12_within 5 = .ok (.iload_n 0, 1) := by decide +kernel
theorem dX12_within_6 : decode cX12_within 6 = .ok (.iload_n 2, 1) := by decide +kernel
theorem dX12_within_7 : decode cX12_within 7 = .ok (.if_icmp .gt 7, 3) := by decide +kernel
theorem dX12_within_10 : decode cX12_within 10 = .ok (.iconst 1, 1) := by decide +kernel
theorem dX12_within_11 : decode cX12_within 11 = .ok (.goto 4, 3) := by decide +kernel
theorem dX12_within_14 : decode cX12_within 14 = .ok (.iconst 0, 1) := by decide +kernel
theorem dX12_within_15 : decode cX12_within 15 = .ok (.ireturn, 1) := by decide +kernel
theorem dX12_has_0 : decode cX12_has 0 = .ok (.iload_n 0, 1) := by decide +kernel
theorem dX12_has_1 : decode cX12_has 1 = .ok (.iload_n 1, 1) := by decide +kernel
theorem dX12_has_2 : decode cX12_has 2 = .ok (.ishr, 1) := by decide +kernel
theorem dX12_has_3 : decode cX12_has 3 = .ok (.iconst 1, 1) := by decide +kernel
theorem dX12_has_4 : decode cX12_has 4 = .ok (.iand, 1) := by decide +kernel
theorem dX12_has_5 : decode cX12_has 5 = .ok (.iconst 1, 1) := by decide +kernel
theorem dX12_has_6 : decode cX12_has 6 = .ok (.if_icmp .ne 7, 3) := by decide +kernel
theorem dX12_has_9 : decode cX12_has 9 = .ok (.iconst 1, 1) := by decide +kernel
theorem dX12_has_10 : decode cX12_has 10 = .ok (.goto 4, 3) := by decide +kernel
theorem dX12_has_13 : decode cX12_has 13 = .ok (.iconst 0, 1) := by decide +kernel
theorem dX12_has_14 : decode cX12_has 14 = .ok (.ireturn, 1) := by decide +kernel
set_option maxRecDepth 20000 in
theorem ggX12_many_X12_has : GoodIn wsX12_many wsX12_has := goodIn_r _ [4] (by decide +kernel) (by decide +kernel)
set_option maxRecDepth 20000 in
theorem gX12_many_X12_has : GoodIn wsX12_many (va_wsS RX12 100 yX12_has wsX12_has) := goodIn_app (goodIn_of _ (by decide +kernel)) ggX12_many_X12_has
theorem dX12_many_0 : decode cX12_many 0 = .ok (.iconst 0, 1) := by decide +kernel
theorem dX12_many_1 : decode cX12_many 1 = .ok (.istore_n 1, 1) := by decide +kernel
theorem dX12_many_2 : decode cX12_many 2 = .ok (.iconst 0, 1) := by decide +kernel
theorem dX12_many_3 : decode cX12_many 3 = .ok (.istore_n 2, 1) := by decide +kernel
theorem dX12_many_4 : decode cX12_many 4 = .ok (.iload_n 2, 1) := by decide +kernel
theorem dX12_many_5 : decode cX12_many 5 = .ok (.bipush 16, 2) := by decide +kernel
theorem dX12_many_7 : decode cX12_many 7 = .ok (.if_icmp .ge 20, 3) := by decide +kernel
theorem dX12_many_10 : decode cX12_many 10 = .ok (.iload_n 0, 1) := by decide +kernel
theorem dX12_many_11 : decode cX12_many 11 = .ok (.iload_n 2, 1) := by decide +kernel
theorem dX12_many_12 : decode cX12_many 12 = .ok (.invokestatic 100, 3) := by decide +kernel
theorem dX12_many_15 : decode cX12_many 15 = .ok (.ifCond .eq 6, 3) := by decide +kernel
theorem dX12_many_18 : decode cX12_many 18 = .ok (.iinc 1 1, 3) := by decide +kernel
theorem dX12_many_21 : decode cX12_many 21 = .ok (.iinc 2 1, 3) := by decide +kernel
theorem dX12_many_24 : decode cX12_many 24 = .ok (.goto (-20), 3) := by decide +kernel
theorem dX12_many_27 : decode cX12_many 27 = .ok (.iload_n 1, 1) := by decide +kernel
theorem dX12_many_28 : decode cX12_many 28 = .ok (.ireturn, 1) := by decide +kernel
theorem dX12_begins_0 : decode cX12_begins 0 = .ok (.iconst 0, 1) := by decide +kernel
theorem dX12_begins_1 : decode cX12_begins 1 = .ok (.istore_n 1, 1) := by decide +kernel
theorem dX12_begins_2 : decode cX12_begins 2 = .ok (.iload_n 1, 1) := by decide +kernel
theorem dX12_begins_3 : decode cX12_begins 3 = .ok (.sipush 288, 3) := by decide +kernel
theorem dX12_begins_6 : decode cX12_begins 6 = .ok (.if_icmp .ge 16, 3) := by decide +kernel
theorem dX12_begins_9 : decode cX12_begins 9 = .ok (.aload_n 0, 1) := by decide +kernel
theorem dX12_begins_10 : decode cX12_begins 10 = .ok (.getfield 7, 3) := by decide +kernel
theorem dX12_begins_13 : decode cX12_begins 13 = .ok (.iload_n 1, 1) := by decide +kernel
theorem dX12_begins_14 : decode cX12_begins 14 = .ok (.iconst 0, 1) := by decide +kernel
theorem dX12_begins_15 : decode cX12_begins 15 = .ok (.iastore, 1) := by decide +kernel
theorem dX12_begins_16 : decode cX12_begins 16 = .ok (.iinc 1 1, 3) := by decide +kernel
theorem dX12_begins_19 : decode cX12_begins 19 = .ok (.goto (-17), 3) := by decide +kernel
theorem dX12_begins_22 : decode cX12_begins 22 = .ok (.iconst 0, 1) := by decide +kernel
theorem dX12_begins_23 : decode cX12_begins 23 = .ok (.istore_n 1, 1) := by decide +kernel
theorem dX12_begins_24 : decode cX12_begins 24 = .ok (.iload_n 1, 1) := by decide +kernel
theorem dX12_begins_25 : decode cX12_begins 25 = .ok (.bipush 8, 2) := by decide +kernel
theorem dX12_begins_27 : decode cX12_begins 27 = .ok (.if_icmp .ge 92, 3) := by decide +kernel
theorem dX12_begins_30 : decode cX12_begins 30 = .ok (.aload_n 0, 1) := by decide +kernel
theorem dX12_begins_31 : decode cX12_begins 31 = .ok (.getfield 7, 3) := by decide +kernel
theorem dX12_begins_34 : decode cX12_begins 34 = .ok (.iconst 0, 1) := by decide +kernel
theorem dX12_begins_35 : decode cX12_begins 35 = .ok (.iload_n 1, 1) := by decide +kernel
theorem dX12_begins_36 : decode cX12_begins 36 = .ok (.iadd, 1) := by decide +kernel
theorem dX12_begins_37 : decode cX12_begins 37 = .ok (.iconst (-1), 1) := by decide +kernel
theorem dX12_begins_38 : decode cX12_begins 38 = .ok (.iastore, 1) := by decide +kernel
theorem dX12_begins_39 : decode cX12_begins 39 = .ok (.aload_n 0, 1) := by decide +kernel
theorem dX12_begins_40 : decode cX12_begins 40 = .ok (.getfield 7, 3) := by decide +kernel
theorem dX12_begins_43 : decode cX12_begins 43 = .ok (.bipush 8, 2) := by decide +kernel
theorem dX12_begins_45 : decode cX12_begins 45 = .ok (.iload_n 1, 1) := by decide +kernel
theorem dX12_begins_46 : decode cX12_begins 46 = .ok (.iadd, 1) := by decide +kernel
theorem dX12_begins_47 : decode cX12_begins 47 = .ok (.iconst (-1), 1) := by decide +kernel
theorem dX12_begins_48 : decode cX12_begins 48 = .ok (.iastore, 1) := by decide +kernel
theorem dX12_begins_49 : decode cX12_begins 49 = .ok (.aload_n 0, 1) := by decide +kernel
theorem dX12_begins_50 : decode cX12_begins 50 = .ok (.getfield 7, 3) := by decide +kernel
theorem dX12_begins_53 : decode cX12_begins 53 = .ok (.bipush 56, 2) := by decide +kernel
theorem dX12_begins_55 : decode cX12_begins 55 = .ok (.iload_n 1, 1) := by decide +kernel
theorem dX12_begins_56 : decode cX12_begins 56 = .ok (.iadd, 1) := by decide +kernel
theorem dX12_begins_57 : decode cX12_begins 57 = .ok (.sipush 255, 3) := by decide +kernel
theorem dX12_begins_60 : decode cX12_begins 60 = .ok (.iastore, 1) := by decide +kernel
theorem dX12_begins_61 : decode cX12_begins 61 = .ok (.aload_n 0, 1) := by decide +kernel
theorem dX12_begins_62 : decode cX12_begins 62 = .ok (.getfield 38, 3) := by decide +kernel
theorem dX12_begins_65 : decode cX12_begins 65 = .ok (.iload_n 1, 1) := by decide +kernel
theorem dX12_begins_66 : decode cX12_begins 66 = .ok (.iconst 0, 1) := by decide +kernel
theorem dX12_begins_67 : decode cX12_begins 67 = .ok (.iastore, 1) := by decide +kernel
theorem dX12_begins_68 : decode cX12_begins 68 = .ok (.iconst 0, 1) := by decide +kernel
theorem dX12_begins_69 : decode cX12_begins 69 = .ok (.istore_n 2, 1) := by decide +kernel
theorem dX12_begins_70 : decode cX12_begins 70 = .ok (.iload_n 2, 1) := by decide +kernel
theorem dX12_begins_71 : decode cX12_begins 71 = .ok (.bipush 8, 2) := by decide +kernel
theorem dX12_begins_73 : decode cX12_begins 73 = .ok (.if_icmp .ge 40, 3) := by decide +kernel
theorem dX12_begins_76 : decode cX12_begins 76 = .ok (.aload_n 0, 1) := by decide +kernel
theorem dX12_begins_77 : decode cX12_begins 77 = .ok (.getfield 7, 3) := by decide +kernel
theorem dX12_begins_80 : decode cX12_begins 80 = .ok (.bipush 96, 2) := by decide +kernel
theorem dX12_begins_82 : decode cX12_begins 82 = .ok (.bipush 8, 2) := by decide +kernel
theorem dX12_begins_84 : decode cX12_begins 84 = .ok (.iload_n 1, 1) := by decide +kernel
theorem dX12_begins_85 : decode cX12_begins 85 = .ok (.imul, 1) := by decide +kernel
theorem dX12_begins_86 : decode cX12_begins 86 = .ok (.iadd, 1) := by decide +kernel
theorem dX12_begins_87 : decode cX12_begins 87 = .ok (.iload_n 2, 1) := by decide +kernel
theorem dX12_begins_88 : decode cX12_begins 88 = .ok (.iadd, 1) := by decide +kernel
theorem dX12_begins_89 : decode cX12_begins 89 = .ok (.iconst (-1), 1) := by decide +kernel
theorem dX12_begins_90 : decode cX12_begins 90 = .ok (.iastore, 1) := by decide +kernel
theorem dX12_begins_91 : decode cX12_begins 91 = .ok (.aload_n 0, 1) := by decide +kernel
theorem dX12_begins_92 : decode cX12_begins 92 = .ok (.getfield 7, 3) := by decide +kernel
theorem dX12_begins_95 : decode cX12_begins 95 = .ok (.sipush 160, 3) := by decide +kernel
theorem dX12_begins_98 : decode cX12_begins 98 = .ok (.bipush 8, 2) := by decide +kernel
theorem dX12_begins_100 : decode cX12_begins 100 = .ok (.iload_n 1, 1) := by decide +kernel
theorem dX12_begins_101 : decode cX12_begins 101 = .ok (.imul, 1) := by decide +kernel
theorem dX12_begins_102 : decode cX12_begins 102 = .ok (.iadd, 1) := by decide +kernel
theorem dX12_begins_103 : decode cX12_begins 103 = .ok (.iload_n 2, 1) := by decide +kernel
theorem dX12_begins_104 : decode cX12_begins 104 = .ok (.iadd, 1) := by decide +kernel
theorem dX12_begins_105 : decode cX12_begins 105 = .ok (.iconst (-1), 1) := by decide +kernel
theorem dX12_begins_106 : decode cX12_begins 106 = .ok (.iastore, 1) := by decide +kernel
theorem dX12_begins_107 : decode cX12_begins 107 = .ok (.iinc 2 1, 3) := by decide +kernel
theorem dX12_begins_110 : decode cX12_begins 110 = .ok (.goto (-40), 3) := by decide +kernel
theorem dX12_begins_113 : decode cX12_begins 113 = .ok (.iinc 1 1, 3) := by decide +kernel
theorem dX12_begins_116 : decode cX12_begins 116 = .ok (.goto (-92), 3) := by decide +kernel
theorem dX12_begins_119 : decode cX12_begins 119 = .ok (.aload_n 0, 1) := by decide +kernel
theorem dX12_begins_120 : decode cX12_begins 120 = .ok (.iconst 0, 1) := by decide +kernel
theorem dX12_begins_121 : decode cX12_begins 121 = .ok (.putfield 104, 3) := by decide +kernel
theorem dX12_begins_124 : decode cX12_begins 124 = .ok (.aload_n 0, 1) := by decide +kernel
theorem dX12_begins_125 : decode cX12_begins 125 = .ok (.iconst 0, 1) := by decide +kernel
theorem dX12_begins_126 : decode cX12_begins 126 = .ok (.putfield 107, 3) := by decide +kernel
theorem dX12_begins_129 : decode cX12_begins 129 = .ok (.aload_n 0, 1) := by decide +kernel
theorem dX12_begins_130 : decode cX12_begins 130 = .ok (.iconst 0, 1) := by decide +kernel
theorem dX12_begins_131 : decode cX12_begins 131 = .ok (.putfield 110, 3) := by decide +kernel
theorem dX12_begins_134 : decode cX12_begins 134 = .ok (.aload_n 0, 1) := by decide +kernel
theorem dX12_begins_135 : decode cX12_begins 135 = .ok (.iconst 0, 1) := by decide +kernel
theorem dX12_begins_136 : decode cX12_begins 136 = .ok (.putfield 113, 3) := by decide +kernel
theorem dX12_begins_139 : decode cX12_begins 139 = .ok (.return_, 1) := by decide +kernel
set_option maxRecDepth 20000 in
theorem ggX12_group_X12_within : GoodIn wsX12_group wsX12_within := goodIn_r _ [10] (by decide +kernel) (by decide +kernel)
set_option maxRecDepth 20000 in
theorem gX12_group_X12_within : GoodIn wsX12_group (va_wsS RX12 116 yX12_within wsX12_within) := goodIn_app (goodIn_of _ (by decide +kernel)) ggX12_group_X12_within
set_option maxRecDepth 20000 in
theorem ggX12_group_X12_begins : GoodIn wsX12_group wsX12_begins := goodIn_r _ [14, 15, 16, 17, 18, 19, 20, 21, 22, 23, 24, 25, 26, 27, 28, 29, 30, 31, 32, 33, 34, 35, 36, 37, 38, 39, 40, 41, 42, 43, 44, 45, 46, 47, 48, 49, 50, 51, 52, 53, 54, 55, 56, 57, 58] (by decide +kernel) (by decide +kernel)
set_option maxRecDepth 20000 in
theorem gX12_group_X12_begins : GoodIn wsX12_group (wsV RX12 94 RX12 yX12_begins wsX12_begins) := goodIn_app (goodIn_of _ (by decide +kernel)) ggX12_group_X12_begins
theorem dX12_group_0 : decode cX12_group 0 = .ok (.aload_n 0, 1) := by decide +kernel
theorem dX12_group_1 : decode cX12_group 1 = .ok (.iconst 0, 1) := by decide +kernel
theorem dX12_group_2 : decode cX12_group 2 = .ok (.putfield 97, 3) := by decide +kernel
theorem dX12_group_5 : decode cX12_group 5 = .ok (.iload_n 1, 1) := by decide +kernel
theorem dX12_group_6 : decode cX12_group 6 = .ok (.iconst 2, 1) := by decide +kernel
theorem dX12_group_7 : decode cX12_group 7 = .ok (.bipush 8, 2) := by decide +kernel
theorem dX12_group_9 : decode cX12_group 9 = .ok (.invokestatic 116, 3) := by decide +kernel
theorem dX12_group_12 : decode cX12_group 12 = .ok (.ifCond .eq 41, 3) := by decide +kernel
theorem dX12_group_15 : decode cX12_group 15 = .ok (.iload_n 2, 1) := by decide +kernel
theorem dX12_group_16 : decode cX12_group 16 = .ok (.iconst 1, 1) := by decide +kernel
theorem dX12_group_17 : decode cX12_group 17 = .ok (.iload_n 1, 1) := by decide +kernel
theorem dX12_group_18 : decode cX12_group 18 = .ok (.iconst 1, 1) := by decide +kernel
theorem dX12_group_19 : decode cX12_group 19 = .ok (.isub, 1) := by decide +kernel
theorem dX12_group_20 : decode cX12_group 20 = .ok (.invokestatic 116, 3) := by decide +kernel
theorem dX12_group_23 : decode cX12_group 23 = .ok (.ifCond .eq 30, 3) := by decide +kernel
theorem dX12_group_26 : decode cX12_group 26 = .ok (.iload_n 3, 1) := by decide +kernel
theorem dX12_group_27 : decode cX12_group 27 = .ok (.iconst 1, 1) := by decide +kernel
theorem dX12_group_28 : decode cX12_group 28 = .ok (.iload_n 2, 1) := by decide +kernel
theorem dX12_group_29 : decode cX12_group 29 = .ok (.invokestatic 116, 3) := by decide +kernel
theorem dX12_group_32 : decode cX12_group 32 = .ok (.ifCond .eq 21, 3) := by decide +kernel
theorem dX12_group_35 : decode cX12_group 35 = .ok (.iconst 2, 1) := by decide +kernel
theorem dX12_group_36 : decode cX12_group 36 = .ok (.iload_n 3, 1) := by decide +kernel
theorem dX12_group_37 : decode cX12_group 37 = .ok (.imul, 1) := by decide +kernel
theorem dX12_group_38 : decode cX12_group 38 = .ok (.iload_n 2, 1) := by decide +kernel
theorem dX12_group_39 : decode cX12_group 39 = .ok (.if_icmp .le 14, 3) := by decide +kernel
theorem dX12_group_42 : decode cX12_group 42 = .ok (.iload 4, 2) := by decide +kernel
theorem dX12_group_44 : decode cX12_group 44 = .ok (.iconst 1, 1) := by decide +kernel
theorem dX12_group_45 : decode cX12_group 45 = .ok (.bipush 15, 2) := by decide +kernel
theorem dX12_group_47 : decode cX12_group 47 = .ok (.invokestatic 116, 3) := by decide +kernel
theorem dX12_group_50 : decode cX12_group 50 = .ok (.ifCond .ne 5, 3) := by decide +kernel
theorem dX12_group_53 : decode cX12_group 53 = .ok (.iconst 0, 1) := by decide +kernel
theorem dX12_group_54 : decode cX12_group 54 = .ok (.ireturn, 1) := by decide +kernel
theorem dX12_group_55 : decode cX12_group 55 = .ok (.aload_n 0, 1) := by decide +kernel
theorem dX12_group_56 : decode cX12_group 56 = .ok (.iload_n 1, 1) := by decide +kernel
theorem dX12_group_57 : decode cX12_group 57 = .ok (.putfield 19, 3) := by decide +kernel
theorem dX12_group_60 : decode cX12_group 60 = .ok (.aload_n 0, 1) := by decide +kernel
theorem dX12_group_61 : decode cX12_group 61 = .ok (.iload_n 2, 1) := by decide +kernel
theorem dX12_group_62 : decode cX12_group 62 = .ok (.putfield 23, 3) := by decide +kernel
theorem dX12_group_65 : decode cX12_group 65 = .ok (.aload_n 0, 1) := by decide +kernel
theorem dX12_group_66 : decode cX12_group 66 = .ok (.iload_n 3, 1) := by decide +kernel
theorem dX12_group_67 : decode cX12_group 67 = .ok (.putfield 26, 3) := by decide +kernel
theorem dX12_group_70 : decode cX12_group 70 = .ok (.aload_n 0, 1) := by decide +kernel
theorem dX12_group_71 : decode cX12_group 71 = .ok (.iload 4, 2) := by decide +kernel
theorem dX12_group_73 : decode cX12_group 73 = .ok (.putfield 29, 3) := by decide +kernel
theorem dX12_group_76 : decode cX12_group 76 = .ok (.aload_n 0, 1) := by decide +kernel
theorem dX12_group_77 : decode cX12_group 77 = .ok (.getfield 32, 3) := by decide +kernel
theorem dX12_group_80 : decode cX12_group 80 = .ok (.iload 4, 2) := by decide +kernel
theorem dX12_group_82 : decode cX12_group 82 = .ok (.if_icmp .le 9, 3) := by decide +kernel
theorem dX12_group_85 : decode cX12_group 85 = .ok (.aload_n 0, 1) := by decide +kernel
theorem dX12_group_86 : decode cX12_group 86 = .ok (.iload 4, 2) := by decide +kernel
theorem dX12_group_88 : decode cX12_group 88 = .ok (.putfield 32, 3) := by decide +kernel
theorem dX12_group_91 : decode cX12_group 91 = .ok (.aload_n 0, 1) := by decide +kernel
theorem dX12_group_92 : decode cX12_group 92 = .ok (.invokevirtual 94, 3) := by decide +kernel
theorem dX12_group_95 : decode cX12_group 95 = .ok (.iconst 1, 1) := by decide +kernel
theorem dX12_group_96 : decode cX12_group 96 = .ok (.ireturn, 1) := by decide +kernel
set_option maxRecDepth 20000 in
theorem ggX12_protocol_X12_within : GoodIn wsX12_protocol wsX12_within := goodIn_r _ [6] (by decide +kernel) (by decide +kernel)
set_option maxRecDepth 20000 in
theorem gX12_protocol_X12_within : GoodIn wsX12_protocol (va_wsS RX12 116 yX12_within wsX12_within) := goodIn_app (goodIn_of _ (by decide +kernel)) ggX12_protocol_X12_within
theorem dX12_protocol_0 : decode cX12_protocol 0 = .ok (.aload_n 0, 1) := by decide +kernel
theorem dX12_protocol_1 : decode cX12_protocol 1 = .ok (.iconst 0, 1) := by decide +kernel
theorem dX12_protocol_2 : decode cX12_protocol 2 = .ok (.putfield 97, 3) := by decide +kernel
theorem dX12_protocol_5 : decode cX12_protocol 5 = .ok (.iload_n 1, 1) := by decide +kernel
theorem dX12_protocol_6 : decode cX12_protocol 6 = .ok (.iconst 0, 1) := by decide +kernel
theorem dX12_protocol_7 : decode cX12_protocol 7 = .ok (.iconst 2, 1) := by decide +kernel
theorem dX12_protocol_8 : decode cX12_protocol 8 = .ok (.invokestatic 116, 3) := by decide +kernel
theorem dX12_protocol_11 : decode cX12_protocol 11 = .ok (.ifCond .ne 5, 3) := by decide +kernel
theorem dX12_protocol_14 : decode cX12_protocol 14 = .ok (.iconst (-1), 1) := by decide +kernel
theorem dX12_protocol_15 : decode cX12_protocol 15 = .ok (.ireturn, 1) := by decide +kernel
theorem dX12_protocol_16 : decode cX12_protocol 16 = .ok (.aload_n 0, 1) := by decide +kernel
theorem dX12_protocol_17 : decode cX12_protocol 17 = .ok (.getfield 35, 3) := by decide +kernel
theorem dX12_protocol_20 : decode cX12_protocol 20 = .ok (.istore_n 2, 1) := by decide +kernel
theorem dX12_protocol_21 : decode cX12_protocol 21 = .ok (.aload_n 0, 1) := by decide +kernel
theorem dX12_protocol_22 : decode cX12_protocol 22 = .ok (.iload_n 1, 1) := by decide +kernel
theorem dX12_protocol_23 : decode cX12_protocol 23 = .ok (.putfield 35, 3) := by decide +kernel
theorem dX12_protocol_26 : decode cX12_protocol 26 = .ok (.iload_n 2, 1) := by decide +kernel
theorem dX12_protocol_27 : decode cX12_protocol 27 = .ok (.ireturn, 1) := by decide +kernel
set_option maxRecDepth 20000 in
theorem ggX12_early_X12_within : GoodIn wsX12_early wsX12_within := goodIn_r _ [7] (by decide +kernel) (by decide +kernel)
set_option maxRecDepth 20000 in
theorem gX12_early_X12_within : GoodIn wsX12_early (va_wsS RX12 116 yX12_within wsX12_within) := goodIn_app (goodIn_of _ (by decide +kernel)) ggX12_early_X12_within
theorem dX12_early_0 : decode cX12_early 0 = .ok (.aload_n 0, 1) := by decide +kernel
theorem dX12_early_1 : decode cX12_early 1 = .ok (.iconst 0, 1) := by decide +kernel
theorem dX12_early_2 : decode cX12_early 2 = .ok (.putfield 97, 3) := by decide +kernel
theorem dX12_early_5 : decode cX12_early 5 = .ok (.iload_n 1, 1) := by decide +kernel
theorem dX12_early_6 : decode cX12_early 6 = .ok (.iconst 1, 1) := by decide +kernel
theorem dX12_early_7 : decode cX12_early 7 = .ok (.aload_n 0, 1) := by decide +kernel
theorem dX12_early_8 : decode cX12_early 8 = .ok (.getfield 29, 3) := by decide +kernel
theorem dX12_early_11 : decode cX12_early 11 = .ok (.invokestatic 116, 3) := by decide +kernel
theorem dX12_early_14 : decode cX12_early 14 = .ok (.ifCond .ne 5, 3) := by decide +kernel
theorem dX12_early_17 : decode cX12_early 17 = .ok (.iconst (-1), 1) := by decide +kernel
theorem dX12_early_18 : decode cX12_early 18 = .ok (.ireturn, 1) := by decide +kernel
theorem dX12_early_19 : decode cX12_early 19 = .ok (.aload_n 0, 1) := by decide +kernel
theorem dX12_early_20 : decode cX12_early 20 = .ok (.getfield 32, 3) := by decide +kernel
theorem dX12_early_23 : decode cX12_early 23 = .ok (.istore_n 2, 1) := by decide +kernel
theorem dX12_early_24 : decode cX12_early 24 = .ok (.aload_n 0, 1) := by decide +kernel
theorem dX12_early_25 : decode cX12_early 25 = .ok (.iload_n 1, 1) := by decide +kernel
theorem dX12_early_26 : decode cX12_early 26 = .ok (.putfield 32, 3) := by decide +kernel
theorem dX12_early_29 : decode cX12_early 29 = .ok (.iload_n 2, 1) := by decide +kernel
theorem dX12_early_30 : decode cX12_early 30 = .ok (.ireturn, 1) := by decide +kernel
set_option maxRecDepth 20000 in
theorem ggX12_isNode_X12_within : GoodIn wsX12_isNode wsX12_within := goodIn_r _ [5] (by decide +kernel) (by decide +kernel)
set_option maxRecDepth 20000 in
theorem gX12_isNode_X12_within : GoodIn wsX12_isNode (va_wsS RX12 116 yX12_within wsX12_within) := goodIn_app (goodIn_of _ (by decide +kernel)) ggX12_isNode_X12_within
theorem dX12_isNode_0 : decode cX12_isNode 0 = .ok (.iload_n 1, 1) := by decide +kernel
theorem dX12_isNode_1 : decode cX12_isNode 1 = .ok (.iconst 0, 1) := by decide +kernel
theorem dX12_isNode_2 : decode cX12_isNode 2 = .ok (.aload_n 0, 1) := by decide +kernel
theorem dX12_isNode_3 : decode cX12_isNode 3 = .ok (.getfield 19, 3) := by decide +kernel
theorem dX12_isNode_6 : decode cX12_isNode 6 = .ok (.iconst 1, 1) := by decide +kernel
theorem dX12_isNode_7 : decode cX12_isNode 7 = .ok (.isub, 1) := by decide +kernel
theorem dX12_isNode_8 : decode cX12_isNode 8 = .ok (.invokestatic 116, 3) := by decide +kernel
theorem dX12_isNode_11 : decode cX12_isNode 11 = .ok (.ireturn, 1) := by decide +kernel
theorem dX12_keeps_0 : decode cX12_keeps 0 = .ok (.aload_n 0, 1) := by decide +kernel
theorem dX12_keeps_1 : decode cX12_keeps 1 = .ok (.getfield 104, 3) := by decide +kernel
theorem dX12_keeps_4 : decode cX12_keeps 4 = .ok (.bipush 8, 2) := by decide +kernel
theorem dX12_keeps_6 : decode cX12_keeps 6 = .ok (.if_icmp .ne 44, 3) := by decide +kernel
theorem dX12_keeps_9 : decode cX12_keeps 9 = .ok (.iconst 0, 1) := by decide +kernel
theorem dX12_keeps_10 : decode cX12_keeps 10 = .ok (.istore_n 1, 1) := by decide +kernel
theorem dX12_keeps_11 : decode cX12_keeps 11 = .ok (.iload_n 1, 1) := by decide +kernel
theorem dX12_keeps_12 : decode cX12_keeps 12 = .ok (.sipush 2016, 3) := by decide +kernel
theorem dX12_keeps_15 : decode cX12_keeps 15 = .ok (.if_icmp .ge 25, 3) := by decide +kernel
theorem dX12_keeps_18 : decode cX12_keeps 18 = .ok (.aload_n 0, 1) := by decide +kernel
theorem dX12_keeps_19 : decode cX12_keeps 19 = .ok (.getfield 13, 3) := by decide +kernel
theorem dX12_keeps_22 : decode cX12_keeps 22 = .ok (.iload_n 1, 1) := by decide +kernel
theorem dX12_keeps_23 : decode cX12_keeps 23 = .ok (.aload_n 0, 1) := by decide +kernel
theorem dX12_keeps_24 : decode cX12_keeps 24 = .ok (.getfield 13, 3) := by decide +kernel
theorem dX12_keeps_27 : decode cX12_keeps 27 = .ok (.iload_n 1, 1) := by decide +kernel
theorem dX12_keeps_28 : decode cX12_keeps 28 = .ok (.sipush 288, 3) := by decide +kernel
theorem dX12_keeps_31 : decode cX12_keeps 31 = .ok (.iadd, 1) := by decide +kernel
theorem dX12_keeps_32 : decode cX12_keeps 32 = .ok (.iaload, 1) := by decide +kernel
theorem dX12_keeps_33 : decode cX12_keeps 33 = .ok (.iastore, 1) := by decide +kernel
theorem dX12_keeps_34 : decode cX12_keeps 34 = .ok (.iinc 1 1, 3) := by decide +kernel
theorem dX12_keeps_37 : decode cX12_keeps 37 = .ok (.goto (-26), 3) := by decide +kernel
theorem dX12_keeps_40 : decode cX12_keeps 40 = .ok (.aload_n 0, 1) := by decide +kernel
theorem dX12_keeps_41 : decode cX12_keeps 41 = .ok (.dup, 1) := by decide +kernel
theorem dX12_keeps_42 : decode cX12_keeps 42 = .ok (.getfield 104, 3) := by decide +kernel
theorem dX12_keeps_45 : decode cX12_keeps 45 = .ok (.iconst 1, 1) := by decide +kernel
theorem dX12_keeps_46 : decode cX12_keeps 46 = .ok (.isub, 1) := by decide +kernel
theorem dX12_keeps_47 : decode cX12_keeps 47 = .ok (.putfield 104, 3) := by decide +kernel
theorem dX12_keeps_50 : decode cX12_keeps 50 = .ok (.iconst 0, 1) := by decide +kernel
theorem dX12_keeps_51 : decode cX12_keeps 51 = .ok (.istore_n 1, 1) := by decide +kernel
theorem dX12_keeps_52 : decode cX12_keeps 52 = .ok (.iload_n 1, 1) := by decide +kernel
theorem dX12_keeps_53 : decode cX12_keeps 53 = .ok (.sipush 288, 3) := by decide +kernel
theorem dX12_keeps_56 : decode cX12_keeps 56 = .ok (.if_icmp .ge 30, 3) := by decide +kernel
theorem dX12_keeps_59 : decode cX12_keeps 59 = .ok (.aload_n 0, 1) := by decide +kernel
theorem dX12_keeps_60 : decode cX12_keeps 60 = .ok (.getfield 13, 3) := by decide +kernel
theorem dX12_keeps_63 : decode cX12_keeps 63 = .ok (.sipush 288, 3) := by decide +kernel
theorem dX12_keeps_66 : decode cX12_keeps 66 = .ok (.aload_n 0, 1) := by decide +kernel
theorem dX12_keeps_67 : decode cX12_keeps 67 = .ok (.getfield 104, 3) := by decide +kernel
theorem dX12_keeps_70 : decode cX12_keeps 70 = .ok (.imul, 1) := by decide +kernel
theorem dX12_keeps_71 : decode cX12_keeps 71 = .ok (.iload_n 1, 1) := by decide +kernel
theorem dX12_keeps_72 : decode cX12_keeps 72 = .ok (.iadd, 1) := by decide +kernel
theorem dX12_keeps_73 : decode cX12_keeps 73 = .ok (.aload_n 0, 1) := by decide +kernel
theorem dX12_keeps_74 : decode cX12_keeps 74 = .ok (.getfield 7, 3) := by decide +kernel
theorem dX12_keeps_77 : decode cX12_keeps 77 = .ok (.iload_n 1, 1) := by decide +kernel
theorem dX12_keeps_78 : decode cX12_keeps 78 = .ok (.iaload, 1) := by decide +kernel
theorem dX12_keeps_79 : decode cX12_keeps 79 = .ok (.iastore, 1) := by decide +kernel
theorem dX12_keeps_80 : decode cX12_keeps 80 = .ok (.iinc 1 1, 3) := by decide +kernel
theorem dX12_keeps_83 : decode cX12_keeps 83 = .ok (.goto (-31), 3) := by decide +kernel
theorem dX12_keeps_86 : decode cX12_keeps 86 = .ok (.aload_n 0, 1) := by decide +kernel
theorem dX12_keeps_87 : decode cX12_keeps 87 = .ok (.dup, 1) := by decide +kernel
theorem dX12_keeps_88 : decode cX12_keeps 88 = .ok (.getfield 104, 3) := by decide +kernel
theorem dX12_keeps_91 : decode cX12_keeps 91 = .ok (.iconst 1, 1) := by decide +kernel
theorem dX12_keeps_92 : decode cX12_keeps 92 = .ok (.iadd, 1) := by decide +kernel
theorem dX12_keeps_93 : decode cX12_keeps 93 = .ok (.putfield 104, 3) := by decide +kernel
theorem dX12_keeps_96 : decode cX12_keeps 96 = .ok (.return_, 1) := by decide +kernel
theorem dX12_back_0 : decode cX12_back 0 = .ok (.aload_n 0, 1) := by decide +kernel
theorem dX12_back_1 : decode cX12_back 1 = .ok (.iconst 0, 1) := by decide +kernel
theorem dX12_back_2 : decode cX12_back 2 = .ok (.putfield 97, 3) := by decide +kernel
theorem dX12_back_5 : decode cX12_back 5 = .ok (.aload_n 0, 1) := by decide +kernel
theorem dX12_back_6 : decode cX12_back 6 = .ok (.getfield 104, 3) := by decide +kernel
theorem dX12_back_9 : decode cX12_back 9 = .ok (.ifCond .ne 5, 3) := by decide +kernel
theorem dX12_back_12 : decode cX12_back 12 = .ok (.iconst 0, 1) := by decide +kernel
theorem dX12_back_13 : decode cX12_back 13 = .ok (.ireturn, 1) := by decide +kernel
theorem dX12_back_14 : decode cX12_back 14 = .ok (.aload_n 0, 1) := by decide +kernel
theorem dX12_back_15 : decode cX12_back 15 = .ok (.dup, 1) := by decide +kernel
theorem dX12_back_16 : decode cX12_back 16 = .ok (.getfield 104, 3) := by decide +kernel
theorem dX12_back_19 : decode cX12_back 19 = .ok (.iconst 1, 1) := by decide +kernel
theorem dX12_back_20 : decode cX12_back 20 = .ok (.isub, 1) := by decide +kernel
theorem dX12_back_21 : decode cX12_back 21 = .ok (.putfield 104, 3) := by decide +kernel
theorem dX12_back_24 : decode cX12_back 24 = .ok (.iconst 0, 1) := by decide +kernel
theorem dX12_back_25 : decode cX12_back 25 = .ok (.istore_n 1, 1) := by decide +kernel
theorem dX12_back_26 : decode cX12_back 26 = .ok (.iload_n 1, 1) := by decide +kernel
theorem dX12_back_27 : decode cX12_back 27 = .ok (.sipush 288, 3) := by decide +kernel
theorem dX12_back_30 : decode cX12_back 30 = .ok (.if_icmp .ge 30, 3) := by decide +kernel
theorem dX12_back_33 : decode cX12_back 33 = .ok (.aload_n 0, 1) := by decide +kernel
theorem dX12_back_34 : decode cX12_back 34 = .ok (.getfield 7, 3) := by decide +kernel
theorem dX12_back_37 : decode cX12_back 37 = .ok (.iload_n 1, 1) := by decide +kernel
theorem dX12_back_38 : decode cX12_back 38 = .ok (.aload_n 0, 1) := by decide +kernel
theorem dX12_back_39 : decode cX12_back 39 = .ok (.getfield 13, 3) := by decide +kernel
theorem dX12_back_42 : decode cX12_back 42 = .ok (.sipush 288, 3) := by decide +kernel
theorem dX12_back_45 : decode cX12_back 45 = .ok (.aload_n 0, 1) := by decide +kernel
theorem dX12_back_46 : decode cX12_back 46 = .ok (.getfield 104, 3) := by decide +kernel
theorem dX12_back_49 : decode cX12_back 49 = .ok (.imul, 1) := by decide +kernel
theorem dX12_back_50 : decode cX12_back 50 = .ok (.iload_n 1, 1) := by decide +kernel
theorem dX12_back_51 : decode cX12_back 51 = .ok (.iadd, 1) := by decide +kernel
theorem dX12_back_52 : decode cX12_back 52 = .ok (.iaload, 1) := by decide +kernel
theorem dX12_back_53 : decode cX12_back 53 = .ok (.iastore, 1) := by decide +kernel
theorem dX12_back_54 : decode cX12_back 54 = .ok (.iinc 1 1, 3) := by decide +kernel
theorem dX12_back_57 : decode cX12_back 57 = .ok (.goto (-31), 3) := by decide +kernel
theorem dX12_back_60 : decode cX12_back 60 = .ok (.iconst 1, 1) := by decide +kernel
theorem dX12_back_61 : decode cX12_back 61 = .ok (.ireturn, 1) := by decide +kernel
set_option maxRecDepth 20000 in
theorem ggX12_kind_X12_isNode : GoodIn wsX12_kind wsX12_isNode := goodIn_r _ [7, 8, 9, 10, 6, 11, 18, 19, 20, 21, 22, 23, 24, 25, 26, 27, 28, 29, 30, 31, 32, 33, 34, 35, 36, 37, 38, 39, 40, 41, 42, 43, 44, 45, 46, 47, 48, 49, 50, 51, 52, 53, 54, 55] (by decide +kernel) (by decide +kernel)
set_option maxRecDepth 20000 in
theorem gX12_kind_X12_isNode : GoodIn wsX12_kind (wsV RX12 120 RX12 yX12_isNode wsX12_isNode) := goodIn_app (goodIn_of _ (by decide +kernel)) ggX12_kind_X12_isNode
set_option maxRecDepth 20000 in
theorem ggX12_kind_X12_within : GoodIn wsX12_kind wsX12_within := goodIn_r _ [11] (by decide +kernel) (by decide +kernel)
set_option maxRecDepth 20000 in
theorem gX12_kind_X12_within : GoodIn wsX12_kind (va_wsS RX12 116 yX12_within wsX12_within) := goodIn_app (goodIn_of _ (by decide +kernel)) ggX12_kind_X12_within
set_option maxRecDepth 20000 in
theorem ggX12_kind_X12_keeps : GoodIn wsX12_kind wsX12_keeps := goodIn_r _ [15, 16, 17, 2, 18, 19, 20, 21, 22, 23, 24, 25, 26, 27, 28, 29, 30, 31, 32, 33, 34, 35, 36, 37, 38, 39, 40, 41, 42, 43, 44, 45, 46, 47, 48, 49, 50, 51, 52, 53, 54, 55] (by decide +kernel) (by decide +kernel)
set_option maxRecDepth 20000 in
theorem gX12_kind_X12_keeps : GoodIn wsX12_kind (wsV RX12 124 RX12 yX12_keeps wsX12_keeps) := goodIn_app (goodIn_of _ (by decide +kernel)) ggX12_kind_X12_keeps
theorem dX12_kind_0 : decode cX12_kind 0 = .ok (.aload_n 0, 1) := by decide +kernel
theorem dX12_kind_1 : decode cX12_kind 1 = .ok (.iconst 0, 1) := by decide +kernel
theorem dX12_kind_2 : decode cX12_kind 2 = .ok (.putfield 97, 3) := by decide +kernel
theorem dX12_kind_5 : decode cX12_kind 5 = .ok (.aload_n 0, 1) := by decide +kernel
theorem dX12_kind_6 : decode cX12_kind 6 = .ok (.iload_n 1, 1) := by decide +kernel
theorem dX12_kind_7 : decode cX12_kind 7 = .ok (.invokevirtual 120, 3) := by decide +kernel
theorem dX12_kind_10 : decode cX12_kind 10 = .ok (.ifCond .eq 12, 3) := by decide +kernel
theorem dX12_kind_13 : decode cX12_kind 13 = .ok (.iload_n 2, 1) := by decide +kernel
theorem dX12_kind_14 : decode cX12_kind 14 = .ok (.iconst 0, 1) := by decide +kernel
theorem dX12_kind_15 : decode cX12_kind 15 = .ok (.iconst 4, 1) := by decide +kernel
theorem dX12_kind_16 : decode cX12_kind 16 = .ok (.invokestatic 116, 3) := by decide +kernel
theorem dX12_kind_19 : decode cX12_kind 19 = .ok (.ifCond .ne 5, 3) := by decide +kernel
theorem dX12_kind_22 : decode cX12_kind 22 = .ok (.iconst (-1), 1) := by decide +kernel
theorem dX12_kind_23 : decode cX12_kind 23 = .ok (.ireturn, 1) := by decide +kernel
theorem dX12_kind_24 : decode cX12_kind 24 = .ok (.aload_n 0, 1) := by decide +kernel
theorem dX12_kind_25 : decode cX12_kind 25 = .ok (.invokevirtual 124, 3) := by decide +kernel
theorem dX12_kind_28 : decode cX12_kind 28 = .ok (.aload_n 0, 1) := by decide +kernel
theorem dX12_kind_29 : decode cX12_kind 29 = .ok (.getfield 7, 3) := by decide +kernel
theorem dX12_kind_32 : decode cX12_kind 32 = .ok (.bipush 48, 2) := by decide +kernel
theorem dX12_kind_34 : decode cX12_kind 34 = .ok (.iload_n 1, 1) := by decide +kernel
theorem dX12_kind_35 : decode cX12_kind 35 = .ok (.iadd, 1) := by decide +kernel
theorem dX12_kind_36 : decode cX12_kind 36 = .ok (.iaload, 1) := by decide +kernel
theorem dX12_kind_37 : decode cX12_kind 37 = .ok (.istore_n 3, 1) := by decide +kernel
theorem dX12_kind_38 : decode cX12_kind 38 = .ok (.aload_n 0, 1) := by decide +kernel
theorem dX12_kind_39 : decode cX12_kind 39 = .ok (.getfield 7, 3) := by decide +kernel
theorem dX12_kind_42 : decode cX12_kind 42 = .ok (.bipush 48, 2) := by decide +kernel
theorem dX12_kind_44 : decode cX12_kind 44 = .ok (.iload_n 1, 1) := by decide +kernel
theorem dX12_kind_45 : decode cX12_kind 45 = .ok (.iadd, 1) := by decide +kernel
theorem dX12_kind_46 : decode cX12_kind 46 = .ok (.iload_n 2, 1) := by decide +kernel
theorem dX12_kind_47 : decode cX12_kind 47 = .ok (.iastore, 1) := by decide +kernel
theorem dX12_kind_48 : decode cX12_kind 48 = .ok (.iload_n 3, 1) := by decide +kernel
theorem dX12_kind_49 : decode cX12_kind 49 = .ok (.ireturn, 1) := by decide +kernel
set_option maxRecDepth 20000 in
theorem ggX12_link_X12_isNode : GoodIn wsX12_link wsX12_isNode := goodIn_r _ [7, 8, 9, 10, 6, 11, 21, 22, 23, 24, 25, 26, 27, 28, 29, 30, 31, 32, 33, 34, 35, 36, 37, 38, 39, 40, 41, 42, 43, 44, 45, 46, 47, 48, 49, 50, 51, 52, 53, 54, 55, 56, 57, 58] (by decide +kernel) (by decide +kernel)
set_option maxRecDepth 20000 in
theorem gX12_link_X12_isNode : GoodIn wsX12_link (wsV RX12 120 RX12 yX12_isNode wsX12_isNode) := goodIn_app (goodIn_of _ (by decide +kernel)) ggX12_link_X12_isNode
set_option maxRecDepth 20000 in
theorem ggX12_link_X12_has : GoodIn wsX12_link wsX12_has := goodIn_r _ [14] (by decide +kernel) (by decide +kernel)
set_option maxRecDepth 20000 in
theorem gX12_link_X12_has : GoodIn wsX12_link (va_wsS RX12 100 yX12_has wsX12_has) := goodIn_app (goodIn_of _ (by decide +kernel)) ggX12_link_X12_has
set_option maxRecDepth 20000 in
theorem ggX12_link_X12_keeps : GoodIn wsX12_link wsX12_keeps := goodIn_r _ [18, 19, 20, 2, 21, 22, 23, 24, 25, 26, 27, 28, 29, 30, 31, 32, 33, 34, 35, 36, 37, 38, 39, 40, 41, 42, 43, 44, 45, 46, 47, 48, 49, 50, 51, 52, 53, 54, 55, 56, 57, 58] (by decide +kernel) (by decide +kernel)
set_option maxRecDepth 20000 in
theorem gX12_link_X12_keeps : GoodIn wsX12_link (wsV RX12 124 RX12 yX12_keeps wsX12_keeps) := goodIn_app (goodIn_of _ (by decide +kernel)) ggX12_link_X12_keeps
theorem dX12_link_0 : decode cX12_link 0 = .ok (.aload_n 0, 1) := by decide +kernel
theorem dX12_link_1 : decode cX12_link 1 = .ok (.iconst 0, 1) := by decide +kernel
theorem dX12_link_2 : decode cX12_link 2 = .ok (.putfield 97, 3) := by decide +kernel
theorem dX12_link_5 : decode cX12_link 5 = .ok (.aload_n 0, 1) := by decide +kernel
theorem dX12_link_6 : decode cX12_link 6 = .ok (.iload_n 1, 1) := by decide +kernel
theorem dX12_link_7 : decode cX12_link 7 = .ok (.invokevirtual 120, 3) := by decide +kernel
theorem dX12_link_10 : decode cX12_link 10 = .ok (.ifCond .eq 33, 3) := by decide +kernel
theorem dX12_link_13 : decode cX12_link 13 = .ok (.aload_n 0, 1) := by decide +kernel
theorem dX12_link_14 : decode cX12_link 14 = .ok (.iload_n 2, 1) := by decide +kernel
theorem dX12_link_15 : decode cX12_link 15 = .ok (.invokevirtual 120, 3) := by decide +kernel
theorem dX12_link_18 : decode cX12_link 18 = .ok (.ifCond .eq 25, 3) := by decide +kernel
theorem dX12_link_21 : decode cX12_link 21 = .ok (.iload_n 1, 1) := by decide +kernel
theorem dX12_link_22 : decode cX12_link 22 = .ok (.iload_n 2, 1) := by decide +kernel
theorem dX12_link_23 : decode cX12_link 23 = .ok (.if_icmp .eq 20, 3) := by decide +kernel
theorem dX12_link_26 : decode cX12_link 26 = .ok (.aload_n 0, 1) := by decide +kernel
theorem dX12_link_27 : decode cX12_link 27 = .ok (.getfield 7, 3) := by decide +kernel
theorem dX12_link_30 : decode cX12_link 30 = .ok (.bipush 56, 2) := by decide +kernel
theorem dX12_link_32 : decode cX12_link 32 = .ok (.iload_n 1, 1) := by decide +kernel
theorem dX12_link_33 : decode cX12_link 33 = .ok (.iadd, 1) := by decide +kernel
theorem dX12_link_34 : decode cX12_link 34 = .ok (.iaload, 1) := by decide +kernel
theorem dX12_link_35 : decode cX12_link 35 = .ok (.iload_n 2, 1) := by decide +kernel
theorem dX12_link_36 : decode cX12_link 36 = .ok (.invokestatic 100, 3) := by decide +kernel
theorem dX12_link_39 : decode cX12_link 39 = .ok (.iload_n 3, 1) := by decide +kernel
theorem dX12_link_40 : decode cX12_link 40 = .ok (.if_icmp .ne 5, 3) := by decide +kernel
theorem dX12_link_43 : decode cX12_link 43 = .ok (.iconst 0, 1) := by decide +kernel
theorem dX12_link_44 : decode cX12_link 44 = .ok (.ireturn, 1) := by decide +kernel
theorem dX12_link_45 : decode cX12_link 45 = .ok (.aload_n 0, 1) := by decide +kernel
theorem dX12_link_46 : decode cX12_link 46 = .ok (.invokevirtual 124, 3) := by decide +kernel
theorem dX12_link_49 : decode cX12_link 49 = .ok (.aload_n 0, 1) := by decide +kernel
theorem dX12_link_50 : decode cX12_link 50 = .ok (.getfield 7, 3) := by decide +kernel
theorem dX12_link_53 : decode cX12_link 53 = .ok (.bipush 56, 2) := by decide +kernel
theorem dX12_link_55 : decode cX12_link 55 = .ok (.iload_n 1, 1) := by decide +kernel
theorem dX12_link_56 : decode cX12_link 56 = .ok (.iadd, 1) := by decide +kernel
theorem dX12_link_57 : decode cX12_link 57 = .ok (.dup2, 1) := by decide +kernel
theorem dX12_link_58 : decode cX12_link 58 = .ok (.iaload, 1) := by decide +kernel
theorem dX12_link_59 : decode cX12_link 59 = .ok (.iconst 1, 1) := by decide +kernel
theorem dX12_link_60 : decode cX12_link 60 = .ok (.iload_n 2, 1) := by decide +kernel
theorem dX12_link_61 : decode cX12_link 61 = .ok (.ishl, 1) := by decide +kernel
theorem dX12_link_62 : decode cX12_link 62 = .ok (.ixor, 1) := by decide +kernel
theorem dX12_link_63 : decode cX12_link 63 = .ok (.iastore, 1) := by decide +kernel
theorem dX12_link_64 : decode cX12_link 64 = .ok (.aload_n 0, 1) := by decide +kernel
theorem dX12_link_65 : decode cX12_link 65 = .ok (.getfield 7, 3) := by decide +kernel
theorem dX12_link_68 : decode cX12_link 68 = .ok (.bipush 56, 2) := by decide +kernel
theorem dX12_link_70 : decode cX12_link 70 = .ok (.iload_n 2, 1) := by decide +kernel
theorem dX12_link_71 : decode cX12_link 71 = .ok (.iadd, 1) := by decide +kernel
theorem dX12_link_72 : decode cX12_link 72 = .ok (.dup2, 1) := by decide +kernel
theorem dX12_link_73 : decode cX12_link 73 = .ok (.iaload, 1) := by decide +kernel
theorem dX12_link_74 : decode cX12_link 74 = .ok (.iconst 1, 1) := by decide +kernel
theorem dX12_link_75 : decode cX12_link 75 = .ok (.iload_n 1, 1) := by decide +kernel
theorem dX12_link_76 : decode cX12_link 76 = .ok (.ishl, 1) := by decide +kernel
theorem dX12_link_77 : decode cX12_link 77 = .ok (.ixor, 1) := by decide +kernel
theorem dX12_link_78 : decode cX12_link 78 = .ok (.iastore, 1) := by decide +kernel
theorem dX12_link_79 : decode cX12_link 79 = .ok (.iconst 1, 1) := by decide +kernel
theorem dX12_link_80 : decode cX12_link 80 = .ok (.ireturn, 1) := by decide +kernel
set_option maxRecDepth 20000 in
theorem ggX12_colour_X12_isNode : GoodIn wsX12_colour wsX12_isNode := goodIn_r _ [7, 8, 9, 10, 6, 11, 18, 19, 20, 21, 22, 23, 24, 25, 26, 27, 28, 29, 30, 31, 32, 33, 34, 35, 36, 37, 38, 39, 40, 41, 42, 43, 44, 45, 46, 47, 48, 49, 50, 51, 52, 53, 54, 55] (by decide +kernel) (by decide +kernel)
set_option maxRecDepth 20000 in
theorem gX12_colour_X12_isNode : GoodIn wsX12_colour (wsV RX12 120 RX12 yX12_isNode wsX12_isNode) := goodIn_app (goodIn_of _ (by decide +kernel)) ggX12_colour_X12_isNode
set_option maxRecDepth 20000 in
theorem ggX12_colour_X12_within : GoodIn wsX12_colour wsX12_within := goodIn_r _ [11] (by decide +kernel) (by decide +kernel)
set_option maxRecDepth 20000 in
theorem gX12_colour_X12_within : GoodIn wsX12_colour (va_wsS RX12 116 yX12_within wsX12_within) := goodIn_app (goodIn_of _ (by decide +kernel)) ggX12_colour_X12_within
set_option maxRecDepth 20000 in
theorem ggX12_colour_X12_keeps : GoodIn wsX12_colour wsX12_keeps := goodIn_r _ [15, 16, 17, 2, 18, 19, 20, 21, 22, 23, 24, 25, 26, 27, 28, 29, 30, 31, 32, 33, 34, 35, 36, 37, 38, 39, 40, 41, 42, 43, 44, 45, 46, 47, 48, 49, 50, 51, 52, 53, 54, 55] (by decide +kernel) (by decide +kernel)
set_option maxRecDepth 20000 in
theorem gX12_colour_X12_keeps : GoodIn wsX12_colour (wsV RX12 124 RX12 yX12_keeps wsX12_keeps) := goodIn_app (goodIn_of _ (by decide +kernel)) ggX12_colour_X12_keeps
theorem dX12_colour_0 : decode cX12_colour 0 = .ok (.aload_n 0, 1) := by decide +kernel
theorem dX12_colour_1 : decode cX12_colour 1 = .ok (.iconst 0, 1) := by decide +kernel
theorem dX12_colour_2 : decode cX12_colour 2 = .ok (.putfield 97, 3) := by decide +kernel
theorem dX12_colour_5 : decode cX12_colour 5 = .ok (.aload_n 0, 1) := by decide +kernel
theorem dX12_colour_6 : decode cX12_colour 6 = .ok (.iload_n 1, 1) := by decide +kernel
theorem dX12_colour_7 : decode cX12_colour 7 = .ok (.invokevirtual 120, 3) := by decide +kernel
theorem dX12_colour_10 : decode cX12_colour 10 = .ok (.ifCond .eq 12, 3) := by decide +kernel
theorem dX12_colour_13 : decode cX12_colour 13 = .ok (.iload_n 2, 1) := by decide +kernel
theorem dX12_colour_14 : decode cX12_colour 14 = .ok (.iconst (-1), 1) := by decide +kernel
theorem dX12_colour_15 : decode cX12_colour 15 = .ok (.iconst 1, 1) := by decide +kernel
theorem dX12_colour_16 : decode cX12_colour 16 = .ok (.invokestatic 116, 3) := by decide +kernel
theorem dX12_colour_19 : decode cX12_colour 19 = .ok (.ifCond .ne 5, 3) := by decide +kernel
theorem dX12_colour_22 : decode cX12_colour 22 = .ok (.iconst 0, 1) := by decide +kernel
theorem dX12_colour_23 : decode cX12_colour 23 = .ok (.ireturn, 1) := by decide +kernel
theorem dX12_colour_24 : decode cX12_colour 24 = .ok (.aload_n 0, 1) := by decide +kernel
theorem dX12_colour_25 : decode cX12_colour 25 = .ok (.invokevirtual 124, 3) := by decide +kernel
theorem dX12_colour_28 : decode cX12_colour 28 = .ok (.aload_n 0, 1) := by decide +kernel
theorem dX12_colour_29 : decode cX12_colour 29 = .ok (.getfield 7, 3) := by decide +kernel
theorem dX12_colour_32 : decode cX12_colour 32 = .ok (.iconst 0, 1) := by decide +kernel
theorem dX12_colour_33 : decode cX12_colour 33 = .ok (.iload_n 1, 1) := by decide +kernel
theorem dX12_colour_34 : decode cX12_colour 34 = .ok (.iadd, 1) := by decide +kernel
theorem dX12_colour_35 : decode cX12_colour 35 = .ok (.iload_n 2, 1) := by decide +kernel
theorem dX12_colour_36 : decode cX12_colour 36 = .ok (.iastore, 1) := by decide +kernel
theorem dX12_colour_37 : decode cX12_colour 37 = .ok (.aload_n 0, 1) := by decide +kernel
theorem dX12_colour_38 : decode cX12_colour 38 = .ok (.getfield 7, 3) := by decide +kernel
theorem dX12_colour_41 : decode cX12_colour 41 = .ok (.bipush 8, 2) := by decide +kernel
theorem dX12_colour_43 : decode cX12_colour 43 = .ok (.iload_n 1, 1) := by decide +kernel
theorem dX12_colour_44 : decode cX12_colour 44 = .ok (.iadd, 1) := by decide +kernel
theorem dX12_colour_45 : decode cX12_colour 45 = .ok (.iconst (-1), 1) := by decide +kernel
theorem dX12_colour_46 : decode cX12_colour 46 = .ok (.iastore, 1) := by decide +kernel
theorem dX12_colour_47 : decode cX12_colour 47 = .ok (.aload_n 0, 1) := by decide +kernel
theorem dX12_colour_48 : decode cX12_colour 48 = .ok (.getfield 7, 3) := by decide +kernel
theorem dX12_colour_51 : decode cX12_colour 51 = .ok (.bipush 16, 2) := by decide +kernel
theorem dX12_colour_53 : decode cX12_colour 53 = .ok (.iload_n 1, 1) := by decide +kernel
theorem dX12_colour_54 : decode cX12_colour 54 = .ok (.iadd, 1) := by decide +kernel
theorem dX12_colour_55 : decode cX12_colour 55 = .ok (.iconst 0, 1) := by decide +kernel
theorem dX12_colour_56 : decode cX12_colour 56 = .ok (.iastore, 1) := by decide +kernel
theorem dX12_colour_57 : decode cX12_colour 57 = .ok (.aload_n 0, 1) := by decide +kernel
theorem dX12_colour_58 : decode cX12_colour 58 = .ok (.getfield 7, 3) := by decide +kernel
theorem dX12_colour_61 : decode cX12_colour 61 = .ok (.bipush 24, 2) := by decide +kernel
theorem dX12_colour_63 : decode cX12_colour 63 = .ok (.iload_n 1, 1) := by decide +kernel
theorem dX12_colour_64 : decode cX12_colour 64 = .ok (.iadd, 1) := by decide +kernel
theorem dX12_colour_65 : decode cX12_colour 65 = .ok (.iconst 0, 1) := by decide +kernel
theorem dX12_colour_66 : decode cX12_colour 66 = .ok (.iastore, 1) := by decide +kernel
theorem dX12_colour_67 : decode cX12_colour 67 = .ok (.aload_n 0, 1) := by decide +kernel
theorem dX12_colour_68 : decode cX12_colour 68 = .ok (.getfield 7, 3) := by decide +kernel
theorem dX12_colour_71 : decode cX12_colour 71 = .ok (.bipush 32, 2) := by decide +kernel
theorem dX12_colour_73 : decode cX12_colour 73 = .ok (.iload_n 1, 1) := by decide +kernel
theorem dX12_colour_74 : decode cX12_colour 74 = .ok (.iadd, 1) := by decide +kernel
theorem dX12_colour_75 : decode cX12_colour 75 = .ok (.iconst 0, 1) := by decide +kernel
theorem dX12_colour_76 : decode cX12_colour 76 = .ok (.iastore, 1) := by decide +kernel
theorem dX12_colour_77 : decode cX12_colour 77 = .ok (.aload_n 0, 1) := by decide +kernel
theorem dX12_colour_78 : decode cX12_colour 78 = .ok (.getfield 7, 3) := by decide +kernel
theorem dX12_colour_81 : decode cX12_colour 81 = .ok (.bipush 40, 2) := by decide +kernel
theorem dX12_colour_83 : decode cX12_colour 83 = .ok (.iload_n 1, 1) := by decide +kernel
theorem dX12_colour_84 : decode cX12_colour 84 = .ok (.iadd, 1) := by decide +kernel
theorem dX12_colour_85 : decode cX12_colour 85 = .ok (.iconst 0, 1) := by decide +kernel
theorem dX12_colour_86 : decode cX12_colour 86 = .ok (.iastore, 1) := by decide +kernel
theorem dX12_colour_87 : decode cX12_colour 87 = .ok (.iconst 1, 1) := by decide +kernel
theorem dX12_colour_88 : decode cX12_colour 88 = .ok (.ireturn, 1) := by decide +kernel
set_option maxRecDepth 20000 in
theorem ggX12_isSample_X12_has : GoodIn wsX12_isSample wsX12_has := goodIn_r _ [6] (by decide +kernel) (by decide +kernel)
set_option maxRecDepth 20000 in
theorem gX12_isSample_X12_has : GoodIn wsX12_isSample (va_wsS RX12 100 yX12_has wsX12_has) := goodIn_app (goodIn_of _ (by decide +kernel)) ggX12_isSample_X12_has
set_option maxRecDepth 20000 in
theorem ggX12_isSample_X12_many : GoodIn wsX12_isSample wsX12_many := goodIn_r _ [9, 3, 4, 5, 6] (by decide +kernel) (by decide +kernel)
set_option maxRecDepth 20000 in
theorem gX12_isSample_X12_many : GoodIn wsX12_isSample (va_wsS RX12 127 yX12_many wsX12_many) := goodIn_app (goodIn_of _ (by decide +kernel)) ggX12_isSample_X12_many
theorem dX12_isSample_0 : decode cX12_isSample 0 = .ok (.iload_n 2, 1) := by decide +kernel
theorem dX12_isSample_1 : decode cX12_isSample 1 = .ok (.ifCond .lt 36, 3) := by decide +kernel
theorem dX12_isSample_4 : decode cX12_isSample 4 = .ok (.iload_n 2, 1) := by decide +kernel
theorem dX12_isSample_5 : decode cX12_isSample 5 = .ok (.iconst 1, 1) := by decide +kernel
theorem dX12_isSample_6 : decode cX12_isSample 6 = .ok (.aload_n 0, 1) := by decide +kernel
theorem dX12_isSample_7 : decode cX12_isSample 7 = .ok (.getfield 19, 3) := by decide +kernel
theorem dX12_isSample_10 : decode cX12_isSample 10 = .ok (.ishl, 1) := by decide +kernel
theorem dX12_isSample_11 : decode cX12_isSample 11 = .ok (.if_icmp .ge 26, 3) := by decide +kernel
theorem dX12_isSample_14 : decode cX12_isSample 14 = .ok (.iload_n 2, 1) := by decide +kernel
theorem dX12_isSample_15 : decode cX12_isSample 15 = .ok (.iload_n 1, 1) := by decide +kernel
theorem dX12_isSample_16 : decode cX12_isSample 16 = .ok (.invokestatic 100, 3) := by decide +kernel
theorem dX12_isSample_19 : decode cX12_isSample 19 = .ok (.ifCond .ne 18, 3) := by decide +kernel
theorem dX12_isSample_22 : decode cX12_isSample 22 = .ok (.iload_n 2, 1) := by decide +kernel
theorem dX12_isSample_23 : decode cX12_isSample 23 = .ok (.invokestatic 127, 3) := by decide +kernel
theorem dX12_isSample_26 : decode cX12_isSample 26 = .ok (.aload_n 0, 1) := by decide +kernel
theorem dX12_isSample_27 : decode cX12_isSample 27 = .ok (.getfield 23, 3) := by decide +kernel
theorem dX12_isSample_30 : decode cX12_isSample 30 = .ok (.if_icmp .ne 7, 3) := by decide +kernel
theorem dX12_isSample_33 : decode cX12_isSample 33 = .ok (.iconst 1, 1) := by decide +kernel
theorem dX12_isSample_34 : decode cX12_isSample 34 = .ok (.goto 4, 3) := by decide +kernel
theorem dX12_isSample_37 : decode cX12_isSample 37 = .ok (.iconst 0, 1) := by decide +kernel
theorem dX12_isSample_38 : decode cX12_isSample 38 = .ok (.ireturn, 1) := by decide +kernel
theorem dX12_canAsk_0 : decode cX12_canAsk 0 = .ok (.aload_n 0, 1) := by decide +kernel
theorem dX12_canAsk_1 : decode cX12_canAsk 1 = .ok (.getfield 7, 3) := by decide +kernel
theorem dX12_canAsk_4 : decode cX12_canAsk 4 = .ok (.bipush 48, 2) := by decide +kernel
theorem dX12_canAsk_6 : decode cX12_canAsk 6 = .ok (.iload_n 1, 1) := by decide +kernel
theorem dX12_canAsk_7 : decode cX12_canAsk 7 = .ok (.iadd, 1) := by decide +kernel
theorem dX12_canAsk_8 : decode cX12_canAsk 8 = .ok (.iaload, 1) := by decide +kernel
theorem dX12_canAsk_9 : decode cX12_canAsk 9 = .ok (.ifCond .ne 30, 3) := by decide +kernel
theorem dX12_canAsk_12 : decode cX12_canAsk 12 = .ok (.aload_n 0, 1) := by decide +kernel
theorem dX12_canAsk_13 : decode cX12_canAsk 13 = .ok (.getfield 7, 3) := by decide +kernel
theorem dX12_canAsk_16 : decode cX12_canAsk 16 = .ok (.bipush 40, 2) := by decide +kernel
theorem dX12_canAsk_18 : decode cX12_canAsk 18 = .ok (.iload_n 1, 1) := by decide +kernel
theorem dX12_canAsk_19 : decode cX12_canAsk 19 = .ok (.iadd, 1) := by decide +kernel
theorem dX12_canAsk_20 : decode cX12_canAsk 20 = .ok (.iaload, 1) := by decide +kernel
theorem dX12_canAsk_21 : decode cX12_canAsk 21 = .ok (.ifCond .ne 18, 3) := by decide +kernel
theorem dX12_canAsk_24 : decode cX12_canAsk 24 = .ok (.aload_n 0, 1) := by decide +kernel
theorem dX12_canAsk_25 : decode cX12_canAsk 25 = .ok (.getfield 7, 3) := by decide +kernel
theorem dX12_canAsk_28 : decode cX12_canAsk 28 = .ok (.iconst 0, 1) := by decide +kernel
theorem dX12_canAsk_29 : decode cX12_canAsk 29 = .ok (.iload_n 1, 1) := by decide +kernel
theorem dX12_canAsk_30 : decode cX12_canAsk 30 = .ok (.iadd, 1) := by decide +kernel
theorem dX12_canAsk_31 : decode cX12_canAsk 31 = .ok (.iaload, 1) := by decide +kernel
theorem dX12_canAsk_32 : decode cX12_canAsk 32 = .ok (.ifCond .lt 7, 3) := by decide +kernel
theorem dX12_canAsk_35 : decode cX12_canAsk 35 = .ok (.iconst 1, 1) := by decide +kernel
theorem dX12_canAsk_36 : decode cX12_canAsk 36 = .ok (.goto 4, 3) := by decide +kernel
theorem dX12_canAsk_39 : decode cX12_canAsk 39 = .ok (.iconst 0, 1) := by decide +kernel
theorem dX12_canAsk_40 : decode cX12_canAsk 40 = .ok (.ireturn, 1) := by decide +kernel
set_option maxRecDepth 20000 in
theorem ggX12_says_X12_has : GoodIn wsX12_says wsX12_has := goodIn_r _ [5] (by decide +kernel) (by decide +kernel)
set_option maxRecDepth 20000 in
theorem gX12_says_X12_has : GoodIn wsX12_says (va_wsS RX12 100 yX12_has wsX12_has) := goodIn_app (goodIn_of _ (by decide +kernel)) ggX12_says_X12_has
theorem dX12_says_0 : decode cX12_says 0 = .ok (.aload_n 0, 1) := by decide +kernel
theorem dX12_says_1 : decode cX12_says 1 = .ok (.getfield 7, 3) := by decide +kernel
theorem dX12_says_4 : decode cX12_says 4 = .ok (.bipush 56, 2) := by decide +kernel
theorem dX12_says_6 : decode cX12_says 6 = .ok (.iload_n 2, 1) := by decide +kernel
theorem dX12_says_7 : decode cX12_says 7 = .ok (.iadd, 1) := by decide +kernel
theorem dX12_says_8 : decode cX12_says 8 = .ok (.iaload, 1) := by decide +kernel
theorem dX12_says_9 : decode cX12_says 9 = .ok (.iload_n 1, 1) := by decide +kernel
theorem dX12_says_10 : decode cX12_says 10 = .ok (.invokestatic 100, 3) := by decide +kernel
theorem dX12_says_13 : decode cX12_says 13 = .ok (.ifCond .ne 5, 3) := by decide +kernel
theorem dX12_says_16 : decode cX12_says 16 = .ok (.iconst (-1), 1) := by decide +kernel
theorem dX12_says_17 : decode cX12_says 17 = .ok (.ireturn, 1) := by decide +kernel
theorem dX12_says_18 : decode cX12_says 18 = .ok (.aload_n 0, 1) := by decide +kernel
theorem dX12_says_19 : decode cX12_says 19 = .ok (.getfield 7, 3) := by decide +kernel
theorem dX12_says_22 : decode cX12_says 22 = .ok (.iconst 0, 1) := by decide +kernel
theorem dX12_says_23 : decode cX12_says 23 = .ok (.iload_n 2, 1) := by decide +kernel
theorem dX12_says_24 : decode cX12_says 24 = .ok (.iadd, 1) := by decide +kernel
theorem dX12_says_25 : decode cX12_says 25 = .ok (.iaload, 1) := by decide +kernel
theorem dX12_says_26 : decode cX12_says 26 = .ok (.istore_n 3, 1) := by decide +kernel
theorem dX12_says_27 : decode cX12_says 27 = .ok (.aload_n 0, 1) := by decide +kernel
theorem dX12_says_28 : decode cX12_says 28 = .ok (.getfield 7, 3) := by decide +kernel
theorem dX12_says_31 : decode cX12_says 31 = .ok (.bipush 48, 2) := by decide +kernel
theorem dX12_says_33 : decode cX12_says 33 = .ok (.iload_n 1, 1) := by decide +kernel
theorem dX12_says_34 : decode cX12_says 34 = .ok (.iadd, 1) := by decide +kernel
theorem dX12_says_35 : decode cX12_says 35 = .ok (.iaload, 1) := by decide +kernel
theorem dX12_says_36 : decode cX12_says 36 = .ok (.istore 4, 2) := by decide +kernel
theorem dX12_says_38 : decode cX12_says 38 = .ok (.iload 4, 2) := by decide +kernel
theorem dX12_says_40 : decode cX12_says 40 = .ok (.ifCond .ne 32, 3) := by decide +kernel
theorem dX12_says_43 : decode cX12_says 43 = .ok (.aload_n 0, 1) := by decide +kernel
theorem dX12_says_44 : decode cX12_says 44 = .ok (.getfield 7, 3) := by decide +kernel
theorem dX12_says_47 : decode cX12_says 47 = .ok (.iconst 0, 1) := by decide +kernel
theorem dX12_says_48 : decode cX12_says 48 = .ok (.iload_n 1, 1) := by decide +kernel
theorem dX12_says_49 : decode cX12_says 49 = .ok (.iadd, 1) := by decide +kernel
theorem dX12_says_50 : decode cX12_says 50 = .ok (.iaload, 1) := by decide +kernel
theorem dX12_says_51 : decode cX12_says 51 = .ok (.ifCond .ge 12, 3) := by decide +kernel
theorem dX12_says_54 : decode cX12_says 54 = .ok (.aload_n 0, 1) := by decide +kernel
theorem dX12_says_55 : decode cX12_says 55 = .ok (.getfield 7, 3) := by decide +kernel
theorem dX12_says_58 : decode cX12_says 58 = .ok (.iconst 0, 1) := by decide +kernel
theorem dX12_says_59 : decode cX12_says 59 = .ok (.iload_n 1, 1) := by decide +kernel
theorem dX12_says_60 : decode cX12_says 60 = .ok (.iadd, 1) := by decide +kernel
theorem dX12_says_61 : decode cX12_says 61 = .ok (.iload_n 3, 1) := by decide +kernel
theorem dX12_says_62 : decode cX12_says 62 = .ok (.iastore, 1) := by decide +kernel
theorem dX12_says_63 : decode cX12_says 63 = .ok (.aload_n 0, 1) := by decide +kernel
theorem dX12_says_64 : decode cX12_says 64 = .ok (.getfield 7, 3) := by decide +kernel
theorem dX12_says_67 : decode cX12_says 67 = .ok (.iconst 0, 1) := by decide +kernel
theorem dX12_says_68 : decode cX12_says 68 = .ok (.iload_n 1, 1) := by decide +kernel
theorem dX12_says_69 : decode cX12_says 69 = .ok (.iadd, 1) := by decide +kernel
theorem dX12_says_70 : decode cX12_says 70 = .ok (.iaload, 1) := by decide +kernel
theorem dX12_says_71 : decode cX12_says 71 = .ok (.ireturn, 1) := by decide +kernel
theorem dX12_says_72 : decode cX12_says 72 = .ok (.iload 4, 2) := by decide +kernel
theorem dX12_says_74 : decode cX12_says 74 = .ok (.iconst 1, 1) := by decide +kernel
theorem dX12_says_75 : decode cX12_says 75 = .ok (.if_icmp .ne 7, 3) := by decide +kernel
theorem dX12_says_78 : decode cX12_says 78 = .ok (.iconst 0, 1) := by decide +kernel
theorem dX12_says_79 : decode cX12_says 79 = .ok (.goto 26, 3) := by decide +kernel
theorem dX12_says_82 : decode cX12_says 82 = .ok (.iload 4, 2) := by decide +kernel
theorem dX12_says_84 : decode cX12_says 84 = .ok (.iconst 2, 1) := by decide +kernel
theorem dX12_says_85 : decode cX12_says 85 = .ok (.if_icmp .ne 7, 3) := by decide +kernel
theorem dX12_says_88 : decode cX12_says 88 = .ok (.iconst 1, 1) := by decide +kernel
theorem dX12_says_89 : decode cX12_says 89 = .ok (.goto 16, 3) := by decide +kernel
theorem dX12_says_92 : decode cX12_says 92 = .ok (.iload 4, 2) := by decide +kernel
theorem dX12_says_94 : decode cX12_says 94 = .ok (.iconst 3, 1) := by decide +kernel
theorem dX12_says_95 : decode cX12_says 95 = .ok (.if_icmp .ne 9, 3) := by decide +kernel
theorem dX12_says_98 : decode cX12_says 98 = .ok (.iconst 1, 1) := by decide +kernel
theorem dX12_says_99 : decode cX12_says 99 = .ok (.iload_n 3, 1) := by decide +kernel
theorem dX12_says_100 : decode cX12_says 100 = .ok (.isub, 1) := by decide +kernel
theorem dX12_says_101 : decode cX12_says 101 = .ok (.goto 4, 3) := by decide +kernel
theorem dX12_says_104 : decode cX12_says 104 = .ok (.iconst (-1), 1) := by decide +kernel
theorem dX12_says_105 : decode cX12_says 105 = .ok (.ireturn, 1) := by decide +kernel
set_option maxRecDepth 20000 in
theorem ggX12_asks_X12_has : GoodIn wsX12_asks wsX12_has := goodIn_r _ [9] (by decide +kernel) (by decide +kernel)
set_option maxRecDepth 20000 in
theorem gX12_asks_X12_has : GoodIn wsX12_asks (va_wsS RX12 100 yX12_has wsX12_has) := goodIn_app (goodIn_of _ (by decide +kernel)) ggX12_asks_X12_has
set_option maxRecDepth 20000 in
theorem ggX12_asks_X12_says : GoodIn wsX12_asks wsX12_says := goodIn_r _ [13, 3, 6, 7, 8, 9, 18, 19, 20, 21, 22, 23, 24, 25, 26, 27, 28, 29, 30, 31, 32, 33, 34, 35, 36, 37, 38, 39, 40, 41, 42, 43, 44, 45, 46, 47, 48, 49, 50, 51, 52, 53, 54, 55] (by decide +kernel) (by decide +kernel)
set_option maxRecDepth 20000 in
theorem gX12_asks_X12_says : GoodIn wsX12_asks (wsV RX12 131 RX12 yX12_says wsX12_says) := goodIn_app (goodIn_of _ (by decide +kernel)) ggX12_asks_X12_says
set_option maxRecDepth 20000 in
theorem ggX12_asks_X12_counts : GoodIn wsX12_asks wsX12_counts := goodIn_r _ [17, 3, 4, 18, 19, 20, 21, 22, 23, 24, 25, 26, 27, 28, 29, 30, 31, 32, 33, 34, 35, 36, 37, 38, 39, 40, 41, 42, 43, 44, 45, 46, 47, 48, 49, 50, 51, 52, 53, 54, 55] (by decide +kernel) (by decide +kernel)
set_option maxRecDepth 20000 in
theorem gX12_asks_X12_counts : GoodIn wsX12_asks (wsV RX12 135 RX12 yX12_counts wsX12_counts) := goodIn_app (goodIn_of _ (by decide +kernel)) ggX12_asks_X12_counts
theorem dX12_asks_0 : decode cX12_asks 0 = .ok (.iconst 0, 1) := by decide +kernel
theorem dX12_asks_1 : decode cX12_asks 1 = .ok (.istore_n 3, 1) := by decide +kernel
theorem dX12_asks_2 : decode cX12_asks 2 = .ok (.iconst 0, 1) := by decide +kernel
theorem dX12_asks_3 : decode cX12_asks 3 = .ok (.istore 4, 2) := by decide +kernel
theorem dX12_asks_5 : decode cX12_asks 5 = .ok (.iconst 0, 1) := by decide +kernel
theorem dX12_asks_6 : decode cX12_asks 6 = .ok (.istore 5, 2) := by decide +kernel
theorem dX12_asks_8 : decode cX12_asks 8 = .ok (.iload 5, 2) := by decide +kernel
theorem dX12_asks_10 : decode cX12_asks 10 = .ok (.aload_n 0, 1) := by decide +kernel
theorem dX12_asks_11 : decode cX12_asks 11 = .ok (.getfield 19, 3) := by decide +kernel
theorem dX12_asks_14 : decode cX12_asks 14 = .ok (.if_icmp .ge 47, 3) := by decide +kernel
theorem dX12_asks_17 : decode cX12_asks 17 = .ok (.iload_n 2, 1) := by decide +kernel
theorem dX12_asks_18 : decode cX12_asks 18 = .ok (.iload 5, 2) := by decide +kernel
theorem dX12_asks_20 : decode cX12_asks 20 = .ok (.invokestatic 100, 3) := by decide +kernel
theorem dX12_asks_23 : decode cX12_asks 23 = .ok (.ifCond .ne 6, 3) := by decide +kernel
theorem dX12_asks_26 : decode cX12_asks 26 = .ok (.goto 29, 3) := by decide +kernel
theorem dX12_asks_29 : decode cX12_asks 29 = .ok (.aload_n 0, 1) := by decide +kernel
theorem dX12_asks_30 : decode cX12_asks 30 = .ok (.iload 5, 2) := by decide +kernel
theorem dX12_asks_32 : decode cX12_asks 32 = .ok (.iload_n 1, 1) := by decide +kernel
theorem dX12_asks_33 : decode cX12_asks 33 = .ok (.invokevirtual 131, 3) := by decide +kernel
theorem dX12_asks_36 : decode cX12_asks 36 = .ok (.istore 6, 2) := by decide +kernel
theorem dX12_asks_38 : decode cX12_asks 38 = .ok (.iload 6, 2) := by decide +kernel
theorem dX12_asks_40 : decode cX12_asks 40 = .ok (.ifCond .ne 6, 3) := by decide +kernel
theorem dX12_asks_43 : decode cX12_asks 43 = .ok (.iinc 3 1, 3) := by decide +kernel
theorem dX12_asks_46 : decode cX12_asks 46 = .ok (.iload 6, 2) := by decide +kernel
theorem dX12_asks_48 : decode cX12_asks 48 = .ok (.iconst 1, 1) := by decide +kernel
theorem dX12_asks_49 : decode cX12_asks 49 = .ok (.if_icmp .ne 6, 3) := by decide +kernel
theorem dX12_asks_52 : decode cX12_asks 52 = .ok (.iinc 4 1, 3) := by decide +kernel
theorem dX12_asks_55 : decode cX12_asks 55 = .ok (.iinc 5 1, 3) := by decide +kernel
theorem dX12_asks_58 : decode cX12_asks 58 = .ok (.goto (-50), 3) := by decide +kernel
theorem dX12_asks_61 : decode cX12_asks 61 = .ok (.iload_n 3, 1) := by decide +kernel
theorem dX12_asks_62 : decode cX12_asks 62 = .ok (.aload_n 0, 1) := by decide +kernel
theorem dX12_asks_63 : decode cX12_asks 63 = .ok (.getfield 26, 3) := by decide +kernel
theorem dX12_asks_66 : decode cX12_asks 66 = .ok (.if_icmp .lt 7, 3) := by decide +kernel
theorem dX12_asks_69 : decode cX12_asks 69 = .ok (.iconst 0, 1) := by decide +kernel
theorem dX12_asks_70 : decode cX12_asks 70 = .ok (.goto 17, 3) := by decide +kernel
theorem dX12_asks_73 : decode cX12_asks 73 = .ok (.iload 4, 2) := by decide +kernel
theorem dX12_asks_75 : decode cX12_asks 75 = .ok (.aload_n 0, 1) := by decide +kernel
theorem dX12_asks_76 : decode cX12_asks 76 = .ok (.getfield 26, 3) := by decide +kernel
theorem dX12_asks_79 : decode cX12_asks 79 = .ok (.if_icmp .lt 7, 3) := by decide +kernel
theorem dX12_asks_82 : decode cX12_asks 82 = .ok (.iconst 1, 1) := by decide +kernel
theorem dX12_asks_83 : decode cX12_asks 83 = .ok (.goto 4, 3) := by decide +kernel
theorem dX12_asks_86 : decode cX12_asks 86 = .ok (.iconst (-1), 1) := by decide +kernel
theorem dX12_asks_87 : decode cX12_asks 87 = .ok (.istore 5, 2) := by decide +kernel
theorem dX12_asks_89 : decode cX12_asks 89 = .ok (.aload_n 0, 1) := by decide +kernel
theorem dX12_asks_90 : decode cX12_asks 90 = .ok (.getfield 7, 3) := by decide +kernel
theorem dX12_asks_93 : decode cX12_asks 93 = .ok (.iconst 0, 1) := by decide +kernel
theorem dX12_asks_94 : decode cX12_asks 94 = .ok (.iload_n 1, 1) := by decide +kernel
theorem dX12_asks_95 : decode cX12_asks 95 = .ok (.iadd, 1) := by decide +kernel
theorem dX12_asks_96 : decode cX12_asks 96 = .ok (.iaload, 1) := by decide +kernel
theorem dX12_asks_97 : decode cX12_asks 97 = .ok (.istore 6, 2) := by decide +kernel
theorem dX12_asks_99 : decode cX12_asks 99 = .ok (.aload_n 0, 1) := by decide +kernel
theorem dX12_asks_100 : decode cX12_asks 100 = .ok (.getfield 35, 3) := by decide +kernel
theorem dX12_asks_103 : decode cX12_asks 103 = .ok (.ifCond .ne 21, 3) := by decide +kernel
theorem dX12_asks_106 : decode cX12_asks 106 = .ok (.iload 5, 2) := by decide +kernel
theorem dX12_asks_108 : decode cX12_asks 108 = .ok (.ifCond .lt 49, 3) := by decide +kernel
theorem dX12_asks_111 : decode cX12_asks 111 = .ok (.aload_n 0, 1) := by decide +kernel
theorem dX12_asks_112 : decode cX12_asks 112 = .ok (.getfield 7, 3) := by decide +kernel
theorem dX12_asks_115 : decode cX12_asks 115 = .ok (.iconst 0, 1) := by decide +kernel
theorem dX12_asks_116 : decode cX12_asks 116 = .ok (.iload_n 1, 1) := by decide +kernel
theorem dX12_asks_117 : decode cX12_asks 117 = .ok (.iadd, 1) := by decide +kernel
theorem dX12_asks_118 : decode cX12_asks 118 = .ok (.iload 5, 2) := by decide +kernel
theorem dX12_asks_120 : decode cX12_asks 120 = .ok (.iastore, 1) := by decide +kernel
theorem dX12_asks_121 : decode cX12_asks 121 = .ok (.goto 36, 3) := by decide +kernel
theorem dX12_asks_124 : decode cX12_asks 124 = .ok (.aload_n 0, 1) := by decide +kernel
theorem dX12_asks_125 : decode cX12_asks 125 = .ok (.iload_n 1, 1) := by decide +kernel
theorem dX12_asks_126 : decode cX12_asks 126 = .ok (.iload 5, 2) := by decide +kernel
theorem dX12_asks_128 : decode cX12_asks 128 = .ok (.invokevirtual 135, 3) := by decide +kernel
theorem dX12_asks_131 : decode cX12_asks 131 = .ok (.aload_n 0, 1) := by decide +kernel
theorem dX12_asks_132 : decode cX12_asks 132 = .ok (.getfield 7, 3) := by decide +kernel
theorem dX12_asks_135 : decode cX12_asks 135 = .ok (.bipush 16, 2) := by decide +kernel
theorem dX12_asks_137 : decode cX12_asks 137 = .ok (.iload_n 1, 1) := by decide +kernel
theorem dX12_asks_138 : decode cX12_asks 138 = .ok (.iadd, 1) := by decide +kernel
theorem dX12_asks_139 : decode cX12_asks 139 = .ok (.iaload, 1) := by decide +kernel
theorem dX12_asks_140 : decode cX12_asks 140 = .ok (.aload_n 0, 1) := by decide +kernel
theorem dX12_asks_141 : decode cX12_asks 141 = .ok (.getfield 29, 3) := by decide +kernel
theorem dX12_asks_144 : decode cX12_asks 144 = .ok (.if_icmp .lt 13, 3) := by decide +kernel
theorem dX12_asks_147 : decode cX12_asks 147 = .ok (.aload_n 0, 1) := by decide +kernel
theorem dX12_asks_148 : decode cX12_asks 148 = .ok (.getfield 7, 3) := by decide +kernel
theorem dX12_asks_151 : decode cX12_asks 151 = .ok (.bipush 40, 2) := by decide +kernel
theorem dX12_asks_153 : decode cX12_asks 153 = .ok (.iload_n 1, 1) := by decide +kernel
theorem dX12_asks_154 : decode cX12_asks 154 = .ok (.iadd, 1) := by decide +kernel
theorem dX12_asks_155 : decode cX12_asks 155 = .ok (.iconst 1, 1) := by decide +kernel
theorem dX12_asks_156 : decode cX12_asks 156 = .ok (.iastore, 1) := by decide +kernel
theorem dX12_asks_157 : decode cX12_asks 157 = .ok (.aload_n 0, 1) := by decide +kernel
theorem dX12_asks_158 : decode cX12_asks 158 = .ok (.getfield 7, 3) := by decide +kernel
theorem dX12_asks_161 : decode cX12_asks 161 = .ok (.bipush 40, 2) := by decide +kernel
theorem dX12_asks_163 : decode cX12_asks 163 = .ok (.iload_n 1, 1) := by decide +kernel
theorem dX12_asks_164 : decode cX12_asks 164 = .ok (.iadd, 1) := by decide +kernel
theorem dX12_asks_165 : decode cX12_asks 165 = .ok (.iaload, 1) := by decide +kernel
theorem dX12_asks_166 : decode cX12_asks 166 = .ok (.iconst 1, 1) := by decide +kernel
theorem dX12_asks_167 : decode cX12_asks 167 = .ok (.if_icmp .ne 7, 3) := by decide +kernel
theorem dX12_asks_170 : decode cX12_asks 170 = .ok (.iconst 2, 1) := by decide +kernel
theorem dX12_asks_171 : decode cX12_asks 171 = .ok (.goto 21, 3) := by decide +kernel
theorem dX12_asks_174 : decode cX12_asks 174 = .ok (.aload_n 0, 1) := by decide +kernel
theorem dX12_asks_175 : decode cX12_asks 175 = .ok (.getfield 7, 3) := by decide +kernel
theorem dX12_asks_178 : decode cX12_asks 178 = .ok (.iconst 0, 1) := by decide +kernel
theorem dX12_asks_179 : decode cX12_asks 179 = .ok (.iload_n 1, 1) := by decide +kernel
theorem dX12_asks_180 : decode cX12_asks 180 = .ok (.iadd, 1) := by decide +kernel
theorem dX12_asks_181 : decode cX12_asks 181 = .ok (.iaload, 1) := by decide +kernel
theorem dX12_asks_182 : decode cX12_asks 182 = .ok (.iload 6, 2) := by decide +kernel
theorem dX12_asks_184 : decode cX12_asks 184 = .ok (.if_icmp .eq 7, 3) := by decide +kernel
theorem dX12_asks_187 : decode cX12_asks 187 = .ok (.iconst 1, 1) := by decide +kernel
theorem dX12_asks_188 : decode cX12_asks 188 = .ok (.goto 4, 3) := by decide +kernel
theorem dX12_asks_191 : decode cX12_asks 191 = .ok (.iconst 0, 1) := by decide +kernel
theorem dX12_asks_192 : decode cX12_asks 192 = .ok (.ireturn, 1) := by decide +kernel
theorem dX12_counts_0 : decode cX12_counts 0 = .ok (.iload_n 2, 1) := by decide +kernel
theorem dX12_counts_1 : decode cX12_counts 1 = .ok (.ifCond .ge 14, 3) := by decide +kernel
theorem dX12_counts_4 : decode cX12_counts 4 = .ok (.aload_n 0, 1) := by decide +kernel
theorem dX12_counts_5 : decode cX12_counts 5 = .ok (.getfield 7, 3) := by decide +kernel
theorem dX12_counts_8 : decode cX12_counts 8 = .ok (.bipush 16, 2) := by decide +kernel
theorem dX12_counts_10 : decode cX12_counts 10 = .ok (.iload_n 1, 1) := by decide +kernel
theorem dX12_counts_11 : decode cX12_counts 11 = .ok (.iadd, 1) := by decide +kernel
theorem dX12_counts_12 : decode cX12_counts 12 = .ok (.iconst 0, 1) := by decide +kernel
theorem dX12_counts_13 : decode cX12_counts 13 = .ok (.iastore, 1) := by decide +kernel
theorem dX12_counts_14 : decode cX12_counts 14 = .ok (.return_, 1) := by decide +kernel
theorem dX12_counts_15 : decode cX12_counts 15 = .ok (.aload_n 0, 1) := by decide +kernel
theorem dX12_counts_16 : decode cX12_counts 16 = .ok (.getfield 35, 3) := by decide +kernel
theorem dX12_counts_19 : decode cX12_counts 19 = .ok (.iconst 2, 1) := by decide +kernel
theorem dX12_counts_20 : decode cX12_counts 20 = .ok (.if_icmp .ne 10, 3) := by decide +kernel
theorem dX12_counts_23 : decode cX12_counts 23 = .ok (.bipush 8, 2) := by decide +kernel
theorem dX12_counts_25 : decode cX12_counts 25 = .ok (.iload_n 1, 1) := by decide +kernel
theorem dX12_counts_26 : decode cX12_counts 26 = .ok (.iadd, 1) := by decide +kernel
theorem dX12_counts_27 : decode cX12_counts 27 = .ok (.goto 6, 3) := by decide +kernel
theorem dX12_counts_30 : decode cX12_counts 30 = .ok (.iconst 0, 1) := by decide +kernel
theorem dX12_counts_31 : decode cX12_counts 31 = .ok (.iload_n 1, 1) := by decide +kernel
theorem dX12_counts_32 : decode cX12_counts 32 = .ok (.iadd, 1) := by decide +kernel
theorem dX12_counts_33 : decode cX12_counts 33 = .ok (.istore_n 3, 1) := by decide +kernel
theorem dX12_counts_34 : decode cX12_counts 34 = .ok (.aload_n 0, 1) := by decide +kernel
theorem dX12_counts_35 : decode cX12_counts 35 = .ok (.getfield 35, 3) := by decide +kernel
theorem dX12_counts_38 : decode cX12_counts 38 = .ok (.iconst 2, 1) := by decide +kernel
theorem dX12_counts_39 : decode cX12_counts 39 = .ok (.if_icmp .ne 78, 3) := by decide +kernel
theorem dX12_counts_42 : decode cX12_counts 42 = .ok (.bipush 24, 2) := by decide +kernel
theorem dX12_counts_44 : decode cX12_counts 44 = .ok (.bipush 8, 2) := by decide +kernel
theorem dX12_counts_46 : decode cX12_counts 46 = .ok (.iload_n 2, 1) := by decide +kernel
theorem dX12_counts_47 : decode cX12_counts 47 = .ok (.imul, 1) := by decide +kernel
theorem dX12_counts_48 : decode cX12_counts 48 = .ok (.iadd, 1) := by decide +kernel
theorem dX12_counts_49 : decode cX12_counts 49 = .ok (.iload_n 1, 1) := by decide +kernel
theorem dX12_counts_50 : decode cX12_counts 50 = .ok (.iadd, 1) := by decide +kernel
theorem dX12_counts_51 : decode cX12_counts 51 = .ok (.istore 4, 2) := by decide +kernel
theorem dX12_counts_53 : decode cX12_counts 53 = .ok (.aload_n 0, 1) := by decide +kernel
theorem dX12_counts_54 : decode cX12_counts 54 = .ok (.getfield 7, 3) := by decide +kernel
theorem dX12_counts_57 : decode cX12_counts 57 = .ok (.iload 4, 2) := by decide +kernel
theorem dX12_counts_59 : decode cX12_counts 59 = .ok (.iaload, 1) := by decide +kernel
theorem dX12_counts_60 : decode cX12_counts 60 = .ok (.sipush 999, 3) := by decide +kernel
theorem dX12_counts_63 : decode cX12_counts 63 = .ok (.if_icmp .ge 14, 3) := by decide +kernel
theorem dX12_counts_66 : decode cX12_counts 66 = .ok (.aload_n 0, 1) := by decide +kernel
theorem dX12_counts_67 : decode cX12_counts 67 = .ok (.getfield 7, 3) := by decide +kernel
theorem dX12_counts_70 : decode cX12_counts 70 = .ok (.iload 4, 2) := by decide +kernel
theorem dX12_counts_72 : decode cX12_counts 72 = .ok (.dup2, 1) := by decide +kernel
theorem dX12_counts_73 : decode cX12_counts 73 = .ok (.iaload, 1) := by decide +kernel
theorem dX12_counts_74 : decode cX12_counts 74 = .ok (.iconst 1, 1) := by decide +kernel
theorem dX12_counts_75 : decode cX12_counts 75 = .ok (.iadd, 1) := by decide +kernel
theorem dX12_counts_76 : decode cX12_counts 76 = .ok (.iastore, 1) := by decide +kernel
theorem dX12_counts_77 : decode cX12_counts 77 = .ok (.aload_n 0, 1) := by decide +kernel
theorem dX12_counts_78 : decode cX12_counts 78 = .ok (.getfield 7, 3) := by decide +kernel
theorem dX12_counts_81 : decode cX12_counts 81 = .ok (.iload 4, 2) := by decide +kernel
theorem dX12_counts_83 : decode cX12_counts 83 = .ok (.iaload, 1) := by decide +kernel
theorem dX12_counts_84 : decode cX12_counts 84 = .ok (.aload_n 0, 1) := by decide +kernel
theorem dX12_counts_85 : decode cX12_counts 85 = .ok (.getfield 7, 3) := by decide +kernel
theorem dX12_counts_88 : decode cX12_counts 88 = .ok (.bipush 24, 2) := by decide +kernel
theorem dX12_counts_90 : decode cX12_counts 90 = .ok (.bipush 8, 2) := by decide +kernel
theorem dX12_counts_92 : decode cX12_counts 92 = .ok (.aload_n 0, 1) := by decide +kernel
theorem dX12_counts_93 : decode cX12_counts 93 = .ok (.getfield 7, 3) := by decide +kernel
theorem dX12_counts_96 : decode cX12_counts 96 = .ok (.iconst 0, 1) := by decide +kernel
theorem dX12_counts_97 : decode cX12_counts 97 = .ok (.iload_n 1, 1) := by decide +kernel
theorem dX12_counts_98 : decode cX12_counts 98 = .ok (.iadd, 1) := by decide +kernel
theorem dX12_counts_99 : decode cX12_counts 99 = .ok (.iaload, 1) := by decide +kernel
theorem dX12_counts_100 : decode cX12_counts 100 = .ok (.imul, 1) := by decide +kernel
theorem dX12_counts_101 : decode cX12_counts 101 = .ok (.iadd, 1) := by decide +kernel
theorem dX12_counts_102 : decode cX12_counts 102 = .ok (.iload_n 1, 1) := by decide +kernel
theorem dX12_counts_103 : decode cX12_counts 103 = .ok (.iadd, 1) := by decide +kernel
theorem dX12_counts_104 : decode cX12_counts 104 = .ok (.iaload, 1) := by decide +kernel
theorem dX12_counts_105 : decode cX12_counts 105 = .ok (.if_icmp .le 12, 3) := by decide +kernel
theorem dX12_counts_108 : decode cX12_counts 108 = .ok (.aload_n 0, 1) := by decide +kernel
theorem dX12_counts_109 : decode cX12_counts 109 = .ok (.getfield 7, 3) := by decide +kernel
theorem dX12_counts_112 : decode cX12_counts 112 = .ok (.iconst 0, 1) := by decide +kernel
theorem dX12_counts_113 : decode cX12_counts 113 = .ok (.iload_n 1, 1) := by decide +kernel
theorem dX12_counts_114 : decode cX12_counts 114 = .ok (.iadd, 1) := by decide +kernel
theorem dX12_counts_115 : decode cX12_counts 115 = .ok (.iload_n 2, 1) := by decide +kernel
theorem dX12_counts_116 : decode cX12_counts 116 = .ok (.iastore, 1) := by decide +kernel
theorem dX12_counts_117 : decode cX12_counts 117 = .ok (.aload_n 0, 1) := by decide +kernel
theorem dX12_counts_118 : decode cX12_counts 118 = .ok (.getfield 7, 3) := by decide +kernel
theorem dX12_counts_121 : decode cX12_counts 121 = .ok (.iload_n 3, 1) := by decide +kernel
theorem dX12_counts_122 : decode cX12_counts 122 = .ok (.iaload, 1) := by decide +kernel
theorem dX12_counts_123 : decode cX12_counts 123 = .ok (.iload_n 2, 1) := by decide +kernel
theorem dX12_counts_124 : decode cX12_counts 124 = .ok (.if_icmp .ne 19, 3) := by decide +kernel
theorem dX12_counts_127 : decode cX12_counts 127 = .ok (.aload_n 0, 1) := by decide +kernel
theorem dX12_counts_128 : decode cX12_counts 128 = .ok (.getfield 7, 3) := by decide +kernel
theorem dX12_counts_131 : decode cX12_counts 131 = .ok (.bipush 16, 2) := by decide +kernel
theorem dX12_counts_133 : decode cX12_counts 133 = .ok (.iload_n 1, 1) := by decide +kernel
theorem dX12_counts_134 : decode cX12_counts 134 = .ok (.iadd, 1) := by decide +kernel
theorem dX12_counts_135 : decode cX12_counts 135 = .ok (.dup2, 1) := by decide +kernel
theorem dX12_counts_136 : decode cX12_counts 136 = .ok (.iaload, 1) := by decide +kernel
theorem dX12_counts_137 : decode cX12_counts 137 = .ok (.iconst 1, 1) := by decide +kernel
theorem dX12_counts_138 : decode cX12_counts 138 = .ok (.iadd, 1) := by decide +kernel
theorem dX12_counts_139 : decode cX12_counts 139 = .ok (.iastore, 1) := by decide +kernel
theorem dX12_counts_140 : decode cX12_counts 140 = .ok (.goto 20, 3) := by decide +kernel
theorem dX12_counts_143 : decode cX12_counts 143 = .ok (.aload_n 0, 1) := by decide +kernel
theorem dX12_counts_144 : decode cX12_counts 144 = .ok (.getfield 7, 3) := by decide +kernel
theorem dX12_counts_147 : decode cX12_counts 147 = .ok (.iload_n 3, 1) := by decide +kernel
theorem dX12_counts_148 : decode cX12_counts 148 = .ok (.iload_n 2, 1) := by decide +kernel
theorem dX12_counts_149 : decode cX12_counts 149 = .ok (.iastore, 1) := by decide +kernel
theorem dX12_counts_150 : decode cX12_counts 150 = .ok (.aload_n 0, 1) := by decide +kernel
theorem dX12_counts_151 : decode cX12_counts 151 = .ok (.getfield 7, 3) := by decide +kernel
theorem dX12_counts_154 : decode cX12_counts 154 = .ok (.bipush 16, 2) := by decide +kernel
theorem dX12_counts_156 : decode cX12_counts 156 = .ok (.iload_n 1, 1) := by decide +kernel
theorem dX12_counts_157 : decode cX12_counts 157 = .ok (.iadd, 1) := by decide +kernel
theorem dX12_counts_158 : decode cX12_counts 158 = .ok (.iconst 1, 1) := by decide +kernel
theorem dX12_counts_159 : decode cX12_counts 159 = .ok (.iastore, 1) := by decide +kernel
theorem dX12_counts_160 : decode cX12_counts 160 = .ok (.return_, 1) := by decide +kernel
set_option maxRecDepth 20000 in
theorem ggX12_query_X12_isNode : GoodIn wsX12_query wsX12_isNode := goodIn_r _ [8, 9, 10, 11, 7, 12, 50, 51, 52, 53, 54, 55, 56, 57, 58, 59, 60, 61, 62, 63, 64, 65, 66, 67, 68, 69, 70, 71, 72, 73, 74, 75, 76, 77, 78, 79, 80, 81, 82, 83, 84, 85, 86, 87] (by decide +kernel) (by decide +kernel)
set_option maxRecDepth 20000 in
theorem gX12_query_X12_isNode : GoodIn wsX12_query (wsV RX12 120 RX12 yX12_isNode wsX12_isNode) := goodIn_app (goodIn_of _ (by decide +kernel)) ggX12_query_X12_isNode
set_option maxRecDepth 20000 in
theorem ggX12_query_X12_isSample : GoodIn wsX12_query wsX12_isSample := goodIn_r _ [16, 9, 17, 18, 19, 7, 20, 21, 22, 23, 50, 51, 52, 53, 54, 55, 56, 57, 58, 59, 60, 61, 62, 63, 64, 65, 66, 67, 68, 69, 70, 71, 72, 73, 74, 75, 76, 77, 78, 79, 80, 81, 82, 83, 84, 85, 86, 87] (by decide +kernel) (by decide +kernel)
set_option maxRecDepth 20000 in
theorem gX12_query_X12_isSample : GoodIn wsX12_query (wsV RX12 139 RX12 yX12_isSample wsX12_isSample) := goodIn_app (goodIn_of _ (by decide +kernel)) ggX12_query_X12_isSample
set_option maxRecDepth 20000 in
theorem ggX12_query_X12_canAsk : GoodIn wsX12_query wsX12_canAsk := goodIn_r _ [27, 28, 50, 51, 52, 53, 54, 55, 56, 57, 58, 59, 60, 61, 62, 63, 64, 65, 66, 67, 68, 69, 70, 71, 72, 73, 74, 75, 76, 77, 78, 79, 80, 81, 82, 83, 84, 85, 86, 87] (by decide +kernel) (by decide +kernel)
set_option maxRecDepth 20000 in
theorem gX12_query_X12_canAsk : GoodIn wsX12_query (wsV RX12 142 RX12 yX12_canAsk wsX12_canAsk) := goodIn_app (goodIn_of _ (by decide +kernel)) ggX12_query_X12_canAsk
set_option maxRecDepth 20000 in
theorem ggX12_query_X12_keeps : GoodIn wsX12_query wsX12_keeps := goodIn_r _ [32, 33, 34, 28, 50, 51, 52, 53, 54, 55, 56, 57, 58, 59, 60, 61, 62, 63, 64, 65, 66, 67, 68, 69, 70, 71, 72, 73, 74, 75, 76, 77, 78, 79, 80, 81, 82, 83, 84, 85, 86, 87] (by decide +kernel) (by decide +kernel)
set_option maxRecDepth 20000 in
theorem gX12_query_X12_keeps : GoodIn wsX12_query (wsV RX12 124 RX12 yX12_keeps wsX12_keeps) := goodIn_app (goodIn_of _ (by decide +kernel)) ggX12_query_X12_keeps
set_option maxRecDepth 20000 in
theorem ggX12_query_X12_asks : GoodIn wsX12_query wsX12_asks := goodIn_r _ [38, 9, 39, 28, 40, 41, 18, 19, 7, 20, 42, 43, 44, 45, 46, 47, 48, 49, 50, 51, 52, 53, 54, 55, 56, 57, 58, 59, 60, 61, 62, 63, 64, 65, 66, 67, 68, 69, 70, 71, 72, 73, 74, 75, 76, 77, 78, 79, 80, 81, 82, 83, 84, 85, 86, 87] (by decide +kernel) (by decide +kernel)
set_option maxRecDepth 20000 in
theorem gX12_query_X12_asks : GoodIn wsX12_query (wsV RX12 145 RX12 yX12_asks wsX12_asks) := goodIn_app (goodIn_of _ (by decide +kernel)) ggX12_query_X12_asks
theorem dX12_query_0 : decode cX12_query 0 = .ok (.aload_n 0, 1) := by decide +kernel
theorem dX12_query_1 : decode cX12_query 1 = .ok (.iconst 0, 1) := by decide +kernel
theorem dX12_query_2 : decode cX12_query 2 = .ok (.putfield 97, 3) := by decide +kernel
theorem dX12_query_5 : decode cX12_query 5 = .ok (.aload_n 0, 1) := by decide +kernel
theorem dX12_query_6 : decode cX12_query 6 = .ok (.iload_n 1, 1) := by decide +kernel
theorem dX12_query_7 : decode cX12_query 7 = .ok (.invokevirtual 120, 3) := by decide +kernel
theorem dX12_query_10 : decode cX12_query 10 = .ok (.ifCond .eq 20, 3) := by decide +kernel
theorem dX12_query_13 : decode cX12_query 13 = .ok (.aload_n 0, 1) := by decide +kernel
theorem dX12_query_14 : decode cX12_query 14 = .ok (.iload_n 1, 1) := by decide +kernel
theorem dX12_query_15 : decode cX12_query 15 = .ok (.iload_n 2, 1) := by decide +kernel
theorem dX12_query_16 : decode cX12_query 16 = .ok (.invokevirtual 139, 3) := by decide +kernel
theorem dX12_query_19 : decode cX12_query 19 = .ok (.ifCond .eq 11, 3) := by decide +kernel
theorem dX12_query_22 : decode cX12_query 22 = .ok (.aload_n 0, 1) := by decide +kernel
theorem dX12_query_23 : decode cX12_query 23 = .ok (.iload_n 1, 1) := by decide +kernel
theorem dX12_query_24 : decode cX12_query 24 = .ok (.invokevirtual 142, 3) := by decide +kernel
theorem dX12_query_27 : decode cX12_query 27 = .ok (.ifCond .ne 5, 3) := by decide +kernel
theorem dX12_query_30 : decode cX12_query 30 = .ok (.iconst (-1), 1) := by decide +kernel
theorem dX12_query_31 : decode cX12_query 31 = .ok (.ireturn, 1) := by decide +kernel
theorem dX12_query_32 : decode cX12_query 32 = .ok (.aload_n 0, 1) := by decide +kernel
theorem dX12_query_33 : decode cX12_query 33 = .ok (.invokevirtual 124, 3) := by decide +kernel
theorem dX12_query_36 : decode cX12_query 36 = .ok (.aload_n 0, 1) := by decide +kernel
theorem dX12_query_37 : decode cX12_query 37 = .ok (.getfield 38, 3) := by decide +kernel
theorem dX12_query_40 : decode cX12_query 40 = .ok (.iload_n 1, 1) := by decide +kernel
theorem dX12_query_41 : decode cX12_query 41 = .ok (.dup2, 1) := by decide +kernel
theorem dX12_query_42 : decode cX12_query 42 = .ok (.iaload, 1) := by decide +kernel
theorem dX12_query_43 : decode cX12_query 43 = .ok (.iconst 1, 1) := by decide +kernel
theorem dX12_query_44 : decode cX12_query 44 = .ok (.iadd, 1) := by decide +kernel
theorem dX12_query_45 : decode cX12_query 45 = .ok (.iastore, 1) := by decide +kernel
theorem dX12_query_46 : decode cX12_query 46 = .ok (.aload_n 0, 1) := by decide +kernel
theorem dX12_query_47 : decode cX12_query 47 = .ok (.dup, 1) := by decide +kernel
theorem dX12_query_48 : decode cX12_query 48 = .ok (.getfield 107, 3) := by decide +kernel
theorem dX12_query_51 : decode cX12_query 51 = .ok (.iconst 1, 1) := by decide +kernel
theorem dX12_query_52 : decode cX12_query 52 = .ok (.iadd, 1) := by decide +kernel
theorem dX12_query_53 : decode cX12_query 53 = .ok (.putfield 107, 3) := by decide +kernel
theorem dX12_query_56 : decode cX12_query 56 = .ok (.aload_n 0, 1) := by decide +kernel
theorem dX12_query_57 : decode cX12_query 57 = .ok (.iload_n 1, 1) := by decide +kernel
theorem dX12_query_58 : decode cX12_query 58 = .ok (.iload_n 2, 1) := by decide +kernel
theorem dX12_query_59 : decode cX12_query 59 = .ok (.invokevirtual 145, 3) := by decide +kernel
theorem dX12_query_62 : decode cX12_query 62 = .ok (.ireturn, 1) := by decide +kernel
theorem dX12_puts_0 : decode cX12_puts 0 = .ok (.iconst 0, 1) := by decide +kernel
theorem dX12_puts_1 : decode cX12_puts 1 = .ok (.istore_n 3, 1) := by decide +kernel
theorem dX12_puts_2 : decode cX12_puts 2 = .ok (.iload_n 3, 1) := by decide +kernel
theorem dX12_puts_3 : decode cX12_puts 3 = .ok (.sipush 288, 3) := by decide +kernel
theorem dX12_puts_6 : decode cX12_puts 6 = .ok (.if_icmp .ge 15, 3) := by decide +kernel
theorem dX12_puts_9 : decode cX12_puts 9 = .ok (.aload_n 2, 1) := by decide +kernel
theorem dX12_puts_10 : decode cX12_puts 10 = .ok (.iload_n 3, 1) := by decide +kernel
theorem dX12_puts_11 : decode cX12_puts 11 = .ok (.aload_n 1, 1) := by decide +kernel
theorem dX12_puts_12 : decode cX12_puts 12 = .ok (.iload_n 3, 1) := by decide +kernel
theorem dX12_puts_13 : decode cX12_puts 13 = .ok (.iaload, 1) := by decide +kernel
theorem dX12_puts_14 : decode cX12_puts 14 = .ok (.iastore, 1) := by decide +kernel
theorem dX12_puts_15 : decode cX12_puts 15 = .ok (.iinc 3 1, 3) := by decide +kernel
theorem dX12_puts_18 : decode cX12_puts 18 = .ok (.goto (-16), 3) := by decide +kernel
theorem dX12_puts_21 : decode cX12_puts 21 = .ok (.return_, 1) := by decide +kernel
set_option maxRecDepth 20000 in
theorem ggX12_would_X12_isNode : GoodIn wsX12_would wsX12_isNode := goodIn_r _ [8, 9, 10, 11, 7, 12, 47, 48, 49, 50, 51, 52, 53, 54, 55, 56, 57, 58, 59, 60, 61, 62, 63, 64, 65, 66, 67, 68, 69, 70, 71, 72, 73, 74, 75, 76, 77, 78, 79, 80, 81, 82, 83, 84] (by decide +kernel) (by decide +kernel)
set_option maxRecDepth 20000 in
theorem gX12_would_X12_isNode : GoodIn wsX12_would (wsV RX12 120 RX12 yX12_isNode wsX12_isNode) := goodIn_app (goodIn_of _ (by decide +kernel)) ggX12_would_X12_isNode
set_option maxRecDepth 20000 in
theorem ggX12_would_X12_isSample : GoodIn wsX12_would wsX12_isSample := goodIn_r _ [16, 9, 17, 18, 19, 7, 20, 21, 22, 23, 47, 48, 49, 50, 51, 52, 53, 54, 55, 56, 57, 58, 59, 60, 61, 62, 63, 64, 65, 66, 67, 68, 69, 70, 71, 72, 73, 74, 75, 76, 77, 78, 79, 80, 81, 82, 83, 84] (by decide +kernel) (by decide +kernel)
set_option maxRecDepth 20000 in
theorem gX12_would_X12_isSample : GoodIn wsX12_would (wsV RX12 139 RX12 yX12_isSample wsX12_isSample) := goodIn_app (goodIn_of _ (by decide +kernel)) ggX12_would_X12_isSample
set_option maxRecDepth 20000 in
theorem ggX12_would_X12_canAsk : GoodIn wsX12_would wsX12_canAsk := goodIn_r _ [27, 2, 47, 48, 49, 50, 51, 52, 53, 54, 55, 56, 57, 58, 59, 60, 61, 62, 63, 64, 65, 66, 67, 68, 69, 70, 71, 72, 73, 74, 75, 76, 77, 78, 79, 80, 81, 82, 83, 84] (by decide +kernel) (by decide +kernel)
set_option maxRecDepth 20000 in
theorem gX12_would_X12_canAsk : GoodIn wsX12_would (wsV RX12 142 RX12 yX12_canAsk wsX12_canAsk) := goodIn_app (goodIn_of _ (by decide +kernel)) ggX12_would_X12_canAsk
set_option maxRecDepth 20000 in
theorem ggX12_would_X12_puts : GoodIn wsX12_would wsX12_puts := goodIn_r _ [31] (by decide +kernel) (by decide +kernel)
set_option maxRecDepth 20000 in
theorem gX12_would_X12_puts : GoodIn wsX12_would (wsV RX12 148 RX12 yX12_puts wsX12_puts) := goodIn_app (goodIn_of _ (by decide +kernel)) ggX12_would_X12_puts
set_option maxRecDepth 20000 in
theorem ggX12_would_X12_asks : GoodIn wsX12_would wsX12_asks := goodIn_r _ [35, 9, 36, 2, 37, 38, 18, 19, 7, 20, 39, 40, 41, 42, 43, 44, 45, 46, 47, 48, 49, 50, 51, 52, 53, 54, 55, 56, 57, 58, 59, 60, 61, 62, 63, 64, 65, 66, 67, 68, 69, 70, 71, 72, 73, 74, 75, 76, 77, 78, 79, 80, 81, 82, 83, 84] (by decide +kernel) (by decide +kernel)
set_option maxRecDepth 20000 in
theorem gX12_would_X12_asks : GoodIn wsX12_would (wsV RX12 145 RX12 yX12_asks wsX12_asks) := goodIn_app (goodIn_of _ (by decide +kernel)) ggX12_would_X12_asks
theorem dX12_would_0 : decode cX12_would 0 = .ok (.aload_n 0, 1) := by decide +kernel
theorem dX12_would_1 : decode cX12_would 1 = .ok (.iconst 0, 1) := by decide +kernel
theorem dX12_would_2 : decode cX12_would 2 = .ok (.putfield 97, 3) := by decide +kernel
theorem dX12_would_5 : decode cX12_would 5 = .ok (.aload_n 0, 1) := by decide +kernel
theorem dX12_would_6 : decode cX12_would 6 = .ok (.iload_n 1, 1) := by decide +kernel
theorem dX12_would_7 : decode cX12_would 7 = .ok (.invokevirtual 120, 3) := by decide +kernel
theorem dX12_would_10 : decode cX12_would 10 = .ok (.ifCond .eq 20, 3) := by decide +kernel
theorem dX12_would_13 : decode cX12_would 13 = .ok (.aload_n 0, 1) := by decide +kernel
theorem dX12_would_14 : decode cX12_would 14 = .ok (.iload_n 1, 1) := by decide +kernel
theorem dX12_would_15 : decode cX12_would 15 = .ok (.iload_n 2, 1) := by decide +kernel
theorem dX12_would_16 : decode cX12_would 16 = .ok (.invokevirtual 139, 3) := by decide +kernel
theorem dX12_would_19 : decode cX12_would 19 = .ok (.ifCond .eq 11, 3) := by decide +kernel
theorem dX12_would_22 : decode cX12_would 22 = .ok (.aload_n 0, 1) := by decide +kernel
theorem dX12_would_23 : decode cX12_would 23 = .ok (.iload_n 1, 1) := by decide +kernel
theorem dX12_would_24 : decode cX12_would 24 = .ok (.invokevirtual 142, 3) := by decide +kernel
theorem dX12_would_27 : decode cX12_would 27 = .ok (.ifCond .ne 5, 3) := by decide +kernel
theorem dX12_would_30 : decode cX12_would 30 = .ok (.iconst (-1), 1) := by decide +kernel
theorem dX12_would_31 : decode cX12_would 31 = .ok (.ireturn, 1) := by decide +kernel
theorem dX12_would_32 : decode cX12_would 32 = .ok (.aload_n 0, 1) := by decide +kernel
theorem dX12_would_33 : decode cX12_would 33 = .ok (.aload_n 0, 1) := by decide +kernel
theorem dX12_would_34 : decode cX12_would 34 = .ok (.getfield 7, 3) := by decide +kernel
theorem dX12_would_37 : decode cX12_would 37 = .ok (.aload_n 0, 1) := by decide +kernel
theorem dX12_would_38 : decode cX12_would 38 = .ok (.getfield 16, 3) := by decide +kernel
theorem dX12_would_41 : decode cX12_would 41 = .ok (.invokevirtual 148, 3) := by decide +kernel
theorem dX12_would_44 : decode cX12_would 44 = .ok (.aload_n 0, 1) := by decide +kernel
theorem dX12_would_45 : decode cX12_would 45 = .ok (.iload_n 1, 1) := by decide +kernel
theorem dX12_would_46 : decode cX12_would 46 = .ok (.iload_n 2, 1) := by decide +kernel
theorem dX12_would_47 : decode cX12_would 47 = .ok (.invokevirtual 145, 3) := by decide +kernel
theorem dX12_would_50 : decode cX12_would 50 = .ok (.istore_n 3, 1) := by decide +kernel
theorem dX12_would_51 : decode cX12_would 51 = .ok (.aload_n 0, 1) := by decide +kernel
theorem dX12_would_52 : decode cX12_would 52 = .ok (.aload_n 0, 1) := by decide +kernel
theorem dX12_would_53 : decode cX12_would 53 = .ok (.getfield 16, 3) := by decide +kernel
theorem dX12_would_56 : decode cX12_would 56 = .ok (.aload_n 0, 1) := by decide +kernel
theorem dX12_would_57 : decode cX12_would 57 = .ok (.getfield 7, 3) := by decide +kernel
theorem dX12_would_60 : decode cX12_would 60 = .ok (.invokevirtual 148, 3) := by decide +kernel
theorem dX12_would_63 : decode cX12_would 63 = .ok (.iload_n 3, 1) := by decide +kernel
theorem dX12_would_64 : decode cX12_would 64 = .ok (.ireturn, 1) := by decide +kernel
theorem dX12_draw_0 : decode cX12_draw 0 = .ok (.aload_n 0, 1) := by decide +kernel
theorem dX12_draw_1 : decode cX12_draw 1 = .ok (.aload_n 0, 1) := by decide +kernel
theorem dX12_draw_2 : decode cX12_draw 2 = .ok (.getfield 152, 3) := by decide +kernel
theorem dX12_draw_5 : decode cX12_draw 5 = .ok (.ldc 155, 2) := by decide +kernel
theorem dX12_draw_7 : decode cX12_draw 7 = .ok (.imul, 1) := by decide +kernel
theorem dX12_draw_8 : decode cX12_draw 8 = .ok (.sipush 12345, 3) := by decide +kernel
theorem dX12_draw_11 : decode cX12_draw 11 = .ok (.iadd, 1) := by decide +kernel
theorem dX12_draw_12 : decode cX12_draw 12 = .ok (.putfield 152, 3) := by decide +kernel
theorem dX12_draw_15 : decode cX12_draw 15 = .ok (.aload_n 0, 1) := by decide +kernel
theorem dX12_draw_16 : decode cX12_draw 16 = .ok (.getfield 152, 3) := by decide +kernel
theorem dX12_draw_19 : decode cX12_draw 19 = .ok (.bipush 8, 2) := by decide +kernel
theorem dX12_draw_21 : decode cX12_draw 21 = .ok (.iushr, 1) := by decide +kernel
theorem dX12_draw_22 : decode cX12_draw 22 = .ok (.iload_n 1, 1) := by decide +kernel
theorem dX12_draw_23 : decode cX12_draw 23 = .ok (.irem, 1) := by decide +kernel
theorem dX12_draw_24 : decode cX12_draw 24 = .ok (.ireturn, 1) := by decide +kernel
set_option maxRecDepth 20000 in
theorem ggX12_drawSample_X12_many : GoodIn wsX12_drawSample wsX12_many := goodIn_r _ [6, 7, 8, 5, 9] (by decide +kernel) (by decide +kernel)
set_option maxRecDepth 20000 in
theorem gX12_drawSample_X12_many : GoodIn wsX12_drawSample (va_wsS RX12 127 yX12_many wsX12_many) := goodIn_app (goodIn_of _ (by decide +kernel)) ggX12_drawSample_X12_many
set_option maxRecDepth 20000 in
theorem ggX12_drawSample_X12_draw : GoodIn wsX12_drawSample wsX12_draw := goodIn_r _ [13, 14, 15, 19, 20, 21, 22, 23, 24, 25, 26, 27, 28, 29, 30, 31, 32, 33, 34, 35, 36, 37, 38, 39, 40, 41, 42, 43, 44, 45, 46, 47, 48, 49, 50, 51, 52, 53, 54, 55, 56] (by decide +kernel) (by decide +kernel)
set_option maxRecDepth 20000 in
theorem gX12_drawSample_X12_draw : GoodIn wsX12_drawSample (wsV RX12 156 RX12 yX12_draw wsX12_draw) := goodIn_app (goodIn_of _ (by decide +kernel)) ggX12_drawSample_X12_draw
set_option maxRecDepth 20000 in
theorem ggX12_drawSample_X12_nth : GoodIn wsX12_drawSample wsX12_nth := goodIn_r _ [18, 7, 8, 5, 9] (by decide +kernel) (by decide +kernel)
set_option maxRecDepth 20000 in
theorem gX12_drawSample_X12_nth : GoodIn wsX12_drawSample (va_wsS RX12 159 yX12_nth wsX12_nth) := goodIn_app (goodIn_of _ (by decide +kernel)) ggX12_drawSample_X12_nth
theorem dX12_drawSample_0 : decode cX12_drawSample 0 = .ok (.iconst 1, 1) := by decide +kernel
theorem dX12_drawSample_1 : decode cX12_drawSample 1 = .ok (.aload_n 0, 1) := by decide +kernel
theorem dX12_drawSample_2 : decode cX12_drawSample 2 = .ok (.getfield 19, 3) := by decide +kernel
theorem dX12_drawSample_5 : decode cX12_drawSample 5 = .ok (.ishl, 1) := by decide +kernel
theorem dX12_drawSample_6 : decode cX12_drawSample 6 = .ok (.iconst 1, 1) := by decide +kernel
theorem dX12_drawSample_7 : decode cX12_drawSample 7 = .ok (.isub, 1) := by decide +kernel
theorem dX12_drawSample_8 : decode cX12_drawSample 8 = .ok (.iconst 1, 1) := by decide +kernel
theorem dX12_drawSample_9 : decode cX12_drawSample 9 = .ok (.iload_n 1, 1) := by decide +kernel
theorem dX12_drawSample_10 : decode cX12_drawSample 10 = .ok (.ishl, 1) := by decide +kernel
theorem dX12_drawSample_11 : decode cX12_drawSample 11 = .ok (.iconst (-1), 1) := by decide +kernel
theorem dX12_drawSample_12 : decode cX12_drawSample 12 = .ok (.ixor, 1) := by decide +kernel
theorem dX12_drawSample_13 : decode cX12_drawSample 13 = .ok (.iand, 1) := by decide +kernel
theorem dX12_drawSample_14 : decode cX12_drawSample 14 = .ok (.istore_n 2, 1) := by decide +kernel
theorem dX12_drawSample_15 : decode cX12_drawSample 15 = .ok (.iconst 0, 1) := by decide +kernel
theorem dX12_drawSample_16 : decode cX12_drawSample 16 = .ok (.istore_n 3, 1) := by decide +kernel
theorem dX12_drawSample_17 : decode cX12_drawSample 17 = .ok (.iconst 0, 1) := by decide +kernel
theorem dX12_drawSample_18 : decode cX12_drawSample 18 = .ok (.istore 4, 2) := by decide +kernel
theorem dX12_drawSample_20 : decode cX12_drawSample 20 = .ok (.iload 4, 2) := by decide +kernel
theorem dX12_drawSample_22 : decode cX12_drawSample 22 = .ok (.aload_n 0, 1) := by decide +kernel
theorem dX12_drawSample_23 : decode cX12_drawSample 23 = .ok (.getfield 23, 3) := by decide +kernel
theorem dX12_drawSample_26 : decode cX12_drawSample 26 = .ok (.if_icmp .ge 43, 3) := by decide +kernel
theorem dX12_drawSample_29 : decode cX12_drawSample 29 = .ok (.aload_n 0, 1) := by decide +kernel
theorem dX12_drawSample_30 : decode cX12_drawSample 30 = .ok (.iload_n 2, 1) := by decide +kernel
theorem dX12_drawSample_31 : decode cX12_drawSample 31 = .ok (.invokestatic 127, 3) := by decide +kernel
theorem dX12_drawSample_34 : decode cX12_drawSample 34 = .ok (.invokevirtual 156, 3) := by decide +kernel
theorem dX12_drawSample_37 : decode cX12_drawSample 37 = .ok (.istore 5, 2) := by decide +kernel
theorem dX12_drawSample_39 : decode cX12_drawSample 39 = .ok (.iload_n 2, 1) := by decide +kernel
theorem dX12_drawSample_40 : decode cX12_drawSample 40 = .ok (.iload 5, 2) := by decide +kernel
theorem dX12_drawSample_42 : decode cX12_drawSample 42 = .ok (.invokestatic 159, 3) := by decide +kernel
theorem dX12_drawSample_45 : decode cX12_drawSample 45 = .ok (.istore 6, 2) := by decide +kernel
theorem dX12_drawSample_47 : decode cX12_drawSample 47 = .ok (.iload_n 2, 1) := by decide +kernel
theorem dX12_drawSample_48 : decode cX12_drawSample 48 = .ok (.iconst 1, 1) := by decide +kernel
theorem dX12_drawSample_49 : decode cX12_drawSample 49 = .ok (.iload 6, 2) := by decide +kernel
theorem dX12_drawSample_51 : decode cX12_drawSample 51 = .ok (.ishl, 1) := by decide +kernel
theorem dX12_drawSample_52 : decode cX12_drawSample 52 = .ok (.iconst (-1), 1) := by decide +kernel
theorem dX12_drawSample_53 : decode cX12_drawSample 53 = .ok (.ixor, 1) := by decide +kernel
theorem dX12_drawSample_54 : decode cX12_drawSample 54 = .ok (.iand, 1) := by decide +kernel
theorem dX12_drawSample_55 : decode cX12_drawSample 55 = .ok (.istore_n 2, 1) := by decide +kernel
theorem dX12_drawSample_56 : decode cX12_drawSample 56 = .ok (.iload_n 3, 1) := by decide +kernel
theorem dX12_drawSample_57 : decode cX12_drawSample 57 = .ok (.iconst 1, 1) := by decide +kernel
theorem dX12_drawSample_58 : decode cX12_drawSample 58 = .ok (.iload 6, 2) := by decide +kernel
theorem dX12_drawSample_60 : decode cX12_drawSample 60 = .ok (.ishl, 1) := by decide +kernel
theorem dX12_drawSample_61 : decode cX12_drawSample 61 = .ok (.ior, 1) := by decide +kernel
theorem dX12_drawSample_62 : decode cX12_drawSample 62 = .ok (.istore_n 3, 1) := by decide +kernel
theorem dX12_drawSample_63 : decode cX12_drawSample 63 = .ok (.iinc 4 1, 3) := by decide +kernel
theorem dX12_drawSample_66 : decode cX12_drawSample 66 = .ok (.goto (-46), 3) := by decide +kernel
theorem dX12_drawSample_69 : decode cX12_drawSample 69 = .ok (.iload_n 3, 1) := by decide +kernel
theorem dX12_drawSample_70 : decode cX12_drawSample 70 = .ok (.ireturn, 1) := by decide +kernel
set_option maxRecDepth 20000 in
theorem ggX12_nth_X12_has : GoodIn wsX12_nth wsX12_has := goodIn_r _ [4] (by decide +kernel) (by decide +kernel)
set_option maxRecDepth 20000 in
theorem gX12_nth_X12_has : GoodIn wsX12_nth (va_wsS RX12 100 yX12_has wsX12_has) := goodIn_app (goodIn_of _ (by decide +kernel)) ggX12_nth_X12_has
theorem dX12_nth_0 : decode cX12_nth 0 = .ok (.iload_n 1, 1) := by decide +kernel
theorem dX12_nth_1 : decode cX12_nth 1 = .ok (.istore_n 2, 1) := by decide +kernel
theorem dX12_nth_2 : decode cX12_nth 2 = .ok (.iconst 0, 1) := by decide +kernel
theorem dX12_nth_3 : decode cX12_nth 3 = .ok (.istore_n 3, 1) := by decide +kernel
theorem dX12_nth_4 : decode cX12_nth 4 = .ok (.iload_n 0, 1) := by decide +kernel
theorem dX12_nth_5 : decode cX12_nth 5 = .ok (.iload_n 3, 1) := by decide +kernel
theorem dX12_nth_6 : decode cX12_nth 6 = .ok (.invokestatic 100, 3) := by decide +kernel
theorem dX12_nth_9 : decode cX12_nth 9 = .ok (.ifCond .ne 6, 3) := by decide +kernel
theorem dX12_nth_12 : decode cX12_nth 12 = .ok (.goto 12, 3) := by decide +kernel
theorem dX12_nth_15 : decode cX12_nth 15 = .ok (.iload_n 2, 1) := by decide +kernel
theorem dX12_nth_16 : decode cX12_nth 16 = .ok (.ifCond .ne 5, 3) := by decide +kernel
theorem dX12_nth_19 : decode cX12_nth 19 = .ok (.iload_n 3, 1) := by decide +kernel
theorem dX12_nth_20 : decode cX12_nth 20 = .ok (.ireturn, 1) := by decide +kernel
theorem dX12_nth_21 : decode cX12_nth 21 = .ok (.iinc 2 (-1), 3) := by decide +kernel
theorem dX12_nth_24 : decode cX12_nth 24 = .ok (.iinc 3 1, 3) := by decide +kernel
theorem dX12_nth_27 : decode cX12_nth 27 = .ok (.goto (-23), 3) := by decide +kernel
set_option maxRecDepth 20000 in
theorem ggX12_run_X12_within : GoodIn wsX12_run wsX12_within := goodIn_r _ [9] (by decide +kernel) (by decide +kernel)
set_option maxRecDepth 20000 in
theorem gX12_run_X12_within : GoodIn wsX12_run (va_wsS RX12 116 yX12_within wsX12_within) := goodIn_app (goodIn_of _ (by decide +kernel)) ggX12_run_X12_within
set_option maxRecDepth 20000 in
theorem ggX12_run_X12_keeps : GoodIn wsX12_run wsX12_keeps := goodIn_r _ [13, 14, 15, 16, 55, 56, 57, 58, 59, 60, 61, 62, 63, 64, 65, 66, 67, 68, 69, 70, 71, 72, 73, 74, 75, 76, 77, 78, 79, 80, 81, 82, 83, 84, 85, 86, 87, 88, 89, 90, 91, 92] (by decide +kernel) (by decide +kernel)
set_option maxRecDepth 20000 in
theorem gX12_run_X12_keeps : GoodIn wsX12_run (wsV RX12 124 RX12 yX12_keeps wsX12_keeps) := goodIn_app (goodIn_of _ (by decide +kernel)) ggX12_run_X12_keeps
set_option maxRecDepth 20000 in
theorem ggX12_run_X12_draw : GoodIn wsX12_run wsX12_draw := goodIn_r _ [20, 2, 21, 55, 56, 57, 58, 59, 60, 61, 62, 63, 64, 65, 66, 67, 68, 69, 70, 71, 72, 73, 74, 75, 76, 77, 78, 79, 80, 81, 82, 83, 84, 85, 86, 87, 88, 89, 90, 91, 92] (by decide +kernel) (by decide +kernel)
set_option maxRecDepth 20000 in
theorem gX12_run_X12_draw : GoodIn wsX12_run (wsV RX12 156 RX12 yX12_draw wsX12_draw) := goodIn_app (goodIn_of _ (by decide +kernel)) ggX12_run_X12_draw
set_option maxRecDepth 20000 in
theorem ggX12_run_X12_drawSample : GoodIn wsX12_run wsX12_drawSample := goodIn_r _ [25, 3, 26, 27, 28, 8, 29, 30, 31, 32, 17, 18, 19, 20, 2, 21, 33, 34, 35, 55, 56, 57, 58, 59, 60, 61, 62, 63, 64, 65, 66, 67, 68, 69, 70, 71, 72, 73, 74, 75, 76, 77, 78, 79, 80, 81, 82, 83, 84, 85, 86, 87, 88, 89, 90, 91, 92] (by decide +kernel) (by decide +kernel)
set_option maxRecDepth 20000 in
theorem gX12_run_X12_drawSample : GoodIn wsX12_run (wsV RX12 162 RX12 yX12_drawSample wsX12_drawSample) := goodIn_app (goodIn_of _ (by decide +kernel)) ggX12_run_X12_drawSample
set_option maxRecDepth 20000 in
theorem ggX12_run_X12_canAsk : GoodIn wsX12_run wsX12_canAsk := goodIn_r _ [39, 16, 55, 56, 57, 58, 59, 60, 61, 62, 63, 64, 65, 66, 67, 68, 69, 70, 71, 72, 73, 74, 75, 76, 77, 78, 79, 80, 81, 82, 83, 84, 85, 86, 87, 88, 89, 90, 91, 92] (by decide +kernel) (by decide +kernel)
set_option maxRecDepth 20000 in
theorem gX12_run_X12_canAsk : GoodIn wsX12_run (wsV RX12 142 RX12 yX12_canAsk wsX12_canAsk) := goodIn_app (goodIn_of _ (by decide +kernel)) ggX12_run_X12_canAsk
set_option maxRecDepth 20000 in
theorem ggX12_run_X12_asks : GoodIn wsX12_run wsX12_asks := goodIn_r _ [43, 3, 44, 16, 45, 46, 30, 31, 8, 32, 47, 48, 49, 50, 51, 52, 53, 54, 55, 56, 57, 58, 59, 60, 61, 62, 63, 64, 65, 66, 67, 68, 69, 70, 71, 72, 73, 74, 75, 76, 77, 78, 79, 80, 81, 82, 83, 84, 85, 86, 87, 88, 89, 90, 91, 92] (by decide +kernel) (by decide +kernel)
set_option maxRecDepth 20000 in
theorem gX12_run_X12_asks : GoodIn wsX12_run (wsV RX12 145 RX12 yX12_asks wsX12_asks) := goodIn_app (goodIn_of _ (by decide +kernel)) ggX12_run_X12_asks
theorem dX12_run_0 : decode cX12_run 0 = .ok (.aload_n 0, 1) := by decide +kernel
theorem dX12_run_1 : decode cX12_run 1 = .ok (.iconst 0, 1) := by decide +kernel
theorem dX12_run_2 : decode cX12_run 2 = .ok (.putfield 97, 3) := by decide +kernel
theorem dX12_run_5 : decode cX12_run 5 = .ok (.iload_n 1, 1) := by decide +kernel
theorem dX12_run_6 : decode cX12_run 6 = .ok (.iconst 1, 1) := by decide +kernel
theorem dX12_run_7 : decode cX12_run 7 = .ok (.sipush 300, 3) := by decide +kernel
theorem dX12_run_10 : decode cX12_run 10 = .ok (.invokestatic 116, 3) := by decide +kernel
theorem dX12_run_13 : decode cX12_run 13 = .ok (.ifCond .ne 5, 3) := by decide +kernel
theorem dX12_run_16 : decode cX12_run 16 = .ok (.iconst (-1), 1) := by decide +kernel
theorem dX12_run_17 : decode cX12_run 17 = .ok (.ireturn, 1) := by decide +kernel
theorem dX12_run_18 : decode cX12_run 18 = .ok (.aload_n 0, 1) := by decide +kernel
theorem dX12_run_19 : decode cX12_run 19 = .ok (.invokevirtual 124, 3) := by decide +kernel
theorem dX12_run_22 : decode cX12_run 22 = .ok (.aload_n 0, 1) := by decide +kernel
theorem dX12_run_23 : decode cX12_run 23 = .ok (.iload_n 2, 1) := by decide +kernel
theorem dX12_run_24 : decode cX12_run 24 = .ok (.putfield 152, 3) := by decide +kernel
theorem dX12_run_27 : decode cX12_run 27 = .ok (.iconst 0, 1) := by decide +kernel
theorem dX12_run_28 : decode cX12_run 28 = .ok (.istore_n 3, 1) := by decide +kernel
theorem dX12_run_29 : decode cX12_run 29 = .ok (.iconst 0, 1) := by decide +kernel
theorem dX12_run_30 : decode cX12_run 30 = .ok (.istore 4, 2) := by decide +kernel
theorem dX12_run_32 : decode cX12_run 32 = .ok (.iload 4, 2) := by decide +kernel
theorem dX12_run_34 : decode cX12_run 34 = .ok (.iload_n 1, 1) := by decide +kernel
theorem dX12_run_35 : decode cX12_run 35 = .ok (.if_icmp .ge 75, 3) := by decide +kernel
theorem dX12_run_38 : decode cX12_run 38 = .ok (.aload_n 0, 1) := by decide +kernel
theorem dX12_run_39 : decode cX12_run 39 = .ok (.aload_n 0, 1) := by decide +kernel
theorem dX12_run_40 : decode cX12_run 40 = .ok (.getfield 19, 3) := by decide +kernel
theorem dX12_run_43 : decode cX12_run 43 = .ok (.invokevirtual 156, 3) := by decide +kernel
theorem dX12_run_46 : decode cX12_run 46 = .ok (.istore 5, 2) := by decide +kernel
theorem dX12_run_48 : decode cX12_run 48 = .ok (.aload_n 0, 1) := by decide +kernel
theorem dX12_run_49 : decode cX12_run 49 = .ok (.iload 5, 2) := by decide +kernel
theorem dX12_run_51 : decode cX12_run 51 = .ok (.invokevirtual 162, 3) := by decide +kernel
theorem dX12_run_54 : decode cX12_run 54 = .ok (.istore 6, 2) := by decide +kernel
theorem dX12_run_56 : decode cX12_run 56 = .ok (.aload_n 0, 1) := by decide +kernel
theorem dX12_run_57 : decode cX12_run 57 = .ok (.iload 5, 2) := by decide +kernel
theorem dX12_run_59 : decode cX12_run 59 = .ok (.invokevirtual 142, 3) := by decide +kernel
theorem dX12_run_62 : decode cX12_run 62 = .ok (.ifCond .ne 6, 3) := by decide +kernel
theorem dX12_run_65 : decode cX12_run 65 = .ok (.goto 39, 3) := by decide +kernel
theorem dX12_run_68 : decode cX12_run 68 = .ok (.aload_n 0, 1) := by decide +kernel
theorem dX12_run_69 : decode cX12_run 69 = .ok (.getfield 38, 3) := by decide +kernel
theorem dX12_run_72 : decode cX12_run 72 = .ok (.iload 5, 2) := by decide +kernel
theorem dX12_run_74 : decode cX12_run 74 = .ok (.dup2, 1) := by decide +kernel
theorem dX12_run_75 : decode cX12_run 75 = .ok (.iaload, 1) := by decide +kernel
theorem dX12_run_76 : decode cX12_run 76 = .ok (.iconst 1, 1) := by decide +kernel
theorem dX12_run_77 : decode cX12_run 77 = .ok (.iadd, 1) := by decide +kernel
theorem dX12_run_78 : decode cX12_run 78 = .ok (.iastore, 1) := by decide +kernel
theorem dX12_run_79 : decode cX12_run 79 = .ok (.aload_n 0, 1) := by decide +kernel
theorem dX12_run_80 : decode cX12_run 80 = .ok (.dup, 1) := by decide +kernel
theorem dX12_run_81 : decode cX12_run 81 = .ok (.getfield 107, 3) := by decide +kernel
theorem dX12_run_84 : decode cX12_run 84 = .ok (.iconst 1, 1) := by decide +kernel
theorem dX12_run_85 : decode cX12_run 85 = .ok (.iadd, 1) := by decide +kernel
theorem dX12_run_86 : decode cX12_run 86 = .ok (.putfield 107, 3) := by decide +kernel
theorem dX12_run_89 : decode cX12_run 89 = .ok (.aload_n 0, 1) := by decide +kernel
theorem dX12_run_90 : decode cX12_run 90 = .ok (.iload 5, 2) := by decide +kernel
theorem dX12_run_92 : decode cX12_run 92 = .ok (.iload 6, 2) := by decide +kernel
theorem dX12_run_94 : decode cX12_run 94 = .ok (.invokevirtual 145, 3) := by decide +kernel
theorem dX12_run_97 : decode cX12_run 97 = .ok (.iconst 2, 1) := by decide +kernel
theorem dX12_run_98 : decode cX12_run 98 = .ok (.if_icmp .ne 6, 3) := by decide +kernel
theorem dX12_run_101 : decode cX12_run 101 = .ok (.iinc 3 1, 3) := by decide +kernel
theorem dX12_run_104 : decode cX12_run 104 = .ok (.iinc 4 1, 3) := by decide +kernel
theorem dX12_run_107 : decode cX12_run 107 = .ok (.goto (-75), 3) := by decide +kernel
theorem dX12_run_110 : decode cX12_run 110 = .ok (.iload_n 3, 1) := by decide +kernel
theorem dX12_run_111 : decode cX12_run 111 = .ok (.ireturn, 1) := by decide +kernel
set_option maxRecDepth 20000 in
theorem ggX12_node_X12_isNode : GoodIn wsX12_node wsX12_isNode := goodIn_r _ [8, 9, 10, 11, 7, 12, 13, 14, 15, 16, 17, 18, 19, 20, 21, 22, 23, 24, 25, 26, 27, 28, 29, 30, 31, 32, 33, 34, 35, 36, 37, 38, 39, 40, 41, 42, 43, 44, 45, 46, 47, 48, 49, 50] (by decide +kernel) (by decide +kernel)
set_option maxRecDepth 20000 in
theorem gX12_node_X12_isNode : GoodIn wsX12_node (wsV RX12 120 RX12 yX12_isNode wsX12_isNode) := goodIn_app (goodIn_of _ (by decide +kernel)) ggX12_node_X12_isNode
theorem dX12_node_0 : decode cX12_node 0 = .ok (.aload_n 0, 1) := by decide +kernel
theorem dX12_node_1 : decode cX12_node 1 = .ok (.iconst 0, 1) := by decide +kernel
theorem dX12_node_2 : decode cX12_node 2 = .ok (.putfield 97, 3) := by decide +kernel
theorem dX12_node_5 : decode cX12_node 5 = .ok (.aload_n 0, 1) := by decide +kernel
theorem dX12_node_6 : decode cX12_node 6 = .ok (.iload_n 1, 1) := by decide +kernel
theorem dX12_node_7 : decode cX12_node 7 = .ok (.invokevirtual 120, 3) := by decide +kernel
theorem dX12_node_10 : decode cX12_node 10 = .ok (.ifCond .ne 6, 3) := by decide +kernel
theorem dX12_node_13 : decode cX12_node 13 = .ok (.bipush (-2), 2) := by decide +kernel
theorem dX12_node_15 : decode cX12_node 15 = .ok (.ireturn, 1) := by decide +kernel
theorem dX12_node_16 : decode cX12_node 16 = .ok (.iload_n 2, 1) := by decide +kernel
theorem dX12_node_17 : decode cX12_node 17 = .ok (.tableswitch 123 0 7 #[47, 56, 66, 76, 86, 96, 106, 116], 47) := by decide +kernel
theorem dX12_node_64 : decode cX12_node 64 = .ok (.aload_n 0, 1) := by decide +kernel
theorem dX12_node_65 : decode cX12_node 65 = .ok (.getfield 7, 3) := by decide +kernel
theorem dX12_node_68 : decode cX12_node 68 = .ok (.iconst 0, 1) := by decide +kernel
theorem dX12_node_69 : decode cX12_node 69 = .ok (.iload_n 1, 1) := by decide +kernel
theorem dX12_node_70 : decode cX12_node 70 = .ok (.iadd, 1) := by decide +kernel
theorem dX12_node_71 : decode cX12_node 71 = .ok (.iaload, 1) := by decide +kernel
theorem dX12_node_72 : decode cX12_node 72 = .ok (.ireturn, 1) := by decide +kernel
theorem dX12_node_73 : decode cX12_node 73 = .ok (.aload_n 0, 1) := by decide +kernel
theorem dX12_node_74 : decode cX12_node 74 = .ok (.getfield 7, 3) := by decide +kernel
theorem dX12_node_77 : decode cX12_node 77 = .ok (.bipush 8, 2) := by decide +kernel
theorem dX12_node_79 : decode cX12_node 79 = .ok (.iload_n 1, 1) := by decide +kernel
theorem dX12_node_80 : decode cX12_node 80 = .ok (.iadd, 1) := by decide +kernel
theorem dX12_node_81 : decode cX12_node 81 = .ok (.iaload, 1) := by decide +kernel
theorem dX12_node_82 : decode cX12_node 82 = .ok (.ireturn, 1) := by decide +kernel
theorem dX12_node_83 : decode cX12_node 83 = .ok (.aload_n 0, 1) := by decide +kernel
theorem dX12_node_84 : decode cX12_node 84 = .ok (.getfield 7, 3) := by decide +kernel
theorem dX12_node_87 : decode cX12_node 87 = .ok (.bipush 16, 2) := by decide +kernel
theorem dX12_node_89 : decode cX12_node 89 = .ok (.iload_n 1, 1) := by decide +kernel
theorem dX12_node_90 : decode cX12_node 90 = .ok (.iadd, 1) := by decide +kernel
theorem dX12_node_91 : decode cX12_node 91 = .ok (.iaload, 1) := by decide +kernel
theorem dX12_node_92 : decode cX12_node 92 = .ok (.ireturn, 1) := by decide +kernel
theorem dX12_node_93 : decode cX12_node 93 = .ok (.aload_n 0, 1) := by decide +kernel
theorem dX12_node_94 : decode cX12_node 94 = .ok (.getfield 7, 3) := by decide +kernel
theorem dX12_node_97 : decode cX12_node 97 = .ok (.bipush 24, 2) := by decide +kernel
theorem dX12_node_99 : decode cX12_node 99 = .ok (.iload_n 1, 1) := by decide +kernel
theorem dX12_node_100 : decode cX12_node 100 = .ok (.iadd, 1) := by decide +kernel
theorem dX12_node_101 : decode cX12_node 101 = .ok (.iaload, 1) := by decide +kernel
theorem dX12_node_102 : decode cX12_node 102 = .ok (.ireturn, 1) := by decide +kernel
theorem dX12_node_103 : decode cX12_node 103 = .ok (.aload_n 0, 1) := by decide +kernel
theorem dX12_node_104 : decode cX12_node 104 = .ok (.getfield 7, 3) := by decide +kernel
theorem dX12_node_107 : decode cX12_node 107 = .ok (.bipush 32, 2) := by decide +kernel
theorem dX12_node_109 : decode cX12_node 109 = .ok (.iload_n 1, 1) := by decide +kernel
theorem dX12_node_110 : decode cX12_node 110 = .ok (.iadd, 1) := by decide +kernel
theorem dX12_node_111 : decode cX12_node 111 = .ok (.iaload, 1) := by decide +kernel
theorem dX12_node_112 : decode cX12_node 112 = .ok (.ireturn, 1) := by decide +kernel
theorem dX12_node_113 : decode cX12_node 113 = .ok (.aload_n 0, 1) := by decide +kernel
theorem dX12_node_114 : decode cX12_node 114 = .ok (.getfield 7, 3) := by decide +kernel
theorem dX12_node_117 : decode cX12_node 117 = .ok (.bipush 40, 2) := by decide +kernel
theorem dX12_node_119 : decode cX12_node 119 = .ok (.iload_n 1, 1) := by decide +kernel
theorem dX12_node_120 : decode cX12_node 120 = .ok (.iadd, 1) := by decide +kernel
theorem dX12_node_121 : decode cX12_node 121 = .ok (.iaload, 1) := by decide +kernel
theorem dX12_node_122 : decode cX12_node 122 = .ok (.ireturn, 1) := by decide +kernel
theorem dX12_node_123 : decode cX12_node 123 = .ok (.aload_n 0, 1) := by decide +kernel
theorem dX12_node_124 : decode cX12_node 124 = .ok (.getfield 7, 3) := by decide +kernel
theorem dX12_node_127 : decode cX12_node 127 = .ok (.bipush 48, 2) := by decide +kernel
theorem dX12_node_129 : decode cX12_node 129 = .ok (.iload_n 1, 1) := by decide +kernel
theorem dX12_node_130 : decode cX12_node 130 = .ok (.iadd, 1) := by decide +kernel
theorem dX12_node_131 : decode cX12_node 131 = .ok (.iaload, 1) := by decide +kernel
theorem dX12_node_132 : decode cX12_node 132 = .ok (.ireturn, 1) := by decide +kernel
theorem dX12_node_133 : decode cX12_node 133 = .ok (.aload_n 0, 1) := by decide +kernel
theorem dX12_node_134 : decode cX12_node 134 = .ok (.getfield 38, 3) := by decide +kernel
theorem dX12_node_137 : decode cX12_node 137 = .ok (.iload_n 1, 1) := by decide +kernel
theorem dX12_node_138 : decode cX12_node 138 = .ok (.iaload, 1) := by decide +kernel
theorem dX12_node_139 : decode cX12_node 139 = .ok (.ireturn, 1) := by decide +kernel
theorem dX12_node_140 : decode cX12_node 140 = .ok (.bipush (-2), 2) := by decide +kernel
theorem dX12_node_142 : decode cX12_node 142 = .ok (.ireturn, 1) := by decide +kernel
set_option maxRecDepth 20000 in
theorem ggX12_areSplit_X12_isDecided : GoodIn wsX12_areSplit wsX12_isDecided := goodIn_r _ [7, 2, 8, 9, 10, 11, 12, 13, 14, 15, 16, 17, 18, 19, 20, 21, 22, 23, 24, 25, 26, 27, 28, 29, 30, 31, 32, 33, 34, 35, 36, 37, 38, 39, 40, 41, 42, 43, 44, 45] (by decide +kernel) (by decide +kernel)
set_option maxRecDepth 20000 in
theorem gX12_areSplit_X12_isDecided : GoodIn wsX12_areSplit (wsV RX12 165 RX12 yX12_isDecided wsX12_isDecided) := goodIn_app (goodIn_of _ (by decide +kernel)) ggX12_areSplit_X12_isDecided
theorem dX12_areSplit_0 : decode cX12_areSplit 0 = .ok (.iconst 0, 1) := by decide +kernel
theorem dX12_areSplit_1 : decode cX12_areSplit 1 = .ok (.istore_n 1, 1) := by decide +kernel
theorem dX12_areSplit_2 : decode cX12_areSplit 2 = .ok (.iload_n 1, 1) := by decide +kernel
theorem dX12_areSplit_3 : decode cX12_areSplit 3 = .ok (.aload_n 0, 1) := by decide +kernel
theorem dX12_areSplit_4 : decode cX12_areSplit 4 = .ok (.getfield 19, 3) := by decide +kernel
theorem dX12_areSplit_7 : decode cX12_areSplit 7 = .ok (.if_icmp .ge 59, 3) := by decide +kernel
theorem dX12_areSplit_10 : decode cX12_areSplit 10 = .ok (.iconst 0, 1) := by decide +kernel
theorem dX12_areSplit_11 : decode cX12_areSplit 11 = .ok (.istore_n 2, 1) := by decide +kernel
theorem dX12_areSplit_12 : decode cX12_areSplit 12 = .ok (.iload_n 2, 1) := by decide +kernel
theorem dX12_areSplit_13 : decode cX12_areSplit 13 = .ok (.iload_n 1, 1) := by decide +kernel
theorem dX12_areSplit_14 : decode cX12_areSplit 14 = .ok (.if_icmp .ge 46, 3) := by decide +kernel
theorem dX12_areSplit_17 : decode cX12_areSplit 17 = .ok (.aload_n 0, 1) := by decide +kernel
theorem dX12_areSplit_18 : decode cX12_areSplit 18 = .ok (.iload_n 1, 1) := by decide +kernel
theorem dX12_areSplit_19 : decode cX12_areSplit 19 = .ok (.invokevirtual 165, 3) := by decide +kernel
theorem dX12_areSplit_22 : decode cX12_areSplit 22 = .ok (.ifCond .eq 32, 3) := by decide +kernel
theorem dX12_areSplit_25 : decode cX12_areSplit 25 = .ok (.aload_n 0, 1) := by decide +kernel
theorem dX12_areSplit_26 : decode cX12_areSplit 26 = .ok (.iload_n 2, 1) := by decide +kernel
theorem dX12_areSplit_27 : decode cX12_areSplit 27 = .ok (.invokevirtual 165, 3) := by decide +kernel
theorem dX12_areSplit_30 : decode cX12_areSplit 30 = .ok (.ifCond .eq 24, 3) := by decide +kernel
theorem dX12_areSplit_33 : decode cX12_areSplit 33 = .ok (.aload_n 0, 1) := by decide +kernel
theorem dX12_areSplit_34 : decode cX12_areSplit 34 = .ok (.getfield 7, 3) := by decide +kernel
theorem dX12_areSplit_37 : decode cX12_areSplit 37 = .ok (.iconst 0, 1) := by decide +kernel
theorem dX12_areSplit_38 : decode cX12_areSplit 38 = .ok (.iload_n 1, 1) := by decide +kernel
theorem dX12_areSplit_39 : decode cX12_areSplit 39 = .ok (.iadd, 1) := by decide +kernel
theorem dX12_areSplit_40 : decode cX12_areSplit 40 = .ok (.iaload, 1) := by decide +kernel
theorem dX12_areSplit_41 : decode cX12_areSplit 41 = .ok (.aload_n 0, 1) := by decide +kernel
theorem dX12_areSplit_42 : decode cX12_areSplit 42 = .ok (.getfield 7, 3) := by decide +kernel
theorem dX12_areSplit_45 : decode cX12_areSplit 45 = .ok (.iconst 0, 1) := by decide +kernel
theorem dX12_areSplit_46 : decode cX12_areSplit 46 = .ok (.iload_n 2, 1) := by decide +kernel
theorem dX12_areSplit_47 : decode cX12_areSplit 47 = .ok (.iadd, 1) := by decide +kernel
theorem dX12_areSplit_48 : decode cX12_areSplit 48 = .ok (.iaload, 1) := by decide +kernel
theorem dX12_areSplit_49 : decode cX12_areSplit 49 = .ok (.if_icmp .eq 5, 3) := by decide +kernel
theorem dX12_areSplit_52 : decode cX12_areSplit 52 = .ok (.iconst 1, 1) := by decide +kernel
theorem dX12_areSplit_53 : decode cX12_areSplit 53 = .ok (.ireturn, 1) := by decide +kernel
theorem dX12_areSplit_54 : decode cX12_areSplit 54 = .ok (.iinc 2 1, 3) := by decide +kernel
theorem dX12_areSplit_57 : decode cX12_areSplit 57 = .ok (.goto (-45), 3) := by decide +kernel
theorem dX12_areSplit_60 : decode cX12_areSplit 60 = .ok (.iinc 1 1, 3) := by decide +kernel
theorem dX12_areSplit_63 : decode cX12_areSplit 63 = .ok (.goto (-61), 3) := by decide +kernel
theorem dX12_areSplit_66 : decode cX12_areSplit 66 = .ok (.iconst 0, 1) := by decide +kernel
theorem dX12_areSplit_67 : decode cX12_areSplit 67 = .ok (.ireturn, 1) := by decide +kernel
theorem dX12_isDecided_0 : decode cX12_isDecided 0 = .ok (.aload_n 0, 1) := by decide +kernel
theorem dX12_isDecided_1 : decode cX12_isDecided 1 = .ok (.getfield 7, 3) := by decide +kernel
theorem dX12_isDecided_4 : decode cX12_isDecided 4 = .ok (.bipush 48, 2) := by decide +kernel
theorem dX12_isDecided_6 : decode cX12_isDecided 6 = .ok (.iload_n 1, 1) := by decide +kernel
theorem dX12_isDecided_7 : decode cX12_isDecided 7 = .ok (.iadd, 1) := by decide +kernel
theorem dX12_isDecided_8 : decode cX12_isDecided 8 = .ok (.iaload, 1) := by decide +kernel
theorem dX12_isDecided_9 : decode cX12_isDecided 9 = .ok (.ifCond .ne 20, 3) := by decide +kernel
theorem dX12_isDecided_12 : decode cX12_isDecided 12 = .ok (.aload_n 0, 1) := by decide +kernel
theorem dX12_isDecided_13 : decode cX12_isDecided 13 = .ok (.getfield 7, 3) := by decide +kernel
theorem dX12_isDecided_16 : decode cX12_isDecided 16 = .ok (.bipush 40, 2) := by decide +kernel
theorem dX12_isDecided_18 : decode cX12_isDecided 18 = .ok (.iload_n 1, 1) := by decide +kernel
theorem dX12_isDecided_19 : decode cX12_isDecided 19 = .ok (.iadd, 1) := by decide +kernel
theorem dX12_isDecided_20 : decode cX12_isDecided 20 = .ok (.iaload, 1) := by decide +kernel
theorem dX12_isDecided_21 : decode cX12_isDecided 21 = .ok (.iconst 1, 1) := by decide +kernel
theorem dX12_isDecided_22 : decode cX12_isDecided 22 = .ok (.if_icmp .ne 7, 3) := by decide +kernel
theorem dX12_isDecided_25 : decode cX12_isDecided 25 = .ok (.iconst 1, 1) := by decide +kernel
theorem dX12_isDecided_26 : decode cX12_isDecided 26 = .ok (.goto 4, 3) := by decide +kernel
theorem dX12_isDecided_29 : decode cX12_isDecided 29 = .ok (.iconst 0, 1) := by decide +kernel
theorem dX12_isDecided_30 : decode cX12_isDecided 30 = .ok (.ireturn, 1) := by decide +kernel
set_option maxRecDepth 20000 in
theorem ggX12_areAgreed_X12_isDecided : GoodIn wsX12_areAgreed wsX12_isDecided := goodIn_r _ [7, 2, 8, 9, 10, 11, 12, 13, 14, 15, 16, 17, 18, 19, 20, 21, 22, 23, 24, 25, 26, 27, 28, 29, 30, 31, 32, 33, 34, 35, 36, 37, 38, 39, 40, 41, 42, 43, 44, 45] (by decide +kernel) (by decide +kernel)
set_option maxRecDepth 20000 in
theorem gX12_areAgreed_X12_isDecided : GoodIn wsX12_areAgreed (wsV RX12 165 RX12 yX12_isDecided wsX12_isDecided) := goodIn_app (goodIn_of _ (by decide +kernel)) ggX12_areAgreed_X12_isDecided
theorem dX12_areAgreed_0 : decode cX12_areAgreed 0 = .ok (.iconst (-1), 1) := by decide +kernel
theorem dX12_areAgreed_1 : decode cX12_areAgreed 1 = .ok (.istore_n 1, 1) := by decide +kernel
theorem dX12_areAgreed_2 : decode cX12_areAgreed 2 = .ok (.iconst 0, 1) := by decide +kernel
theorem dX12_areAgreed_3 : decode cX12_areAgreed 3 = .ok (.istore_n 2, 1) := by decide +kernel
theorem dX12_areAgreed_4 : decode cX12_areAgreed 4 = .ok (.iload_n 2, 1) := by decide +kernel
theorem dX12_areAgreed_5 : decode cX12_areAgreed 5 = .ok (.aload_n 0, 1) := by decide +kernel
theorem dX12_areAgreed_6 : decode cX12_areAgreed 6 = .ok (.getfield 19, 3) := by decide +kernel
theorem dX12_areAgreed_9 : decode cX12_areAgreed 9 = .ok (.if_icmp .ge 59, 3) := by decide +kernel
theorem dX12_areAgreed_12 : decode cX12_areAgreed 12 = .ok (.aload_n 0, 1) := by decide +kernel
theorem dX12_areAgreed_13 : decode cX12_areAgreed 13 = .ok (.getfield 7, 3) := by decide +kernel
theorem dX12_areAgreed_16 : decode cX12_areAgreed 16 = .ok (.bipush 48, 2) := by decide +kernel
theorem dX12_areAgreed_18 : decode cX12_areAgreed 18 = .ok (.iload_n 2, 1) := by decide +kernel
theorem dX12_areAgreed_19 : decode cX12_areAgreed 19 = .ok (.iadd, 1) := by decide +kernel
theorem dX12_areAgreed_20 : decode cX12_areAgreed 20 = .ok (.iaload, 1) := by decide +kernel
theorem dX12_areAgreed_21 : decode cX12_areAgreed 21 = .ok (.ifCond .eq 6, 3) := by decide +kernel
theorem dX12_areAgreed_24 : decode cX12_areAgreed 24 = .ok (.goto 38, 3) := by decide +kernel
theorem dX12_areAgreed_27 : decode cX12_areAgreed 27 = .ok (.aload_n 0, 1) := by decide +kernel
theorem dX12_areAgreed_28 : decode cX12_areAgreed 28 = .ok (.iload_n 2, 1) := by decide +kernel
theorem dX12_areAgreed_29 : decode cX12_areAgreed 29 = .ok (.invokevirtual 165, 3) := by decide +kernel
theorem dX12_areAgreed_32 : decode cX12_areAgreed 32 = .ok (.ifCond .eq 19, 3) := by decide +kernel
theorem dX12_areAgreed_35 : decode cX12_areAgreed 35 = .ok (.iload_n 1, 1) := by decide +kernel
theorem dX12_areAgreed_36 : decode cX12_areAgreed 36 = .ok (.ifCond .lt 17, 3) := by decide +kernel
theorem dX12_areAgreed_39 : decode cX12_areAgreed 39 = .ok (.aload_n 0, 1) := by decide +kernel
theorem dX12_areAgreed_40 : decode cX12_areAgreed 40 = .ok (.getfield 7, 3) := by decide +kernel
theorem dX12_areAgreed_43 : decode cX12_areAgreed 43 = .ok (.iconst 0, 1) := by decide +kernel
theorem dX12_areAgreed_44 : decode cX12_areAgreed 44 = .ok (.iload_n 2, 1) := by decide +kernel
theorem dX12_areAgreed_45 : decode cX12_areAgreed 45 = .ok (.iadd, 1) := by decide +kernel
theorem dX12_areAgreed_46 : decode cX12_areAgreed 46 = .ok (.iaload, 1) := by decide +kernel
theorem dX12_areAgreed_47 : decode cX12_areAgreed 47 = .ok (.iload_n 1, 1) := by decide +kernel
theorem dX12_areAgreed_48 : decode cX12_areAgreed 48 = .ok (.if_icmp .eq 5, 3) := by decide +kernel
theorem dX12_areAgreed_51 : decode cX12_areAgreed 51 = .ok (.iconst 0, 1) := by decide +kernel
theorem dX12_areAgreed_52 : decode cX12_areAgreed 52 = .ok (.ireturn, 1) := by decide +kernel
theorem dX12_areAgreed_53 : decode cX12_areAgreed 53 = .ok (.aload_n 0, 1) := by decide +kernel
theorem dX12_areAgreed_54 : decode cX12_areAgreed 54 = .ok (.getfield 7, 3) := by decide +kernel
theorem dX12_areAgreed_57 : decode cX12_areAgreed 57 = .ok (.iconst 0, 1) := by decide +kernel
theorem dX12_areAgreed_58 : decode cX12_areAgreed 58 = .ok (.iload_n 2, 1) := by decide +kernel
theorem dX12_areAgreed_59 : decode cX12_areAgreed 59 = .ok (.iadd, 1) := by decide +kernel
theorem dX12_areAgreed_60 : decode cX12_areAgreed 60 = .ok (.iaload, 1) := by decide +kernel
theorem dX12_areAgreed_61 : decode cX12_areAgreed 61 = .ok (.istore_n 1, 1) := by decide +kernel
theorem dX12_areAgreed_62 : decode cX12_areAgreed 62 = .ok (.iinc 2 1, 3) := by decide +kernel
theorem dX12_areAgreed_65 : decode cX12_areAgreed 65 = .ok (.goto (-61), 3) := by decide +kernel
theorem dX12_areAgreed_68 : decode cX12_areAgreed 68 = .ok (.iload_n 1, 1) := by decide +kernel
theorem dX12_areAgreed_69 : decode cX12_areAgreed 69 = .ok (.ifCond .lt 7, 3) := by decide +kernel
theorem dX12_areAgreed_72 : decode cX12_areAgreed 72 = .ok (.iconst 1, 1) := by decide +kernel
theorem dX12_areAgreed_73 : decode cX12_areAgreed 73 = .ok (.goto 4, 3) := by decide +kernel
theorem dX12_areAgreed_76 : decode cX12_areAgreed 76 = .ok (.iconst 0, 1) := by decide +kernel
theorem dX12_areAgreed_77 : decode cX12_areAgreed 77 = .ok (.ireturn, 1) := by decide +kernel
theorem dX12_coloured_0 : decode cX12_coloured 0 = .ok (.iconst 0, 1) := by decide +kernel
theorem dX12_coloured_1 : decode cX12_coloured 1 = .ok (.istore_n 1, 1) := by decide +kernel
theorem dX12_coloured_2 : decode cX12_coloured 2 = .ok (.iconst 0, 1) := by decide +kernel
theorem dX12_coloured_3 : decode cX12_coloured 3 = .ok (.istore_n 2, 1) := by decide +kernel
theorem dX12_coloured_4 : decode cX12_coloured 4 = .ok (.iload_n 2, 1) := by decide +kernel
theorem dX12_coloured_5 : decode cX12_coloured 5 = .ok (.aload_n 0, 1) := by decide +kernel
theorem dX12_coloured_6 : decode cX12_coloured 6 = .ok (.getfield 19, 3) := by decide +kernel
theorem dX12_coloured_9 : decode cX12_coloured 9 = .ok (.if_icmp .ge 39, 3) := by decide +kernel
theorem dX12_coloured_12 : decode cX12_coloured 12 = .ok (.aload_n 0, 1) := by decide +kernel
theorem dX12_coloured_13 : decode cX12_coloured 13 = .ok (.getfield 7, 3) := by decide +kernel
theorem dX12_coloured_16 : decode cX12_coloured 16 = .ok (.bipush 48, 2) := by decide +kernel
theorem dX12_coloured_18 : decode cX12_coloured 18 = .ok (.iload_n 2, 1) := by decide +kernel
theorem dX12_coloured_19 : decode cX12_coloured 19 = .ok (.iadd, 1) := by decide +kernel
theorem dX12_coloured_20 : decode cX12_coloured 20 = .ok (.iaload, 1) := by decide +kernel
theorem dX12_coloured_21 : decode cX12_coloured 21 = .ok (.ifCond .ne 21, 3) := by decide +kernel
theorem dX12_coloured_24 : decode cX12_coloured 24 = .ok (.aload_n 0, 1) := by decide +kernel
theorem dX12_coloured_25 : decode cX12_coloured 25 = .ok (.getfield 7, 3) := by decide +kernel
theorem dX12_coloured_28 : decode cX12_coloured 28 = .ok (.iconst 0, 1) := by decide +kernel
theorem dX12_coloured_29 : decode cX12_coloured 29 = .ok (.iload_n 2, 1) := by decide +kernel
theorem dX12_coloured_30 : decode cX12_coloured 30 = .ok (.iadd, 1) := by decide +kernel
theorem dX12_coloured_31 : decode cX12_coloured 31 = .ok (.iaload, 1) := by decide +kernel
theorem dX12_coloured_32 : decode cX12_coloured 32 = .ok (.iconst 1, 1) := by decide +kernel
theorem dX12_coloured_33 : decode cX12_coloured 33 = .ok (.if_icmp .ne 9, 3) := by decide +kernel
theorem dX12_coloured_36 : decode cX12_coloured 36 = .ok (.iload_n 1, 1) := by decide +kernel
theorem dX12_coloured_37 : decode cX12_coloured 37 = .ok (.iconst 1, 1) := by decide +kernel
theorem dX12_coloured_38 : decode cX12_coloured 38 = .ok (.iload_n 2, 1) := by decide +kernel
theorem dX12_coloured_39 : decode cX12_coloured 39 = .ok (.ishl, 1) := by decide +kernel
theorem dX12_coloured_40 : decode cX12_coloured 40 = .ok (.ior, 1) := by decide +kernel
theorem dX12_coloured_41 : decode cX12_coloured 41 = .ok (.istore_n 1, 1) := by decide +kernel
theorem dX12_coloured_42 : decode cX12_coloured 42 = .ok (.iinc 2 1, 3) := by decide +kernel
theorem dX12_coloured_45 : decode cX12_coloured 45 = .ok (.goto (-41), 3) := by decide +kernel
theorem dX12_coloured_48 : decode cX12_coloured 48 = .ok (.iload_n 1, 1) := by decide +kernel
theorem dX12_coloured_49 : decode cX12_coloured 49 = .ok (.ireturn, 1) := by decide +kernel
theorem dX12_room_0 : decode cX12_room 0 = .ok (.iconst 0, 1) := by decide +kernel
theorem dX12_room_1 : decode cX12_room 1 = .ok (.istore_n 1, 1) := by decide +kernel
theorem dX12_room_2 : decode cX12_room 2 = .ok (.iload_n 1, 1) := by decide +kernel
theorem dX12_room_3 : decode cX12_room 3 = .ok (.iconst 2, 1) := by decide +kernel
theorem dX12_room_4 : decode cX12_room 4 = .ok (.if_icmp .ge 50, 3) := by decide +kernel
theorem dX12_room_7 : decode cX12_room 7 = .ok (.aload_n 0, 1) := by decide +kernel
theorem dX12_room_8 : decode cX12_room 8 = .ok (.getfield 54, 3) := by decide +kernel
theorem dX12_room_11 : decode cX12_room 11 = .ok (.iload_n 1, 1) := by decide +kernel
theorem dX12_room_12 : decode cX12_room 12 = .ok (.aaload, 1) := by decide +kernel
theorem dX12_room_13 : decode cX12_room 13 = .ok (.ifnonnull 41, 3) := by decide +kernel
theorem dX12_room_16 : decode cX12_room 16 = .ok (.aload_n 0, 1) := by decide +kernel
theorem dX12_room_17 : decode cX12_room 17 = .ok (.getfield 54, 3) := by decide +kernel
theorem dX12_room_20 : decode cX12_room 20 = .ok (.iload_n 1, 1) := by decide +kernel
theorem dX12_room_21 : decode cX12_room 21 = .ok (.ldc 168, 2) := by decide +kernel
theorem dX12_room_23 : decode cX12_room 23 = .ok (.newarray .int, 2) := by decide +kernel
theorem dX12_room_25 : decode cX12_room 25 = .ok (.aastore, 1) := by decide +kernel
theorem dX12_room_26 : decode cX12_room 26 = .ok (.aload_n 0, 1) := by decide +kernel
theorem dX12_room_27 : decode cX12_room 27 = .ok (.getfield 61, 3) := by decide +kernel
theorem dX12_room_30 : decode cX12_room 30 = .ok (.iload_n 1, 1) := by decide +kernel
theorem dX12_room_31 : decode cX12_room 31 = .ok (.sipush 8192, 3) := by decide +kernel
theorem dX12_room_34 : decode cX12_room 34 = .ok (.newarray .int, 2) := by decide +kernel
theorem dX12_room_36 : decode cX12_room 36 = .ok (.aastore, 1) := by decide +kernel
theorem dX12_room_37 : decode cX12_room 37 = .ok (.aload_n 0, 1) := by decide +kernel
theorem dX12_room_38 : decode cX12_room 38 = .ok (.getfield 66, 3) := by decide +kernel
theorem dX12_room_41 : decode cX12_room 41 = .ok (.iload_n 1, 1) := by decide +kernel
theorem dX12_room_42 : decode cX12_room 42 = .ok (.sipush 2001, 3) := by decide +kernel
theorem dX12_room_45 : decode cX12_room 45 = .ok (.newarray .long, 2) := by decide +kernel
theorem dX12_room_47 : decode cX12_room 47 = .ok (.aastore, 1) := by decide +kernel
theorem dX12_room_48 : decode cX12_room 48 = .ok (.iinc 1 1, 3) := by decide +kernel
theorem dX12_room_51 : decode cX12_room 51 = .ok (.goto (-49), 3) := by decide +kernel
theorem dX12_room_54 : decode cX12_room 54 = .ok (.return_, 1) := by decide +kernel
theorem dX12_clears_0 : decode cX12_clears 0 = .ok (.aload_n 0, 1) := by decide +kernel
theorem dX12_clears_1 : decode cX12_clears 1 = .ok (.getfield 58, 3) := by decide +kernel
theorem dX12_clears_4 : decode cX12_clears 4 = .ok (.iload_n 1, 1) := by decide +kernel
theorem dX12_clears_5 : decode cX12_clears 5 = .ok (.iconst 0, 1) := by decide +kernel
theorem dX12_clears_6 : decode cX12_clears 6 = .ok (.iastore, 1) := by decide +kernel
theorem dX12_clears_7 : decode cX12_clears 7 = .ok (.iconst 0, 1) := by decide +kernel
theorem dX12_clears_8 : decode cX12_clears 8 = .ok (.istore_n 2, 1) := by decide +kernel
theorem dX12_clears_9 : decode cX12_clears 9 = .ok (.iload_n 2, 1) := by decide +kernel
theorem dX12_clears_10 : decode cX12_clears 10 = .ok (.sipush 8192, 3) := by decide +kernel
theorem dX12_clears_13 : decode cX12_clears 13 = .ok (.if_icmp .ge 18, 3) := by decide +kernel
theorem dX12_clears_16 : decode cX12_clears 16 = .ok (.aload_n 0, 1) := by decide +kernel
theorem dX12_clears_17 : decode cX12_clears 17 = .ok (.getfield 61, 3) := by decide +kernel
