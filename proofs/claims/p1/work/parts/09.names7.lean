theorem dX12_clears_20 : decode cX12_clears 20 = .ok (.iload_n 1, 1) := by decide +kernel
theorem dX12_clears_21 : decode cX12_clears 21 = .ok (.aaload, 1) := by decide +kernel
theorem dX12_clears_22 : decode cX12_clears 22 = .ok (.iload_n 2, 1) := by decide +kernel
theorem dX12_clears_23 : decode cX12_clears 23 = .ok (.iconst 0, 1) := by decide +kernel
theorem dX12_clears_24 : decode cX12_clears 24 = .ok (.iastore, 1) := by decide +kernel
theorem dX12_clears_25 : decode cX12_clears 25 = .ok (.iinc 2 1, 3) := by decide +kernel
theorem dX12_clears_28 : decode cX12_clears 28 = .ok (.goto (-19), 3) := by decide +kernel
theorem dX12_clears_31 : decode cX12_clears 31 = .ok (.return_, 1) := by decide +kernel
theorem dX12_slot_0 : decode cX12_slot 0 = .ok (.bipush 17, 2) := by decide +kernel
theorem dX12_slot_2 : decode cX12_slot 2 = .ok (.istore_n 1, 1) := by decide +kernel
theorem dX12_slot_3 : decode cX12_slot 3 = .ok (.iconst 0, 1) := by decide +kernel
theorem dX12_slot_4 : decode cX12_slot 4 = .ok (.istore_n 2, 1) := by decide +kernel
theorem dX12_slot_5 : decode cX12_slot 5 = .ok (.iload_n 2, 1) := by decide +kernel
theorem dX12_slot_6 : decode cX12_slot 6 = .ok (.bipush 48, 2) := by decide +kernel
theorem dX12_slot_8 : decode cX12_slot 8 = .ok (.if_icmp .ge 21, 3) := by decide +kernel
theorem dX12_slot_11 : decode cX12_slot 11 = .ok (.bipush 31, 2) := by decide +kernel
theorem dX12_slot_13 : decode cX12_slot 13 = .ok (.iload_n 1, 1) := by decide +kernel
theorem dX12_slot_14 : decode cX12_slot 14 = .ok (.imul, 1) := by decide +kernel
theorem dX12_slot_15 : decode cX12_slot 15 = .ok (.aload_n 0, 1) := by decide +kernel
theorem dX12_slot_16 : decode cX12_slot 16 = .ok (.getfield 7, 3) := by decide +kernel
theorem dX12_slot_19 : decode cX12_slot 19 = .ok (.iload_n 2, 1) := by decide +kernel
theorem dX12_slot_20 : decode cX12_slot 20 = .ok (.iaload, 1) := by decide +kernel
theorem dX12_slot_21 : decode cX12_slot 21 = .ok (.iadd, 1) := by decide +kernel
theorem dX12_slot_22 : decode cX12_slot 22 = .ok (.istore_n 1, 1) := by decide +kernel
theorem dX12_slot_23 : decode cX12_slot 23 = .ok (.iinc 2 1, 3) := by decide +kernel
theorem dX12_slot_26 : decode cX12_slot 26 = .ok (.goto (-21), 3) := by decide +kernel
theorem dX12_slot_29 : decode cX12_slot 29 = .ok (.iload_n 1, 1) := by decide +kernel
theorem dX12_slot_30 : decode cX12_slot 30 = .ok (.iload_n 1, 1) := by decide +kernel
theorem dX12_slot_31 : decode cX12_slot 31 = .ok (.bipush 15, 2) := by decide +kernel
theorem dX12_slot_33 : decode cX12_slot 33 = .ok (.iushr, 1) := by decide +kernel
theorem dX12_slot_34 : decode cX12_slot 34 = .ok (.ixor, 1) := by decide +kernel
theorem dX12_slot_35 : decode cX12_slot 35 = .ok (.istore_n 1, 1) := by decide +kernel
theorem dX12_slot_36 : decode cX12_slot 36 = .ok (.iload_n 1, 1) := by decide +kernel
theorem dX12_slot_37 : decode cX12_slot 37 = .ok (.sipush 8191, 3) := by decide +kernel
theorem dX12_slot_40 : decode cX12_slot 40 = .ok (.iand, 1) := by decide +kernel
theorem dX12_slot_41 : decode cX12_slot 41 = .ok (.ireturn, 1) := by decide +kernel
theorem dX12_isAsNow_0 : decode cX12_isAsNow 0 = .ok (.iconst 0, 1) := by decide +kernel
theorem dX12_isAsNow_1 : decode cX12_isAsNow 1 = .ok (.istore_n 3, 1) := by decide +kernel
theorem dX12_isAsNow_2 : decode cX12_isAsNow 2 = .ok (.iload_n 3, 1) := by decide +kernel
theorem dX12_isAsNow_3 : decode cX12_isAsNow 3 = .ok (.bipush 48, 2) := by decide +kernel
theorem dX12_isAsNow_5 : decode cX12_isAsNow 5 = .ok (.if_icmp .ge 33, 3) := by decide +kernel
theorem dX12_isAsNow_8 : decode cX12_isAsNow 8 = .ok (.aload_n 0, 1) := by decide +kernel
theorem dX12_isAsNow_9 : decode cX12_isAsNow 9 = .ok (.getfield 54, 3) := by decide +kernel
theorem dX12_isAsNow_12 : decode cX12_isAsNow 12 = .ok (.iload_n 1, 1) := by decide +kernel
theorem dX12_isAsNow_13 : decode cX12_isAsNow 13 = .ok (.aaload, 1) := by decide +kernel
theorem dX12_isAsNow_14 : decode cX12_isAsNow 14 = .ok (.bipush 48, 2) := by decide +kernel
theorem dX12_isAsNow_16 : decode cX12_isAsNow 16 = .ok (.iload_n 2, 1) := by decide +kernel
theorem dX12_isAsNow_17 : decode cX12_isAsNow 17 = .ok (.imul, 1) := by decide +kernel
theorem dX12_isAsNow_18 : decode cX12_isAsNow 18 = .ok (.iload_n 3, 1) := by decide +kernel
theorem dX12_isAsNow_19 : decode cX12_isAsNow 19 = .ok (.iadd, 1) := by decide +kernel
theorem dX12_isAsNow_20 : decode cX12_isAsNow 20 = .ok (.iaload, 1) := by decide +kernel
theorem dX12_isAsNow_21 : decode cX12_isAsNow 21 = .ok (.aload_n 0, 1) := by decide +kernel
theorem dX12_isAsNow_22 : decode cX12_isAsNow 22 = .ok (.getfield 7, 3) := by decide +kernel
theorem dX12_isAsNow_25 : decode cX12_isAsNow 25 = .ok (.iload_n 3, 1) := by decide +kernel
theorem dX12_isAsNow_26 : decode cX12_isAsNow 26 = .ok (.iaload, 1) := by decide +kernel
theorem dX12_isAsNow_27 : decode cX12_isAsNow 27 = .ok (.if_icmp .eq 5, 3) := by decide +kernel
theorem dX12_isAsNow_30 : decode cX12_isAsNow 30 = .ok (.iconst 0, 1) := by decide +kernel
theorem dX12_isAsNow_31 : decode cX12_isAsNow 31 = .ok (.ireturn, 1) := by decide +kernel
theorem dX12_isAsNow_32 : decode cX12_isAsNow 32 = .ok (.iinc 3 1, 3) := by decide +kernel
theorem dX12_isAsNow_35 : decode cX12_isAsNow 35 = .ok (.goto (-33), 3) := by decide +kernel
theorem dX12_isAsNow_38 : decode cX12_isAsNow 38 = .ok (.iconst 1, 1) := by decide +kernel
theorem dX12_isAsNow_39 : decode cX12_isAsNow 39 = .ok (.ireturn, 1) := by decide +kernel
set_option maxRecDepth 20000 in
theorem ggX12_numberOf_X12_slot : GoodIn wsX12_numberOf wsX12_slot := goodIn_r _ [10, 4, 15, 16, 17, 18, 19, 20, 21, 22, 23, 24, 25, 26, 27, 28, 29, 30, 31, 32, 33, 34, 35, 36, 37, 38, 39, 40, 41, 42, 43, 44, 45, 46, 47, 48, 49, 50, 51, 52] (by decide +kernel) (by decide +kernel)
set_option maxRecDepth 20000 in
theorem gX12_numberOf_X12_slot : GoodIn wsX12_numberOf (wsV RX12 169 RX12 yX12_slot wsX12_slot) := goodIn_app (goodIn_of _ (by decide +kernel)) ggX12_numberOf_X12_slot
set_option maxRecDepth 20000 in
theorem ggX12_numberOf_X12_isAsNow : GoodIn wsX12_numberOf wsX12_isAsNow := goodIn_r _ [14, 3, 4, 15, 16, 17, 18, 19, 20, 21, 22, 23, 24, 25, 26, 27, 28, 29, 30, 31, 32, 33, 34, 35, 36, 37, 38, 39, 40, 41, 42, 43, 44, 45, 46, 47, 48, 49, 50, 51, 52] (by decide +kernel) (by decide +kernel)
set_option maxRecDepth 20000 in
theorem gX12_numberOf_X12_isAsNow : GoodIn wsX12_numberOf (wsV RX12 173 RX12 yX12_isAsNow wsX12_isAsNow) := goodIn_app (goodIn_of _ (by decide +kernel)) ggX12_numberOf_X12_isAsNow
theorem dX12_numberOf_0 : decode cX12_numberOf 0 = .ok (.aload_n 0, 1) := by decide +kernel
theorem dX12_numberOf_1 : decode cX12_numberOf 1 = .ok (.invokevirtual 169, 3) := by decide +kernel
theorem dX12_numberOf_4 : decode cX12_numberOf 4 = .ok (.istore_n 3, 1) := by decide +kernel
theorem dX12_numberOf_5 : decode cX12_numberOf 5 = .ok (.aload_n 0, 1) := by decide +kernel
theorem dX12_numberOf_6 : decode cX12_numberOf 6 = .ok (.getfield 61, 3) := by decide +kernel
theorem dX12_numberOf_9 : decode cX12_numberOf 9 = .ok (.iload_n 1, 1) := by decide +kernel
theorem dX12_numberOf_10 : decode cX12_numberOf 10 = .ok (.aaload, 1) := by decide +kernel
theorem dX12_numberOf_11 : decode cX12_numberOf 11 = .ok (.iload_n 3, 1) := by decide +kernel
theorem dX12_numberOf_12 : decode cX12_numberOf 12 = .ok (.iaload, 1) := by decide +kernel
theorem dX12_numberOf_13 : decode cX12_numberOf 13 = .ok (.ifCond .le 43, 3) := by decide +kernel
theorem dX12_numberOf_16 : decode cX12_numberOf 16 = .ok (.aload_n 0, 1) := by decide +kernel
theorem dX12_numberOf_17 : decode cX12_numberOf 17 = .ok (.iload_n 1, 1) := by decide +kernel
theorem dX12_numberOf_18 : decode cX12_numberOf 18 = .ok (.aload_n 0, 1) := by decide +kernel
theorem dX12_numberOf_19 : decode cX12_numberOf 19 = .ok (.getfield 61, 3) := by decide +kernel
theorem dX12_numberOf_22 : decode cX12_numberOf 22 = .ok (.iload_n 1, 1) := by decide +kernel
theorem dX12_numberOf_23 : decode cX12_numberOf 23 = .ok (.aaload, 1) := by decide +kernel
theorem dX12_numberOf_24 : decode cX12_numberOf 24 = .ok (.iload_n 3, 1) := by decide +kernel
theorem dX12_numberOf_25 : decode cX12_numberOf 25 = .ok (.iaload, 1) := by decide +kernel
theorem dX12_numberOf_26 : decode cX12_numberOf 26 = .ok (.iconst 1, 1) := by decide +kernel
theorem dX12_numberOf_27 : decode cX12_numberOf 27 = .ok (.isub, 1) := by decide +kernel
theorem dX12_numberOf_28 : decode cX12_numberOf 28 = .ok (.invokevirtual 173, 3) := by decide +kernel
theorem dX12_numberOf_31 : decode cX12_numberOf 31 = .ok (.ifCond .eq 14, 3) := by decide +kernel
theorem dX12_numberOf_34 : decode cX12_numberOf 34 = .ok (.aload_n 0, 1) := by decide +kernel
theorem dX12_numberOf_35 : decode cX12_numberOf 35 = .ok (.getfield 61, 3) := by decide +kernel
theorem dX12_numberOf_38 : decode cX12_numberOf 38 = .ok (.iload_n 1, 1) := by decide +kernel
theorem dX12_numberOf_39 : decode cX12_numberOf 39 = .ok (.aaload, 1) := by decide +kernel
theorem dX12_numberOf_40 : decode cX12_numberOf 40 = .ok (.iload_n 3, 1) := by decide +kernel
theorem dX12_numberOf_41 : decode cX12_numberOf 41 = .ok (.iaload, 1) := by decide +kernel
theorem dX12_numberOf_42 : decode cX12_numberOf 42 = .ok (.iconst 1, 1) := by decide +kernel
theorem dX12_numberOf_43 : decode cX12_numberOf 43 = .ok (.isub, 1) := by decide +kernel
theorem dX12_numberOf_44 : decode cX12_numberOf 44 = .ok (.ireturn, 1) := by decide +kernel
theorem dX12_numberOf_45 : decode cX12_numberOf 45 = .ok (.iload_n 3, 1) := by decide +kernel
theorem dX12_numberOf_46 : decode cX12_numberOf 46 = .ok (.iconst 1, 1) := by decide +kernel
theorem dX12_numberOf_47 : decode cX12_numberOf 47 = .ok (.iadd, 1) := by decide +kernel
theorem dX12_numberOf_48 : decode cX12_numberOf 48 = .ok (.sipush 8192, 3) := by decide +kernel
theorem dX12_numberOf_51 : decode cX12_numberOf 51 = .ok (.irem, 1) := by decide +kernel
theorem dX12_numberOf_52 : decode cX12_numberOf 52 = .ok (.istore_n 3, 1) := by decide +kernel
theorem dX12_numberOf_53 : decode cX12_numberOf 53 = .ok (.goto (-48), 3) := by decide +kernel
theorem dX12_numberOf_56 : decode cX12_numberOf 56 = .ok (.aload_n 0, 1) := by decide +kernel
theorem dX12_numberOf_57 : decode cX12_numberOf 57 = .ok (.getfield 58, 3) := by decide +kernel
theorem dX12_numberOf_60 : decode cX12_numberOf 60 = .ok (.iload_n 1, 1) := by decide +kernel
theorem dX12_numberOf_61 : decode cX12_numberOf 61 = .ok (.iaload, 1) := by decide +kernel
theorem dX12_numberOf_62 : decode cX12_numberOf 62 = .ok (.iload_n 2, 1) := by decide +kernel
theorem dX12_numberOf_63 : decode cX12_numberOf 63 = .ok (.if_icmp .ne 5, 3) := by decide +kernel
theorem dX12_numberOf_66 : decode cX12_numberOf 66 = .ok (.iconst (-1), 1) := by decide +kernel
theorem dX12_numberOf_67 : decode cX12_numberOf 67 = .ok (.ireturn, 1) := by decide +kernel
theorem dX12_numberOf_68 : decode cX12_numberOf 68 = .ok (.aload_n 0, 1) := by decide +kernel
theorem dX12_numberOf_69 : decode cX12_numberOf 69 = .ok (.getfield 58, 3) := by decide +kernel
theorem dX12_numberOf_72 : decode cX12_numberOf 72 = .ok (.iload_n 1, 1) := by decide +kernel
theorem dX12_numberOf_73 : decode cX12_numberOf 73 = .ok (.iaload, 1) := by decide +kernel
theorem dX12_numberOf_74 : decode cX12_numberOf 74 = .ok (.istore 4, 2) := by decide +kernel
theorem dX12_numberOf_76 : decode cX12_numberOf 76 = .ok (.iconst 0, 1) := by decide +kernel
theorem dX12_numberOf_77 : decode cX12_numberOf 77 = .ok (.istore 5, 2) := by decide +kernel
theorem dX12_numberOf_79 : decode cX12_numberOf 79 = .ok (.iload 5, 2) := by decide +kernel
theorem dX12_numberOf_81 : decode cX12_numberOf 81 = .ok (.bipush 48, 2) := by decide +kernel
theorem dX12_numberOf_83 : decode cX12_numberOf 83 = .ok (.if_icmp .ge 31, 3) := by decide +kernel
theorem dX12_numberOf_86 : decode cX12_numberOf 86 = .ok (.aload_n 0, 1) := by decide +kernel
theorem dX12_numberOf_87 : decode cX12_numberOf 87 = .ok (.getfield 54, 3) := by decide +kernel
theorem dX12_numberOf_90 : decode cX12_numberOf 90 = .ok (.iload_n 1, 1) := by decide +kernel
theorem dX12_numberOf_91 : decode cX12_numberOf 91 = .ok (.aaload, 1) := by decide +kernel
theorem dX12_numberOf_92 : decode cX12_numberOf 92 = .ok (.bipush 48, 2) := by decide +kernel
theorem dX12_numberOf_94 : decode cX12_numberOf 94 = .ok (.iload 4, 2) := by decide +kernel
theorem dX12_numberOf_96 : decode cX12_numberOf 96 = .ok (.imul, 1) := by decide +kernel
theorem dX12_numberOf_97 : decode cX12_numberOf 97 = .ok (.iload 5, 2) := by decide +kernel
theorem dX12_numberOf_99 : decode cX12_numberOf 99 = .ok (.iadd, 1) := by decide +kernel
theorem dX12_numberOf_100 : decode cX12_numberOf 100 = .ok (.aload_n 0, 1) := by decide +kernel
theorem dX12_numberOf_101 : decode cX12_numberOf 101 = .ok (.getfield 7, 3) := by decide +kernel
theorem dX12_numberOf_104 : decode cX12_numberOf 104 = .ok (.iload 5, 2) := by decide +kernel
theorem dX12_numberOf_106 : decode cX12_numberOf 106 = .ok (.iaload, 1) := by decide +kernel
theorem dX12_numberOf_107 : decode cX12_numberOf 107 = .ok (.iastore, 1) := by decide +kernel
theorem dX12_numberOf_108 : decode cX12_numberOf 108 = .ok (.iinc 5 1, 3) := by decide +kernel
theorem dX12_numberOf_111 : decode cX12_numberOf 111 = .ok (.goto (-32), 3) := by decide +kernel
theorem dX12_numberOf_114 : decode cX12_numberOf 114 = .ok (.aload_n 0, 1) := by decide +kernel
theorem dX12_numberOf_115 : decode cX12_numberOf 115 = .ok (.getfield 66, 3) := by decide +kernel
theorem dX12_numberOf_118 : decode cX12_numberOf 118 = .ok (.iload_n 1, 1) := by decide +kernel
theorem dX12_numberOf_119 : decode cX12_numberOf 119 = .ok (.aaload, 1) := by decide +kernel
theorem dX12_numberOf_120 : decode cX12_numberOf 120 = .ok (.iload 4, 2) := by decide +kernel
theorem dX12_numberOf_122 : decode cX12_numberOf 122 = .ok (.lconst 0, 1) := by decide +kernel
theorem dX12_numberOf_123 : decode cX12_numberOf 123 = .ok (.lastore, 1) := by decide +kernel
theorem dX12_numberOf_124 : decode cX12_numberOf 124 = .ok (.aload_n 0, 1) := by decide +kernel
theorem dX12_numberOf_125 : decode cX12_numberOf 125 = .ok (.getfield 58, 3) := by decide +kernel
theorem dX12_numberOf_128 : decode cX12_numberOf 128 = .ok (.iload_n 1, 1) := by decide +kernel
theorem dX12_numberOf_129 : decode cX12_numberOf 129 = .ok (.dup2, 1) := by decide +kernel
theorem dX12_numberOf_130 : decode cX12_numberOf 130 = .ok (.iaload, 1) := by decide +kernel
theorem dX12_numberOf_131 : decode cX12_numberOf 131 = .ok (.iconst 1, 1) := by decide +kernel
theorem dX12_numberOf_132 : decode cX12_numberOf 132 = .ok (.iadd, 1) := by decide +kernel
theorem dX12_numberOf_133 : decode cX12_numberOf 133 = .ok (.iastore, 1) := by decide +kernel
theorem dX12_numberOf_134 : decode cX12_numberOf 134 = .ok (.aload_n 0, 1) := by decide +kernel
theorem dX12_numberOf_135 : decode cX12_numberOf 135 = .ok (.getfield 61, 3) := by decide +kernel
theorem dX12_numberOf_138 : decode cX12_numberOf 138 = .ok (.iload_n 1, 1) := by decide +kernel
theorem dX12_numberOf_139 : decode cX12_numberOf 139 = .ok (.aaload, 1) := by decide +kernel
theorem dX12_numberOf_140 : decode cX12_numberOf 140 = .ok (.iload_n 3, 1) := by decide +kernel
theorem dX12_numberOf_141 : decode cX12_numberOf 141 = .ok (.iload 4, 2) := by decide +kernel
theorem dX12_numberOf_143 : decode cX12_numberOf 143 = .ok (.iconst 1, 1) := by decide +kernel
theorem dX12_numberOf_144 : decode cX12_numberOf 144 = .ok (.iadd, 1) := by decide +kernel
theorem dX12_numberOf_145 : decode cX12_numberOf 145 = .ok (.iastore, 1) := by decide +kernel
theorem dX12_numberOf_146 : decode cX12_numberOf 146 = .ok (.iload 4, 2) := by decide +kernel
theorem dX12_numberOf_148 : decode cX12_numberOf 148 = .ok (.ireturn, 1) := by decide +kernel
theorem dX12_brings_0 : decode cX12_brings 0 = .ok (.iconst 0, 1) := by decide +kernel
theorem dX12_brings_1 : decode cX12_brings 1 = .ok (.istore_n 3, 1) := by decide +kernel
theorem dX12_brings_2 : decode cX12_brings 2 = .ok (.iload_n 3, 1) := by decide +kernel
theorem dX12_brings_3 : decode cX12_brings 3 = .ok (.bipush 48, 2) := by decide +kernel
theorem dX12_brings_5 : decode cX12_brings 5 = .ok (.if_icmp .ge 28, 3) := by decide +kernel
theorem dX12_brings_8 : decode cX12_brings 8 = .ok (.aload_n 0, 1) := by decide +kernel
theorem dX12_brings_9 : decode cX12_brings 9 = .ok (.getfield 7, 3) := by decide +kernel
theorem dX12_brings_12 : decode cX12_brings 12 = .ok (.iload_n 3, 1) := by decide +kernel
theorem dX12_brings_13 : decode cX12_brings 13 = .ok (.aload_n 0, 1) := by decide +kernel
theorem dX12_brings_14 : decode cX12_brings 14 = .ok (.getfield 54, 3) := by decide +kernel
theorem dX12_brings_17 : decode cX12_brings 17 = .ok (.iload_n 1, 1) := by decide +kernel
theorem dX12_brings_18 : decode cX12_brings 18 = .ok (.aaload, 1) := by decide +kernel
theorem dX12_brings_19 : decode cX12_brings 19 = .ok (.bipush 48, 2) := by decide +kernel
theorem dX12_brings_21 : decode cX12_brings 21 = .ok (.iload_n 2, 1) := by decide +kernel
theorem dX12_brings_22 : decode cX12_brings 22 = .ok (.imul, 1) := by decide +kernel
theorem dX12_brings_23 : decode cX12_brings 23 = .ok (.iload_n 3, 1) := by decide +kernel
theorem dX12_brings_24 : decode cX12_brings 24 = .ok (.iadd, 1) := by decide +kernel
theorem dX12_brings_25 : decode cX12_brings 25 = .ok (.iaload, 1) := by decide +kernel
theorem dX12_brings_26 : decode cX12_brings 26 = .ok (.iastore, 1) := by decide +kernel
theorem dX12_brings_27 : decode cX12_brings 27 = .ok (.iinc 3 1, 3) := by decide +kernel
theorem dX12_brings_30 : decode cX12_brings 30 = .ok (.goto (-28), 3) := by decide +kernel
theorem dX12_brings_33 : decode cX12_brings 33 = .ok (.return_, 1) := by decide +kernel
theorem dX12_choose_0 : decode cX12_choose 0 = .ok (.lconst 1, 1) := by decide +kernel
theorem dX12_choose_1 : decode cX12_choose 1 = .ok (.lstore_n 2, 1) := by decide +kernel
theorem dX12_choose_2 : decode cX12_choose 2 = .ok (.iconst 0, 1) := by decide +kernel
theorem dX12_choose_3 : decode cX12_choose 3 = .ok (.istore 4, 2) := by decide +kernel
theorem dX12_choose_5 : decode cX12_choose 5 = .ok (.iload 4, 2) := by decide +kernel
theorem dX12_choose_7 : decode cX12_choose 7 = .ok (.iload_n 1, 1) := by decide +kernel
theorem dX12_choose_8 : decode cX12_choose 8 = .ok (.if_icmp .ge 23, 3) := by decide +kernel
theorem dX12_choose_11 : decode cX12_choose 11 = .ok (.lload_n 2, 1) := by decide +kernel
theorem dX12_choose_12 : decode cX12_choose 12 = .ok (.iload_n 0, 1) := by decide +kernel
theorem dX12_choose_13 : decode cX12_choose 13 = .ok (.iload 4, 2) := by decide +kernel
theorem dX12_choose_15 : decode cX12_choose 15 = .ok (.isub, 1) := by decide +kernel
theorem dX12_choose_16 : decode cX12_choose 16 = .ok (.i2l, 1) := by decide +kernel
theorem dX12_choose_17 : decode cX12_choose 17 = .ok (.lmul, 1) := by decide +kernel
theorem dX12_choose_18 : decode cX12_choose 18 = .ok (.iload 4, 2) := by decide +kernel
theorem dX12_choose_20 : decode cX12_choose 20 = .ok (.iconst 1, 1) := by decide +kernel
theorem dX12_choose_21 : decode cX12_choose 21 = .ok (.iadd, 1) := by decide +kernel
theorem dX12_choose_22 : decode cX12_choose 22 = .ok (.i2l, 1) := by decide +kernel
theorem dX12_choose_23 : decode cX12_choose 23 = .ok (.ldiv, 1) := by decide +kernel
theorem dX12_choose_24 : decode cX12_choose 24 = .ok (.lstore_n 2, 1) := by decide +kernel
theorem dX12_choose_25 : decode cX12_choose 25 = .ok (.iinc 4 1, 3) := by decide +kernel
theorem dX12_choose_28 : decode cX12_choose 28 = .ok (.goto (-23), 3) := by decide +kernel
theorem dX12_choose_31 : decode cX12_choose 31 = .ok (.iload_n 1, 1) := by decide +kernel
theorem dX12_choose_32 : decode cX12_choose 32 = .ok (.ifCond .lt 8, 3) := by decide +kernel
theorem dX12_choose_35 : decode cX12_choose 35 = .ok (.iload_n 1, 1) := by decide +kernel
theorem dX12_choose_36 : decode cX12_choose 36 = .ok (.iload_n 0, 1) := by decide +kernel
theorem dX12_choose_37 : decode cX12_choose 37 = .ok (.if_icmp .le 7, 3) := by decide +kernel
theorem dX12_choose_40 : decode cX12_choose 40 = .ok (.lconst 0, 1) := by decide +kernel
theorem dX12_choose_41 : decode cX12_choose 41 = .ok (.goto 4, 3) := by decide +kernel
theorem dX12_choose_44 : decode cX12_choose 44 = .ok (.lload_n 2, 1) := by decide +kernel
theorem dX12_choose_45 : decode cX12_choose 45 = .ok (.lreturn, 1) := by decide +kernel
set_option maxRecDepth 20000 in
theorem ggX12_samples_X12_choose : GoodIn wsX12_samples wsX12_choose := goodIn_r _ [6] (by decide +kernel) (by decide +kernel)
set_option maxRecDepth 20000 in
theorem gX12_samples_X12_choose : GoodIn wsX12_samples (va_wsS RX12 176 yX12_choose wsX12_choose) := goodIn_app (goodIn_of _ (by decide +kernel)) ggX12_samples_X12_choose
theorem dX12_samples_0 : decode cX12_samples 0 = .ok (.aload_n 0, 1) := by decide +kernel
theorem dX12_samples_1 : decode cX12_samples 1 = .ok (.getfield 19, 3) := by decide +kernel
theorem dX12_samples_4 : decode cX12_samples 4 = .ok (.iconst 1, 1) := by decide +kernel
theorem dX12_samples_5 : decode cX12_samples 5 = .ok (.isub, 1) := by decide +kernel
theorem dX12_samples_6 : decode cX12_samples 6 = .ok (.aload_n 0, 1) := by decide +kernel
theorem dX12_samples_7 : decode cX12_samples 7 = .ok (.getfield 23, 3) := by decide +kernel
theorem dX12_samples_10 : decode cX12_samples 10 = .ok (.invokestatic 176, 3) := by decide +kernel
theorem dX12_samples_13 : decode cX12_samples 13 = .ok (.lreturn, 1) := by decide +kernel
set_option maxRecDepth 20000 in
theorem ggX12_waysOf_X12_samples : GoodIn wsX12_waysOf wsX12_samples := goodIn_r _ [8, 1, 9, 10, 11, 7, 12, 13, 14, 15, 16, 17, 18, 19, 20, 21, 22, 23, 24, 25, 26, 27, 28, 29, 30, 31, 32, 33, 34, 35, 36, 37, 38, 39, 40, 41, 42, 43, 44, 45, 46, 47, 48, 49, 50] (by decide +kernel) (by decide +kernel)
set_option maxRecDepth 20000 in
theorem gX12_waysOf_X12_samples : GoodIn wsX12_waysOf (wsV RX12 180 RX12 yX12_samples wsX12_samples) := goodIn_app (goodIn_of _ (by decide +kernel)) ggX12_waysOf_X12_samples
theorem dX12_waysOf_0 : decode cX12_waysOf 0 = .ok (.aload_n 0, 1) := by decide +kernel
theorem dX12_waysOf_1 : decode cX12_waysOf 1 = .ok (.getfield 19, 3) := by decide +kernel
theorem dX12_waysOf_4 : decode cX12_waysOf 4 = .ok (.i2l, 1) := by decide +kernel
theorem dX12_waysOf_5 : decode cX12_waysOf 5 = .ok (.aload_n 0, 1) := by decide +kernel
theorem dX12_waysOf_6 : decode cX12_waysOf 6 = .ok (.invokevirtual 180, 3) := by decide +kernel
theorem dX12_waysOf_9 : decode cX12_waysOf 9 = .ok (.lmul, 1) := by decide +kernel
theorem dX12_waysOf_10 : decode cX12_waysOf 10 = .ok (.lstore_n 2, 1) := by decide +kernel
theorem dX12_waysOf_11 : decode cX12_waysOf 11 = .ok (.lconst 1, 1) := by decide +kernel
theorem dX12_waysOf_12 : decode cX12_waysOf 12 = .ok (.lstore 4, 2) := by decide +kernel
theorem dX12_waysOf_14 : decode cX12_waysOf 14 = .ok (.iconst 0, 1) := by decide +kernel
theorem dX12_waysOf_15 : decode cX12_waysOf 15 = .ok (.istore 6, 2) := by decide +kernel
theorem dX12_waysOf_17 : decode cX12_waysOf 17 = .ok (.iload 6, 2) := by decide +kernel
theorem dX12_waysOf_19 : decode cX12_waysOf 19 = .ok (.iload_n 1, 1) := by decide +kernel
theorem dX12_waysOf_20 : decode cX12_waysOf 20 = .ok (.if_icmp .ge 30, 3) := by decide +kernel
theorem dX12_waysOf_23 : decode cX12_waysOf 23 = .ok (.lload 4, 2) := by decide +kernel
theorem dX12_waysOf_25 : decode cX12_waysOf 25 = .ok (.ldc2_w 186, 3) := by decide +kernel
theorem dX12_waysOf_28 : decode cX12_waysOf 28 = .ok (.lload_n 2, 1) := by decide +kernel
theorem dX12_waysOf_29 : decode cX12_waysOf 29 = .ok (.ldiv, 1) := by decide +kernel
theorem dX12_waysOf_30 : decode cX12_waysOf 30 = .ok (.lcmp, 1) := by decide +kernel
theorem dX12_waysOf_31 : decode cX12_waysOf 31 = .ok (.ifCond .le 7, 3) := by decide +kernel
theorem dX12_waysOf_34 : decode cX12_waysOf 34 = .ok (.ldc2_w 188, 3) := by decide +kernel
theorem dX12_waysOf_37 : decode cX12_waysOf 37 = .ok (.lreturn, 1) := by decide +kernel
theorem dX12_waysOf_38 : decode cX12_waysOf 38 = .ok (.lload 4, 2) := by decide +kernel
theorem dX12_waysOf_40 : decode cX12_waysOf 40 = .ok (.lload_n 2, 1) := by decide +kernel
theorem dX12_waysOf_41 : decode cX12_waysOf 41 = .ok (.lmul, 1) := by decide +kernel
theorem dX12_waysOf_42 : decode cX12_waysOf 42 = .ok (.lstore 4, 2) := by decide +kernel
theorem dX12_waysOf_44 : decode cX12_waysOf 44 = .ok (.iinc 6 1, 3) := by decide +kernel
theorem dX12_waysOf_47 : decode cX12_waysOf 47 = .ok (.goto (-30), 3) := by decide +kernel
theorem dX12_waysOf_50 : decode cX12_waysOf 50 = .ok (.lload 4, 2) := by decide +kernel
theorem dX12_waysOf_52 : decode cX12_waysOf 52 = .ok (.lreturn, 1) := by decide +kernel
set_option maxRecDepth 20000 in
theorem ggX12_goes_X12_room : GoodIn wsX12_goes wsX12_room := goodIn_r _ [9, 10, 11, 12, 13, 3, 14, 74, 75, 76, 77, 78, 79, 80, 81, 82, 83, 84, 85, 86, 87, 88, 89, 90, 91, 92, 93, 94, 95, 96, 97, 98, 99, 100, 101, 102, 103, 104, 105, 106, 107, 108, 109, 110, 111] (by decide +kernel) (by decide +kernel)
set_option maxRecDepth 20000 in
theorem gX12_goes_X12_room : GoodIn wsX12_goes (wsV RX12 190 RX12 yX12_room wsX12_room) := goodIn_app (goodIn_of _ (by decide +kernel)) ggX12_goes_X12_room
set_option maxRecDepth 20000 in
theorem ggX12_goes_X12_clears : GoodIn wsX12_goes wsX12_clears := goodIn_r _ [18, 4, 13, 74, 75, 76, 77, 78, 79, 80, 81, 82, 83, 84, 85, 86, 87, 88, 89, 90, 91, 92, 93, 94, 95, 96, 97, 98, 99, 100, 101, 102, 103, 104, 105, 106, 107, 108, 109, 110, 111] (by decide +kernel) (by decide +kernel)
set_option maxRecDepth 20000 in
theorem gX12_goes_X12_clears : GoodIn wsX12_goes (wsV RX12 193 RX12 yX12_clears wsX12_clears) := goodIn_app (goodIn_of _ (by decide +kernel)) ggX12_goes_X12_clears
set_option maxRecDepth 20000 in
theorem ggX12_goes_X12_puts : GoodIn wsX12_goes wsX12_puts := goodIn_r _ [22] (by decide +kernel) (by decide +kernel)
set_option maxRecDepth 20000 in
theorem gX12_goes_X12_puts : GoodIn wsX12_goes (wsV RX12 148 RX12 yX12_puts wsX12_puts) := goodIn_app (goodIn_of _ (by decide +kernel)) ggX12_goes_X12_puts
set_option maxRecDepth 20000 in
theorem ggX12_goes_X12_numberOf : GoodIn wsX12_goes wsX12_numberOf := goodIn_r _ [26, 13, 4, 10, 1, 3, 27, 28, 29, 8, 30, 31, 32, 33, 34, 74, 75, 76, 77, 78, 79, 80, 81, 82, 83, 84, 85, 86, 87, 88, 89, 90, 91, 92, 93, 94, 95, 96, 97, 98, 99, 100, 101, 102, 103, 104, 105, 106, 107, 108, 109, 110, 111] (by decide +kernel) (by decide +kernel)
set_option maxRecDepth 20000 in
theorem gX12_goes_X12_numberOf : GoodIn wsX12_goes (wsV RX12 197 RX12 yX12_numberOf wsX12_numberOf) := goodIn_app (goodIn_of _ (by decide +kernel)) ggX12_goes_X12_numberOf
set_option maxRecDepth 20000 in
theorem ggX12_goes_X12_spreads : GoodIn wsX12_goes wsX12_spreads := goodIn_r _ [38, 39, 3, 40, 41, 42, 8, 43, 44, 45, 46, 47, 48, 49, 50, 51, 52, 53, 54, 1, 10, 55, 56, 57, 58, 59, 60, 61, 62, 63, 64, 65, 66, 67, 68, 69, 70, 71, 72, 73, 23, 24, 25, 26, 13, 4, 27, 28, 29, 30, 31, 32, 33, 34, 74, 75, 76, 77, 78, 79, 80, 81, 82, 83, 84, 85, 86, 87, 88, 89, 90, 91, 92, 93, 94, 95, 96, 97, 98, 99, 100, 101, 102, 103, 104, 105, 106, 107, 108, 109, 110, 111] (by decide +kernel) (by decide +kernel)
set_option maxRecDepth 20000 in
theorem gX12_goes_X12_spreads : GoodIn wsX12_goes (wsV RX12 200 RX12 yX12_spreads wsX12_spreads) := goodIn_app (goodIn_of _ (by decide +kernel)) ggX12_goes_X12_spreads
theorem dX12_goes_0 : decode cX12_goes 0 = .ok (.aload_n 0, 1) := by decide +kernel
theorem dX12_goes_1 : decode cX12_goes 1 = .ok (.invokevirtual 190, 3) := by decide +kernel
theorem dX12_goes_4 : decode cX12_goes 4 = .ok (.iconst 0, 1) := by decide +kernel
theorem dX12_goes_5 : decode cX12_goes 5 = .ok (.istore_n 2, 1) := by decide +kernel
theorem dX12_goes_6 : decode cX12_goes 6 = .ok (.aload_n 0, 1) := by decide +kernel
theorem dX12_goes_7 : decode cX12_goes 7 = .ok (.iconst 0, 1) := by decide +kernel
theorem dX12_goes_8 : decode cX12_goes 8 = .ok (.invokevirtual 193, 3) := by decide +kernel
theorem dX12_goes_11 : decode cX12_goes 11 = .ok (.aload_n 0, 1) := by decide +kernel
theorem dX12_goes_12 : decode cX12_goes 12 = .ok (.aload_n 0, 1) := by decide +kernel
theorem dX12_goes_13 : decode cX12_goes 13 = .ok (.getfield 7, 3) := by decide +kernel
theorem dX12_goes_16 : decode cX12_goes 16 = .ok (.aload_n 0, 1) := by decide +kernel
theorem dX12_goes_17 : decode cX12_goes 17 = .ok (.getfield 16, 3) := by decide +kernel
theorem dX12_goes_20 : decode cX12_goes 20 = .ok (.invokevirtual 148, 3) := by decide +kernel
theorem dX12_goes_23 : decode cX12_goes 23 = .ok (.aload_n 0, 1) := by decide +kernel
theorem dX12_goes_24 : decode cX12_goes 24 = .ok (.getfield 66, 3) := by decide +kernel
theorem dX12_goes_27 : decode cX12_goes 27 = .ok (.iconst 0, 1) := by decide +kernel
theorem dX12_goes_28 : decode cX12_goes 28 = .ok (.aaload, 1) := by decide +kernel
theorem dX12_goes_29 : decode cX12_goes 29 = .ok (.aload_n 0, 1) := by decide +kernel
theorem dX12_goes_30 : decode cX12_goes 30 = .ok (.iconst 0, 1) := by decide +kernel
theorem dX12_goes_31 : decode cX12_goes 31 = .ok (.sipush 2000, 3) := by decide +kernel
theorem dX12_goes_34 : decode cX12_goes 34 = .ok (.invokevirtual 197, 3) := by decide +kernel
theorem dX12_goes_37 : decode cX12_goes 37 = .ok (.lconst 1, 1) := by decide +kernel
theorem dX12_goes_38 : decode cX12_goes 38 = .ok (.lastore, 1) := by decide +kernel
theorem dX12_goes_39 : decode cX12_goes 39 = .ok (.iconst 0, 1) := by decide +kernel
theorem dX12_goes_40 : decode cX12_goes 40 = .ok (.istore_n 3, 1) := by decide +kernel
theorem dX12_goes_41 : decode cX12_goes 41 = .ok (.iload_n 3, 1) := by decide +kernel
theorem dX12_goes_42 : decode cX12_goes 42 = .ok (.iload_n 1, 1) := by decide +kernel
theorem dX12_goes_43 : decode cX12_goes 43 = .ok (.if_icmp .ge 64, 3) := by decide +kernel
theorem dX12_goes_46 : decode cX12_goes 46 = .ok (.aload_n 0, 1) := by decide +kernel
theorem dX12_goes_47 : decode cX12_goes 47 = .ok (.iconst 1, 1) := by decide +kernel
theorem dX12_goes_48 : decode cX12_goes 48 = .ok (.iload_n 2, 1) := by decide +kernel
theorem dX12_goes_49 : decode cX12_goes 49 = .ok (.isub, 1) := by decide +kernel
theorem dX12_goes_50 : decode cX12_goes 50 = .ok (.invokevirtual 193, 3) := by decide +kernel
theorem dX12_goes_53 : decode cX12_goes 53 = .ok (.iconst 0, 1) := by decide +kernel
theorem dX12_goes_54 : decode cX12_goes 54 = .ok (.istore 4, 2) := by decide +kernel
theorem dX12_goes_56 : decode cX12_goes 56 = .ok (.iload 4, 2) := by decide +kernel
theorem dX12_goes_58 : decode cX12_goes 58 = .ok (.aload_n 0, 1) := by decide +kernel
theorem dX12_goes_59 : decode cX12_goes 59 = .ok (.getfield 58, 3) := by decide +kernel
theorem dX12_goes_62 : decode cX12_goes 62 = .ok (.iload_n 2, 1) := by decide +kernel
theorem dX12_goes_63 : decode cX12_goes 63 = .ok (.iaload, 1) := by decide +kernel
theorem dX12_goes_64 : decode cX12_goes 64 = .ok (.if_icmp .ge 33, 3) := by decide +kernel
theorem dX12_goes_67 : decode cX12_goes 67 = .ok (.aload_n 0, 1) := by decide +kernel
theorem dX12_goes_68 : decode cX12_goes 68 = .ok (.iload_n 2, 1) := by decide +kernel
theorem dX12_goes_69 : decode cX12_goes 69 = .ok (.iload 4, 2) := by decide +kernel
theorem dX12_goes_71 : decode cX12_goes 71 = .ok (.invokevirtual 200, 3) := by decide +kernel
theorem dX12_goes_74 : decode cX12_goes 74 = .ok (.ifCond .ne 17, 3) := by decide +kernel
theorem dX12_goes_77 : decode cX12_goes 77 = .ok (.aload_n 0, 1) := by decide +kernel
theorem dX12_goes_78 : decode cX12_goes 78 = .ok (.aload_n 0, 1) := by decide +kernel
theorem dX12_goes_79 : decode cX12_goes 79 = .ok (.getfield 16, 3) := by decide +kernel
theorem dX12_goes_82 : decode cX12_goes 82 = .ok (.aload_n 0, 1) := by decide +kernel
theorem dX12_goes_83 : decode cX12_goes 83 = .ok (.getfield 7, 3) := by decide +kernel
theorem dX12_goes_86 : decode cX12_goes 86 = .ok (.invokevirtual 148, 3) := by decide +kernel
theorem dX12_goes_89 : decode cX12_goes 89 = .ok (.iconst (-1), 1) := by decide +kernel
theorem dX12_goes_90 : decode cX12_goes 90 = .ok (.ireturn, 1) := by decide +kernel
theorem dX12_goes_91 : decode cX12_goes 91 = .ok (.iinc 4 1, 3) := by decide +kernel
theorem dX12_goes_94 : decode cX12_goes 94 = .ok (.goto (-38), 3) := by decide +kernel
theorem dX12_goes_97 : decode cX12_goes 97 = .ok (.iconst 1, 1) := by decide +kernel
theorem dX12_goes_98 : decode cX12_goes 98 = .ok (.iload_n 2, 1) := by decide +kernel
theorem dX12_goes_99 : decode cX12_goes 99 = .ok (.isub, 1) := by decide +kernel
theorem dX12_goes_100 : decode cX12_goes 100 = .ok (.istore_n 2, 1) := by decide +kernel
theorem dX12_goes_101 : decode cX12_goes 101 = .ok (.iinc 3 1, 3) := by decide +kernel
theorem dX12_goes_104 : decode cX12_goes 104 = .ok (.goto (-63), 3) := by decide +kernel
theorem dX12_goes_107 : decode cX12_goes 107 = .ok (.aload_n 0, 1) := by decide +kernel
theorem dX12_goes_108 : decode cX12_goes 108 = .ok (.aload_n 0, 1) := by decide +kernel
theorem dX12_goes_109 : decode cX12_goes 109 = .ok (.getfield 16, 3) := by decide +kernel
theorem dX12_goes_112 : decode cX12_goes 112 = .ok (.aload_n 0, 1) := by decide +kernel
theorem dX12_goes_113 : decode cX12_goes 113 = .ok (.getfield 7, 3) := by decide +kernel
theorem dX12_goes_116 : decode cX12_goes 116 = .ok (.invokevirtual 148, 3) := by decide +kernel
theorem dX12_goes_119 : decode cX12_goes 119 = .ok (.iload_n 2, 1) := by decide +kernel
theorem dX12_goes_120 : decode cX12_goes 120 = .ok (.ireturn, 1) := by decide +kernel
set_option maxRecDepth 20000 in
theorem ggX12_spreads_X12_isSample : GoodIn wsX12_spreads wsX12_isSample := goodIn_r _ [7, 1, 8, 9, 10, 6, 11, 12, 13, 14, 54, 55, 56, 57, 58, 59, 60, 61, 62, 63, 64, 65, 66, 67, 68, 69, 70, 71, 72, 73, 74, 75, 76, 77, 78, 79, 80, 81, 82, 83, 84, 85, 86, 87, 88, 89, 90, 91] (by decide +kernel) (by decide +kernel)
set_option maxRecDepth 20000 in
theorem gX12_spreads_X12_isSample : GoodIn wsX12_spreads (wsV RX12 139 RX12 yX12_isSample wsX12_isSample) := goodIn_app (goodIn_of _ (by decide +kernel)) ggX12_spreads_X12_isSample
set_option maxRecDepth 20000 in
theorem ggX12_spreads_X12_brings : GoodIn wsX12_spreads wsX12_brings := goodIn_r _ [18, 19, 20, 54, 55, 56, 57, 58, 59, 60, 61, 62, 63, 64, 65, 66, 67, 68, 69, 70, 71, 72, 73, 74, 75, 76, 77, 78, 79, 80, 81, 82, 83, 84, 85, 86, 87, 88, 89, 90, 91] (by decide +kernel) (by decide +kernel)
set_option maxRecDepth 20000 in
theorem gX12_spreads_X12_brings : GoodIn wsX12_spreads (wsV RX12 203 RX12 yX12_brings wsX12_brings) := goodIn_app (goodIn_of _ (by decide +kernel)) ggX12_spreads_X12_brings
set_option maxRecDepth 20000 in
theorem ggX12_spreads_X12_canAsk : GoodIn wsX12_spreads wsX12_canAsk := goodIn_r _ [24, 19, 54, 55, 56, 57, 58, 59, 60, 61, 62, 63, 64, 65, 66, 67, 68, 69, 70, 71, 72, 73, 74, 75, 76, 77, 78, 79, 80, 81, 82, 83, 84, 85, 86, 87, 88, 89, 90, 91] (by decide +kernel) (by decide +kernel)
set_option maxRecDepth 20000 in
theorem gX12_spreads_X12_canAsk : GoodIn wsX12_spreads (wsV RX12 142 RX12 yX12_canAsk wsX12_canAsk) := goodIn_app (goodIn_of _ (by decide +kernel)) ggX12_spreads_X12_canAsk
set_option maxRecDepth 20000 in
theorem ggX12_spreads_X12_asks : GoodIn wsX12_spreads wsX12_asks := goodIn_r _ [28, 1, 29, 19, 30, 31, 9, 10, 6, 11, 32, 33, 34, 35, 36, 37, 38, 39, 54, 55, 56, 57, 58, 59, 60, 61, 62, 63, 64, 65, 66, 67, 68, 69, 70, 71, 72, 73, 74, 75, 76, 77, 78, 79, 80, 81, 82, 83, 84, 85, 86, 87, 88, 89, 90, 91] (by decide +kernel) (by decide +kernel)
set_option maxRecDepth 20000 in
theorem gX12_spreads_X12_asks : GoodIn wsX12_spreads (wsV RX12 145 RX12 yX12_asks wsX12_asks) := goodIn_app (goodIn_of _ (by decide +kernel)) ggX12_spreads_X12_asks
set_option maxRecDepth 20000 in
theorem ggX12_spreads_X12_numberOf : GoodIn wsX12_spreads wsX12_numberOf := goodIn_r _ [43, 44, 45, 20, 19, 2, 46, 47, 48, 6, 49, 50, 51, 52, 53, 54, 55, 56, 57, 58, 59, 60, 61, 62, 63, 64, 65, 66, 67, 68, 69, 70, 71, 72, 73, 74, 75, 76, 77, 78, 79, 80, 81, 82, 83, 84, 85, 86, 87, 88, 89, 90, 91] (by decide +kernel) (by decide +kernel)
set_option maxRecDepth 20000 in
theorem gX12_spreads_X12_numberOf : GoodIn wsX12_spreads (wsV RX12 197 RX12 yX12_numberOf wsX12_numberOf) := goodIn_app (goodIn_of _ (by decide +kernel)) ggX12_spreads_X12_numberOf
theorem dX12_spreads_0 : decode cX12_spreads 0 = .ok (.iconst 0, 1) := by decide +kernel
theorem dX12_spreads_1 : decode cX12_spreads 1 = .ok (.istore_n 3, 1) := by decide +kernel
theorem dX12_spreads_2 : decode cX12_spreads 2 = .ok (.iload_n 3, 1) := by decide +kernel
theorem dX12_spreads_3 : decode cX12_spreads 3 = .ok (.aload_n 0, 1) := by decide +kernel
theorem dX12_spreads_4 : decode cX12_spreads 4 = .ok (.getfield 19, 3) := by decide +kernel
theorem dX12_spreads_7 : decode cX12_spreads 7 = .ok (.if_icmp .ge 113, 3) := by decide +kernel
theorem dX12_spreads_10 : decode cX12_spreads 10 = .ok (.iconst 0, 1) := by decide +kernel
theorem dX12_spreads_11 : decode cX12_spreads 11 = .ok (.istore 4, 2) := by decide +kernel
theorem dX12_spreads_13 : decode cX12_spreads 13 = .ok (.iload 4, 2) := by decide +kernel
theorem dX12_spreads_15 : decode cX12_spreads 15 = .ok (.iconst 1, 1) := by decide +kernel
theorem dX12_spreads_16 : decode cX12_spreads 16 = .ok (.aload_n 0, 1) := by decide +kernel
theorem dX12_spreads_17 : decode cX12_spreads 17 = .ok (.getfield 19, 3) := by decide +kernel
theorem dX12_spreads_20 : decode cX12_spreads 20 = .ok (.ishl, 1) := by decide +kernel
theorem dX12_spreads_21 : decode cX12_spreads 21 = .ok (.if_icmp .ge 93, 3) := by decide +kernel
theorem dX12_spreads_24 : decode cX12_spreads 24 = .ok (.aload_n 0, 1) := by decide +kernel
theorem dX12_spreads_25 : decode cX12_spreads 25 = .ok (.iload_n 3, 1) := by decide +kernel
theorem dX12_spreads_26 : decode cX12_spreads 26 = .ok (.iload 4, 2) := by decide +kernel
theorem dX12_spreads_28 : decode cX12_spreads 28 = .ok (.invokevirtual 139, 3) := by decide +kernel
theorem dX12_spreads_31 : decode cX12_spreads 31 = .ok (.ifCond .ne 6, 3) := by decide +kernel
theorem dX12_spreads_34 : decode cX12_spreads 34 = .ok (.goto 74, 3) := by decide +kernel
theorem dX12_spreads_37 : decode cX12_spreads 37 = .ok (.aload_n 0, 1) := by decide +kernel
theorem dX12_spreads_38 : decode cX12_spreads 38 = .ok (.iload_n 1, 1) := by decide +kernel
theorem dX12_spreads_39 : decode cX12_spreads 39 = .ok (.iload_n 2, 1) := by decide +kernel
theorem dX12_spreads_40 : decode cX12_spreads 40 = .ok (.invokevirtual 203, 3) := by decide +kernel
theorem dX12_spreads_43 : decode cX12_spreads 43 = .ok (.aload_n 0, 1) := by decide +kernel
theorem dX12_spreads_44 : decode cX12_spreads 44 = .ok (.iload_n 3, 1) := by decide +kernel
theorem dX12_spreads_45 : decode cX12_spreads 45 = .ok (.invokevirtual 142, 3) := by decide +kernel
theorem dX12_spreads_48 : decode cX12_spreads 48 = .ok (.ifCond .eq 19, 3) := by decide +kernel
theorem dX12_spreads_51 : decode cX12_spreads 51 = .ok (.aload_n 0, 1) := by decide +kernel
theorem dX12_spreads_52 : decode cX12_spreads 52 = .ok (.iload_n 3, 1) := by decide +kernel
theorem dX12_spreads_53 : decode cX12_spreads 53 = .ok (.iload 4, 2) := by decide +kernel
theorem dX12_spreads_55 : decode cX12_spreads 55 = .ok (.invokevirtual 145, 3) := by decide +kernel
theorem dX12_spreads_58 : decode cX12_spreads 58 = .ok (.istore 5, 2) := by decide +kernel
theorem dX12_spreads_60 : decode cX12_spreads 60 = .ok (.iload 5, 2) := by decide +kernel
theorem dX12_spreads_62 : decode cX12_spreads 62 = .ok (.ifCond .ge 5, 3) := by decide +kernel
theorem dX12_spreads_65 : decode cX12_spreads 65 = .ok (.iconst 0, 1) := by decide +kernel
theorem dX12_spreads_66 : decode cX12_spreads 66 = .ok (.ireturn, 1) := by decide +kernel
theorem dX12_spreads_67 : decode cX12_spreads 67 = .ok (.aload_n 0, 1) := by decide +kernel
theorem dX12_spreads_68 : decode cX12_spreads 68 = .ok (.iconst 1, 1) := by decide +kernel
theorem dX12_spreads_69 : decode cX12_spreads 69 = .ok (.iload_n 1, 1) := by decide +kernel
theorem dX12_spreads_70 : decode cX12_spreads 70 = .ok (.isub, 1) := by decide +kernel
theorem dX12_spreads_71 : decode cX12_spreads 71 = .ok (.sipush 2000, 3) := by decide +kernel
theorem dX12_spreads_74 : decode cX12_spreads 74 = .ok (.invokevirtual 197, 3) := by decide +kernel
theorem dX12_spreads_77 : decode cX12_spreads 77 = .ok (.istore 5, 2) := by decide +kernel
theorem dX12_spreads_79 : decode cX12_spreads 79 = .ok (.iload 5, 2) := by decide +kernel
theorem dX12_spreads_81 : decode cX12_spreads 81 = .ok (.ifCond .ge 5, 3) := by decide +kernel
theorem dX12_spreads_84 : decode cX12_spreads 84 = .ok (.iconst 0, 1) := by decide +kernel
theorem dX12_spreads_85 : decode cX12_spreads 85 = .ok (.ireturn, 1) := by decide +kernel
theorem dX12_spreads_86 : decode cX12_spreads 86 = .ok (.aload_n 0, 1) := by decide +kernel
theorem dX12_spreads_87 : decode cX12_spreads 87 = .ok (.getfield 66, 3) := by decide +kernel
theorem dX12_spreads_90 : decode cX12_spreads 90 = .ok (.iconst 1, 1) := by decide +kernel
theorem dX12_spreads_91 : decode cX12_spreads 91 = .ok (.iload_n 1, 1) := by decide +kernel
theorem dX12_spreads_92 : decode cX12_spreads 92 = .ok (.isub, 1) := by decide +kernel
theorem dX12_spreads_93 : decode cX12_spreads 93 = .ok (.aaload, 1) := by decide +kernel
theorem dX12_spreads_94 : decode cX12_spreads 94 = .ok (.iload 5, 2) := by decide +kernel
theorem dX12_spreads_96 : decode cX12_spreads 96 = .ok (.dup2, 1) := by decide +kernel
theorem dX12_spreads_97 : decode cX12_spreads 97 = .ok (.laload, 1) := by decide +kernel
theorem dX12_spreads_98 : decode cX12_spreads 98 = .ok (.aload_n 0, 1) := by decide +kernel
theorem dX12_spreads_99 : decode cX12_spreads 99 = .ok (.getfield 66, 3) := by decide +kernel
theorem dX12_spreads_102 : decode cX12_spreads 102 = .ok (.iload_n 1, 1) := by decide +kernel
theorem dX12_spreads_103 : decode cX12_spreads 103 = .ok (.aaload, 1) := by decide +kernel
theorem dX12_spreads_104 : decode cX12_spreads 104 = .ok (.iload_n 2, 1) := by decide +kernel
theorem dX12_spreads_105 : decode cX12_spreads 105 = .ok (.laload, 1) := by decide +kernel
theorem dX12_spreads_106 : decode cX12_spreads 106 = .ok (.ladd, 1) := by decide +kernel
theorem dX12_spreads_107 : decode cX12_spreads 107 = .ok (.lastore, 1) := by decide +kernel
theorem dX12_spreads_108 : decode cX12_spreads 108 = .ok (.iinc 4 1, 3) := by decide +kernel
theorem dX12_spreads_111 : decode cX12_spreads 111 = .ok (.goto (-98), 3) := by decide +kernel
theorem dX12_spreads_114 : decode cX12_spreads 114 = .ok (.iinc 3 1, 3) := by decide +kernel
theorem dX12_spreads_117 : decode cX12_spreads 117 = .ok (.goto (-115), 3) := by decide +kernel
theorem dX12_spreads_120 : decode cX12_spreads 120 = .ok (.iconst 1, 1) := by decide +kernel
theorem dX12_spreads_121 : decode cX12_spreads 121 = .ok (.ireturn, 1) := by decide +kernel
set_option maxRecDepth 20000 in
theorem ggX12_counted_X12_goes : GoodIn wsX12_counted wsX12_goes := goodIn_r _ [10, 2, 3, 5, 4, 11, 12, 13, 9, 14, 15, 16, 17, 18, 19, 20, 21, 22, 23, 24, 25, 26, 27, 28, 29, 30, 31, 32, 33, 34, 35, 36, 37, 38, 39, 40, 41, 42, 43, 44, 45, 46, 47, 48, 49, 50, 51, 52, 53, 54, 55, 56, 57, 58, 59, 60, 61, 62, 63, 64, 65, 66, 67, 68, 69, 70, 71, 72, 73, 74, 75, 76, 77, 78, 95, 96, 97, 98, 99, 100, 101, 102, 103, 104, 105, 106, 107, 108, 109, 110, 111, 112, 113, 114, 115, 116, 117, 118, 119, 120, 121, 122, 123, 124, 125, 126, 127, 128, 129, 130, 131, 132] (by decide +kernel) (by decide +kernel)
set_option maxRecDepth 20000 in
theorem gX12_counted_X12_goes : GoodIn wsX12_counted (wsV RX12 206 RX12 yX12_goes wsX12_goes) := goodIn_app (goodIn_of _ (by decide +kernel)) ggX12_counted_X12_goes
set_option maxRecDepth 20000 in
theorem ggX12_counted_X12_puts : GoodIn wsX12_counted wsX12_puts := goodIn_r _ [27] (by decide +kernel) (by decide +kernel)
set_option maxRecDepth 20000 in
theorem gX12_counted_X12_puts : GoodIn wsX12_counted (wsV RX12 148 RX12 yX12_puts wsX12_puts) := goodIn_app (goodIn_of _ (by decide +kernel)) ggX12_counted_X12_puts
set_option maxRecDepth 20000 in
theorem ggX12_counted_X12_brings : GoodIn wsX12_counted wsX12_brings := goodIn_r _ [59, 2, 15, 95, 96, 97, 98, 99, 100, 101, 102, 103, 104, 105, 106, 107, 108, 109, 110, 111, 112, 113, 114, 115, 116, 117, 118, 119, 120, 121, 122, 123, 124, 125, 126, 127, 128, 129, 130, 131, 132] (by decide +kernel) (by decide +kernel)
set_option maxRecDepth 20000 in
theorem gX12_counted_X12_brings : GoodIn wsX12_counted (wsV RX12 203 RX12 yX12_brings wsX12_brings) := goodIn_app (goodIn_of _ (by decide +kernel)) ggX12_counted_X12_brings
set_option maxRecDepth 20000 in
theorem ggX12_counted_X12_areSplit : GoodIn wsX12_counted wsX12_areSplit := goodIn_r _ [82, 44, 2, 83, 84, 85, 9, 86, 95, 96, 97, 98, 99, 100, 101, 102, 103, 104, 105, 106, 107, 108, 109, 110, 111, 112, 113, 114, 115, 116, 117, 118, 119, 120, 121, 122, 123, 124, 125, 126, 127, 128, 129, 130, 131, 132] (by decide +kernel) (by decide +kernel)
set_option maxRecDepth 20000 in
theorem gX12_counted_X12_areSplit : GoodIn wsX12_counted (wsV RX12 211 RX12 yX12_areSplit wsX12_areSplit) := goodIn_app (goodIn_of _ (by decide +kernel)) ggX12_counted_X12_areSplit
set_option maxRecDepth 20000 in
theorem ggX12_counted_X12_areAgreed : GoodIn wsX12_counted wsX12_areAgreed := goodIn_r _ [90, 44, 2, 83, 84, 85, 9, 86, 95, 96, 97, 98, 99, 100, 101, 102, 103, 104, 105, 106, 107, 108, 109, 110, 111, 112, 113, 114, 115, 116, 117, 118, 119, 120, 121, 122, 123, 124, 125, 126, 127, 128, 129, 130, 131, 132] (by decide +kernel) (by decide +kernel)
set_option maxRecDepth 20000 in
theorem gX12_counted_X12_areAgreed : GoodIn wsX12_counted (wsV RX12 215 RX12 yX12_areAgreed wsX12_areAgreed) := goodIn_app (goodIn_of _ (by decide +kernel)) ggX12_counted_X12_areAgreed
set_option maxRecDepth 20000 in
theorem ggX12_counted_X12_coloured : GoodIn wsX12_counted wsX12_coloured := goodIn_r _ [94, 44, 2, 95, 96, 97, 98, 99, 100, 101, 102, 103, 104, 105, 106, 107, 108, 109, 110, 111, 112, 113, 114, 115, 116, 117, 118, 119, 120, 121, 122, 123, 124, 125, 126, 127, 128, 129, 130, 131, 132] (by decide +kernel) (by decide +kernel)
set_option maxRecDepth 20000 in
theorem gX12_counted_X12_coloured : GoodIn wsX12_counted (wsV RX12 218 RX12 yX12_coloured wsX12_coloured) := goodIn_app (goodIn_of _ (by decide +kernel)) ggX12_counted_X12_coloured
set_option maxRecDepth 20000 in
theorem ggX12_counted_X12_many : GoodIn wsX12_counted wsX12_many := goodIn_r _ [55, 50, 51, 9, 52] (by decide +kernel) (by decide +kernel)
set_option maxRecDepth 20000 in
theorem gX12_counted_X12_many : GoodIn wsX12_counted (va_wsS RX12 127 yX12_many wsX12_many) := goodIn_app (goodIn_of _ (by decide +kernel)) ggX12_counted_X12_many
theorem dX12_counted_0 : decode cX12_counted 0 = .ok (.aload_n 0, 1) := by decide +kernel
theorem dX12_counted_1 : decode cX12_counted 1 = .ok (.iload_n 1, 1) := by decide +kernel
theorem dX12_counted_2 : decode cX12_counted 2 = .ok (.invokevirtual 206, 3) := by decide +kernel
theorem dX12_counted_5 : decode cX12_counted 5 = .ok (.istore 4, 2) := by decide +kernel
theorem dX12_counted_7 : decode cX12_counted 7 = .ok (.iload 4, 2) := by decide +kernel
theorem dX12_counted_9 : decode cX12_counted 9 = .ok (.ifCond .ge 7, 3) := by decide +kernel
theorem dX12_counted_12 : decode cX12_counted 12 = .ok (.ldc2_w 209, 3) := by decide +kernel
theorem dX12_counted_15 : decode cX12_counted 15 = .ok (.lreturn, 1) := by decide +kernel
theorem dX12_counted_16 : decode cX12_counted 16 = .ok (.aload_n 0, 1) := by decide +kernel
theorem dX12_counted_17 : decode cX12_counted 17 = .ok (.aload_n 0, 1) := by decide +kernel
theorem dX12_counted_18 : decode cX12_counted 18 = .ok (.getfield 7, 3) := by decide +kernel
theorem dX12_counted_21 : decode cX12_counted 21 = .ok (.aload_n 0, 1) := by decide +kernel
theorem dX12_counted_22 : decode cX12_counted 22 = .ok (.getfield 16, 3) := by decide +kernel
theorem dX12_counted_25 : decode cX12_counted 25 = .ok (.invokevirtual 148, 3) := by decide +kernel
theorem dX12_counted_28 : decode cX12_counted 28 = .ok (.lconst 0, 1) := by decide +kernel
theorem dX12_counted_29 : decode cX12_counted 29 = .ok (.lstore 5, 2) := by decide +kernel
theorem dX12_counted_31 : decode cX12_counted 31 = .ok (.iconst 0, 1) := by decide +kernel
theorem dX12_counted_32 : decode cX12_counted 32 = .ok (.istore 7, 2) := by decide +kernel
theorem dX12_counted_34 : decode cX12_counted 34 = .ok (.iload 7, 2) := by decide +kernel
theorem dX12_counted_36 : decode cX12_counted 36 = .ok (.aload_n 0, 1) := by decide +kernel
theorem dX12_counted_37 : decode cX12_counted 37 = .ok (.getfield 58, 3) := by decide +kernel
theorem dX12_counted_40 : decode cX12_counted 40 = .ok (.iload 4, 2) := by decide +kernel
theorem dX12_counted_42 : decode cX12_counted 42 = .ok (.iaload, 1) := by decide +kernel
theorem dX12_counted_43 : decode cX12_counted 43 = .ok (.if_icmp .ge 79, 3) := by decide +kernel
theorem dX12_counted_46 : decode cX12_counted 46 = .ok (.aload_n 0, 1) := by decide +kernel
theorem dX12_counted_47 : decode cX12_counted 47 = .ok (.iload 4, 2) := by decide +kernel
theorem dX12_counted_49 : decode cX12_counted 49 = .ok (.iload 7, 2) := by decide +kernel
theorem dX12_counted_51 : decode cX12_counted 51 = .ok (.invokevirtual 203, 3) := by decide +kernel
theorem dX12_counted_54 : decode cX12_counted 54 = .ok (.iload_n 2, 1) := by decide +kernel
theorem dX12_counted_55 : decode cX12_counted 55 = .ok (.iconst 1, 1) := by decide +kernel
theorem dX12_counted_56 : decode cX12_counted 56 = .ok (.if_icmp .ne 10, 3) := by decide +kernel
theorem dX12_counted_59 : decode cX12_counted 59 = .ok (.aload_n 0, 1) := by decide +kernel
theorem dX12_counted_60 : decode cX12_counted 60 = .ok (.invokevirtual 211, 3) := by decide +kernel
theorem dX12_counted_63 : decode cX12_counted 63 = .ok (.goto 31, 3) := by decide +kernel
theorem dX12_counted_66 : decode cX12_counted 66 = .ok (.iload_n 2, 1) := by decide +kernel
theorem dX12_counted_67 : decode cX12_counted 67 = .ok (.iconst 2, 1) := by decide +kernel
theorem dX12_counted_68 : decode cX12_counted 68 = .ok (.if_icmp .ne 10, 3) := by decide +kernel
theorem dX12_counted_71 : decode cX12_counted 71 = .ok (.aload_n 0, 1) := by decide +kernel
theorem dX12_counted_72 : decode cX12_counted 72 = .ok (.invokevirtual 215, 3) := by decide +kernel
theorem dX12_counted_75 : decode cX12_counted 75 = .ok (.goto 19, 3) := by decide +kernel
theorem dX12_counted_78 : decode cX12_counted 78 = .ok (.aload_n 0, 1) := by decide +kernel
theorem dX12_counted_79 : decode cX12_counted 79 = .ok (.invokevirtual 218, 3) := by decide +kernel
theorem dX12_counted_82 : decode cX12_counted 82 = .ok (.invokestatic 127, 3) := by decide +kernel
theorem dX12_counted_85 : decode cX12_counted 85 = .ok (.iload_n 3, 1) := by decide +kernel
theorem dX12_counted_86 : decode cX12_counted 86 = .ok (.if_icmp .ne 7, 3) := by decide +kernel
theorem dX12_counted_89 : decode cX12_counted 89 = .ok (.iconst 1, 1) := by decide +kernel
theorem dX12_counted_90 : decode cX12_counted 90 = .ok (.goto 4, 3) := by decide +kernel
theorem dX12_counted_93 : decode cX12_counted 93 = .ok (.iconst 0, 1) := by decide +kernel
theorem dX12_counted_94 : decode cX12_counted 94 = .ok (.istore 8, 2) := by decide +kernel
theorem dX12_counted_96 : decode cX12_counted 96 = .ok (.iload 8, 2) := by decide +kernel
theorem dX12_counted_98 : decode cX12_counted 98 = .ok (.ifCond .eq 18, 3) := by decide +kernel
theorem dX12_counted_101 : decode cX12_counted 101 = .ok (.lload 5, 2) := by decide +kernel
theorem dX12_counted_103 : decode cX12_counted 103 = .ok (.aload_n 0, 1) := by decide +kernel
theorem dX12_counted_104 : decode cX12_counted 104 = .ok (.getfield 66, 3) := by decide +kernel
theorem dX12_counted_107 : decode cX12_counted 107 = .ok (.iload 4, 2) := by decide +kernel
theorem dX12_counted_109 : decode cX12_counted 109 = .ok (.aaload, 1) := by decide +kernel
theorem dX12_counted_110 : decode cX12_counted 110 = .ok (.iload 7, 2) := by decide +kernel
theorem dX12_counted_112 : decode cX12_counted 112 = .ok (.laload, 1) := by decide +kernel
theorem dX12_counted_113 : decode cX12_counted 113 = .ok (.ladd, 1) := by decide +kernel
theorem dX12_counted_114 : decode cX12_counted 114 = .ok (.lstore 5, 2) := by decide +kernel
theorem dX12_counted_116 : decode cX12_counted 116 = .ok (.iinc 7 1, 3) := by decide +kernel
theorem dX12_counted_119 : decode cX12_counted 119 = .ok (.goto (-85), 3) := by decide +kernel
theorem dX12_counted_122 : decode cX12_counted 122 = .ok (.aload_n 0, 1) := by decide +kernel
theorem dX12_counted_123 : decode cX12_counted 123 = .ok (.aload_n 0, 1) := by decide +kernel
theorem dX12_counted_124 : decode cX12_counted 124 = .ok (.getfield 16, 3) := by decide +kernel
theorem dX12_counted_127 : decode cX12_counted 127 = .ok (.aload_n 0, 1) := by decide +kernel
theorem dX12_counted_128 : decode cX12_counted 128 = .ok (.getfield 7, 3) := by decide +kernel
theorem dX12_counted_131 : decode cX12_counted 131 = .ok (.invokevirtual 148, 3) := by decide +kernel
theorem dX12_counted_134 : decode cX12_counted 134 = .ok (.lload 5, 2) := by decide +kernel
theorem dX12_counted_136 : decode cX12_counted 136 = .ok (.lreturn, 1) := by decide +kernel
set_option maxRecDepth 20000 in
theorem ggX12_exact_X12_within : GoodIn wsX12_exact wsX12_within := goodIn_r _ [7] (by decide +kernel) (by decide +kernel)
set_option maxRecDepth 20000 in
theorem gX12_exact_X12_within : GoodIn wsX12_exact (va_wsS RX12 116 yX12_within wsX12_within) := goodIn_app (goodIn_of _ (by decide +kernel)) ggX12_exact_X12_within
set_option maxRecDepth 20000 in
theorem ggX12_exact_X12_waysOf : GoodIn wsX12_exact wsX12_waysOf := goodIn_r _ [11, 12, 13, 2, 14, 15, 16, 6, 17, 18, 19, 20, 21, 117, 118, 119, 120, 121, 122, 123, 124, 125, 126, 127, 128, 129, 130, 131, 132, 133, 134, 135, 136, 137, 138, 139, 140, 141, 142, 143, 144, 145, 146, 147, 148, 149, 150, 151, 152, 153, 154] (by decide +kernel) (by decide +kernel)
set_option maxRecDepth 20000 in
theorem gX12_exact_X12_waysOf : GoodIn wsX12_exact (wsV RX12 221 RX12 yX12_waysOf wsX12_waysOf) := goodIn_app (goodIn_of _ (by decide +kernel)) ggX12_exact_X12_waysOf
set_option maxRecDepth 20000 in
theorem ggX12_exact_X12_counted : GoodIn wsX12_exact wsX12_counted := goodIn_r _ [25, 26, 27, 28, 29, 30, 31, 32, 33, 6, 34, 35, 36, 37, 38, 39, 40, 41, 42, 43, 44, 45, 46, 47, 48, 49, 50, 51, 52, 53, 54, 55, 56, 57, 58, 59, 60, 61, 62, 63, 64, 65, 66, 67, 12, 68, 69, 70, 71, 18, 72, 73, 74, 75, 76, 77, 78, 79, 80, 81, 82, 83, 84, 85, 86, 87, 88, 89, 90, 91, 92, 93, 94, 95, 96, 97, 98, 99, 100, 101, 102, 103, 104, 105, 106, 107, 108, 109, 110, 111, 112, 113, 114, 115, 116, 117, 118, 119, 120, 121, 122, 123, 124, 125, 126, 127, 128, 129, 130, 131, 132, 133, 134, 135, 136, 137, 138, 139, 140, 141, 142, 143, 144, 145, 146, 147, 148, 149, 150, 151, 152, 153, 154] (by decide +kernel) (by decide +kernel)
set_option maxRecDepth 20000 in
theorem gX12_exact_X12_counted : GoodIn wsX12_exact (wsV RX12 227 RX12 yX12_counted wsX12_counted) := goodIn_app (goodIn_of _ (by decide +kernel)) ggX12_exact_X12_counted
theorem dX12_exact_0 : decode cX12_exact 0 = .ok (.aload_n 0, 1) := by decide +kernel
theorem dX12_exact_1 : decode cX12_exact 1 = .ok (.iconst 0, 1) := by decide +kernel
theorem dX12_exact_2 : decode cX12_exact 2 = .ok (.putfield 97, 3) := by decide +kernel
theorem dX12_exact_5 : decode cX12_exact 5 = .ok (.iload_n 1, 1) := by decide +kernel
theorem dX12_exact_6 : decode cX12_exact 6 = .ok (.iconst 1, 1) := by decide +kernel
theorem dX12_exact_7 : decode cX12_exact 7 = .ok (.bipush 12, 2) := by decide +kernel
theorem dX12_exact_9 : decode cX12_exact 9 = .ok (.invokestatic 116, 3) := by decide +kernel
theorem dX12_exact_12 : decode cX12_exact 12 = .ok (.ifCond .eq 12, 3) := by decide +kernel
theorem dX12_exact_15 : decode cX12_exact 15 = .ok (.iload_n 2, 1) := by decide +kernel
theorem dX12_exact_16 : decode cX12_exact 16 = .ok (.iconst 0, 1) := by decide +kernel
theorem dX12_exact_17 : decode cX12_exact 17 = .ok (.iconst 2, 1) := by decide +kernel
theorem dX12_exact_18 : decode cX12_exact 18 = .ok (.invokestatic 116, 3) := by decide +kernel
theorem dX12_exact_21 : decode cX12_exact 21 = .ok (.ifCond .ne 7, 3) := by decide +kernel
theorem dX12_exact_24 : decode cX12_exact 24 = .ok (.ldc2_w 188, 3) := by decide +kernel
theorem dX12_exact_27 : decode cX12_exact 27 = .ok (.lreturn, 1) := by decide +kernel
theorem dX12_exact_28 : decode cX12_exact 28 = .ok (.aload_n 0, 1) := by decide +kernel
theorem dX12_exact_29 : decode cX12_exact 29 = .ok (.iload_n 1, 1) := by decide +kernel
theorem dX12_exact_30 : decode cX12_exact 30 = .ok (.invokevirtual 221, 3) := by decide +kernel
theorem dX12_exact_33 : decode cX12_exact 33 = .ok (.lstore_n 3, 1) := by decide +kernel
theorem dX12_exact_34 : decode cX12_exact 34 = .ok (.lload_n 3, 1) := by decide +kernel
theorem dX12_exact_35 : decode cX12_exact 35 = .ok (.lconst 0, 1) := by decide +kernel
theorem dX12_exact_36 : decode cX12_exact 36 = .ok (.lcmp, 1) := by decide +kernel
theorem dX12_exact_37 : decode cX12_exact 37 = .ok (.ifCond .ge 7, 3) := by decide +kernel
theorem dX12_exact_40 : decode cX12_exact 40 = .ok (.ldc2_w 225, 3) := by decide +kernel
theorem dX12_exact_43 : decode cX12_exact 43 = .ok (.lreturn, 1) := by decide +kernel
theorem dX12_exact_44 : decode cX12_exact 44 = .ok (.iload_n 2, 1) := by decide +kernel
theorem dX12_exact_45 : decode cX12_exact 45 = .ok (.ifCond .ne 7, 3) := by decide +kernel
theorem dX12_exact_48 : decode cX12_exact 48 = .ok (.lload_n 3, 1) := by decide +kernel
theorem dX12_exact_49 : decode cX12_exact 49 = .ok (.goto 10, 3) := by decide +kernel
theorem dX12_exact_52 : decode cX12_exact 52 = .ok (.aload_n 0, 1) := by decide +kernel
theorem dX12_exact_53 : decode cX12_exact 53 = .ok (.iload_n 1, 1) := by decide +kernel
theorem dX12_exact_54 : decode cX12_exact 54 = .ok (.iload_n 2, 1) := by decide +kernel
theorem dX12_exact_55 : decode cX12_exact 55 = .ok (.iconst 0, 1) := by decide +kernel
theorem dX12_exact_56 : decode cX12_exact 56 = .ok (.invokevirtual 227, 3) := by decide +kernel
theorem dX12_exact_59 : decode cX12_exact 59 = .ok (.lreturn, 1) := by decide +kernel
set_option maxRecDepth 20000 in
theorem ggX12_colours_X12_within : GoodIn wsX12_colours wsX12_within := goodIn_r _ [8] (by decide +kernel) (by decide +kernel)
set_option maxRecDepth 20000 in
theorem gX12_colours_X12_within : GoodIn wsX12_colours (va_wsS RX12 116 yX12_within wsX12_within) := goodIn_app (goodIn_of _ (by decide +kernel)) ggX12_colours_X12_within
set_option maxRecDepth 20000 in
theorem ggX12_colours_X12_waysOf : GoodIn wsX12_colours wsX12_waysOf := goodIn_r _ [12, 2, 13, 3, 14, 15, 16, 7, 17, 18, 19, 20, 21, 117, 118, 119, 120, 121, 122, 123, 124, 125, 126, 127, 128, 129, 130, 131, 132, 133, 134, 135, 136, 137, 138, 139, 140, 141, 142, 143, 144, 145, 146, 147, 148, 149, 150, 151, 152, 153, 154] (by decide +kernel) (by decide +kernel)
set_option maxRecDepth 20000 in
theorem gX12_colours_X12_waysOf : GoodIn wsX12_colours (wsV RX12 221 RX12 yX12_waysOf wsX12_waysOf) := goodIn_app (goodIn_of _ (by decide +kernel)) ggX12_colours_X12_waysOf
set_option maxRecDepth 20000 in
theorem ggX12_colours_X12_counted : GoodIn wsX12_colours wsX12_counted := goodIn_r _ [25, 26, 27, 28, 29, 30, 31, 32, 33, 7, 34, 35, 36, 37, 38, 39, 40, 41, 42, 43, 44, 45, 46, 47, 48, 49, 50, 51, 52, 53, 54, 55, 56, 57, 58, 59, 60, 61, 62, 63, 64, 65, 66, 67, 2, 68, 69, 70, 71, 18, 72, 73, 74, 75, 76, 77, 78, 79, 80, 81, 82, 83, 84, 85, 86, 87, 88, 89, 90, 91, 92, 93, 94, 95, 96, 97, 98, 99, 100, 101, 102, 103, 104, 105, 106, 107, 108, 109, 110, 111, 112, 113, 114, 115, 116, 117, 118, 119, 120, 121, 122, 123, 124, 125, 126, 127, 128, 129, 130, 131, 132, 133, 134, 135, 136, 137, 138, 139, 140, 141, 142, 143, 144, 145, 146, 147, 148, 149, 150, 151, 152, 153, 154] (by decide +kernel) (by decide +kernel)
set_option maxRecDepth 20000 in
theorem gX12_colours_X12_counted : GoodIn wsX12_colours (wsV RX12 227 RX12 yX12_counted wsX12_counted) := goodIn_app (goodIn_of _ (by decide +kernel)) ggX12_colours_X12_counted
theorem dX12_colours_0 : decode cX12_colours 0 = .ok (.aload_n 0, 1) := by decide +kernel
theorem dX12_colours_1 : decode cX12_colours 1 = .ok (.iconst 0, 1) := by decide +kernel
theorem dX12_colours_2 : decode cX12_colours 2 = .ok (.putfield 97, 3) := by decide +kernel
theorem dX12_colours_5 : decode cX12_colours 5 = .ok (.iload_n 1, 1) := by decide +kernel
theorem dX12_colours_6 : decode cX12_colours 6 = .ok (.iconst 1, 1) := by decide +kernel
theorem dX12_colours_7 : decode cX12_colours 7 = .ok (.bipush 12, 2) := by decide +kernel
theorem dX12_colours_9 : decode cX12_colours 9 = .ok (.invokestatic 116, 3) := by decide +kernel
theorem dX12_colours_12 : decode cX12_colours 12 = .ok (.ifCond .eq 15, 3) := by decide +kernel
theorem dX12_colours_15 : decode cX12_colours 15 = .ok (.iload_n 2, 1) := by decide +kernel
theorem dX12_colours_16 : decode cX12_colours 16 = .ok (.iconst 0, 1) := by decide +kernel
theorem dX12_colours_17 : decode cX12_colours 17 = .ok (.aload_n 0, 1) := by decide +kernel
theorem dX12_colours_18 : decode cX12_colours 18 = .ok (.getfield 19, 3) := by decide +kernel
theorem dX12_colours_21 : decode cX12_colours 21 = .ok (.invokestatic 116, 3) := by decide +kernel
theorem dX12_colours_24 : decode cX12_colours 24 = .ok (.ifCond .ne 7, 3) := by decide +kernel
theorem dX12_colours_27 : decode cX12_colours 27 = .ok (.ldc2_w 188, 3) := by decide +kernel
theorem dX12_colours_30 : decode cX12_colours 30 = .ok (.lreturn, 1) := by decide +kernel
theorem dX12_colours_31 : decode cX12_colours 31 = .ok (.aload_n 0, 1) := by decide +kernel
theorem dX12_colours_32 : decode cX12_colours 32 = .ok (.iload_n 1, 1) := by decide +kernel
theorem dX12_colours_33 : decode cX12_colours 33 = .ok (.invokevirtual 221, 3) := by decide +kernel
theorem dX12_colours_36 : decode cX12_colours 36 = .ok (.lconst 0, 1) := by decide +kernel
theorem dX12_colours_37 : decode cX12_colours 37 = .ok (.lcmp, 1) := by decide +kernel
theorem dX12_colours_38 : decode cX12_colours 38 = .ok (.ifCond .ge 9, 3) := by decide +kernel
theorem dX12_colours_41 : decode cX12_colours 41 = .ok (.ldc2_w 225, 3) := by decide +kernel
theorem dX12_colours_44 : decode cX12_colours 44 = .ok (.goto 10, 3) := by decide +kernel
theorem dX12_colours_47 : decode cX12_colours 47 = .ok (.aload_n 0, 1) := by decide +kernel
theorem dX12_colours_48 : decode cX12_colours 48 = .ok (.iload_n 1, 1) := by decide +kernel
theorem dX12_colours_49 : decode cX12_colours 49 = .ok (.iconst 3, 1) := by decide +kernel
theorem dX12_colours_50 : decode cX12_colours 50 = .ok (.iload_n 2, 1) := by decide +kernel
theorem dX12_colours_51 : decode cX12_colours 51 = .ok (.invokevirtual 227, 3) := by decide +kernel
theorem dX12_colours_54 : decode cX12_colours 54 = .ok (.lreturn, 1) := by decide +kernel
set_option maxRecDepth 20000 in
theorem ggX12_odds_X12_within : GoodIn wsX12_odds wsX12_within := goodIn_r _ [5] (by decide +kernel) (by decide +kernel)
set_option maxRecDepth 20000 in
theorem gX12_odds_X12_within : GoodIn wsX12_odds (va_wsS RX12 116 yX12_within wsX12_within) := goodIn_app (goodIn_of _ (by decide +kernel)) ggX12_odds_X12_within
set_option maxRecDepth 20000 in
theorem ggX12_odds_X12_waysOf : GoodIn wsX12_odds wsX12_waysOf := goodIn_r _ [9, 10, 11, 12, 13, 14, 15, 4, 16, 17, 18, 19, 20, 128, 129, 130, 131, 132, 133, 134, 135, 136, 137, 138, 139, 140, 141, 142, 143, 144, 145, 146, 147, 148, 149, 150, 151, 152, 153, 154, 155, 156, 157, 158, 159, 160, 161, 162, 163, 164, 165] (by decide +kernel) (by decide +kernel)
set_option maxRecDepth 20000 in
theorem gX12_odds_X12_waysOf : GoodIn wsX12_odds (wsV RX12 221 RX12 yX12_waysOf wsX12_waysOf) := goodIn_app (goodIn_of _ (by decide +kernel)) ggX12_odds_X12_waysOf
set_option maxRecDepth 20000 in
theorem ggX12_odds_X12_counted : GoodIn wsX12_odds wsX12_counted := goodIn_r _ [24, 25, 26, 27, 28, 29, 30, 31, 32, 4, 33, 34, 35, 36, 37, 38, 39, 40, 41, 42, 43, 44, 45, 46, 47, 48, 49, 50, 51, 52, 53, 54, 55, 56, 57, 58, 59, 60, 61, 62, 63, 64, 65, 66, 10, 67, 68, 69, 70, 17, 71, 72, 73, 74, 75, 76, 77, 78, 79, 80, 81, 82, 83, 84, 85, 86, 87, 88, 89, 90, 91, 92, 93, 94, 95, 96, 97, 98, 99, 100, 101, 102, 103, 104, 105, 106, 107, 108, 109, 110, 111, 112, 113, 114, 115, 128, 129, 130, 131, 132, 133, 134, 135, 136, 137, 138, 139, 140, 141, 142, 143, 144, 145, 146, 147, 148, 149, 150, 151, 152, 153, 154, 155, 156, 157, 158, 159, 160, 161, 162, 163, 164, 165] (by decide +kernel) (by decide +kernel)
set_option maxRecDepth 20000 in
theorem gX12_odds_X12_counted : GoodIn wsX12_odds (wsV RX12 227 RX12 yX12_counted wsX12_counted) := goodIn_app (goodIn_of _ (by decide +kernel)) ggX12_odds_X12_counted
set_option maxRecDepth 20000 in
theorem ggX12_odds_Jxf58ca_floatToIntBits_5c35a : GoodIn wsX12_odds wsJxf58ca_floatToIntBits_5c35a := goodIn_r _ [119, 120, 121, 122, 123, 124, 125, 126, 118, 127] (by decide +kernel) (by decide +kernel)
set_option maxRecDepth 20000 in
theorem gX12_odds_Jxf58ca_floatToIntBits_5c35a : GoodIn wsX12_odds (va_wsS RX12 231 yJxf58ca_floatToIntBits_5c35a wsJxf58ca_floatToIntBits_5c35a) := goodIn_app (goodIn_of _ (by decide +kernel)) ggX12_odds_Jxf58ca_floatToIntBits_5c35a
theorem dX12_odds_0 : decode cX12_odds 0 = .ok (.aload_n 0, 1) := by decide +kernel
theorem dX12_odds_1 : decode cX12_odds 1 = .ok (.iconst 0, 1) := by decide +kernel
theorem dX12_odds_2 : decode cX12_odds 2 = .ok (.putfield 97, 3) := by decide +kernel
theorem dX12_odds_5 : decode cX12_odds 5 = .ok (.iload_n 1, 1) := by decide +kernel
theorem dX12_odds_6 : decode cX12_odds 6 = .ok (.iconst 1, 1) := by decide +kernel
theorem dX12_odds_7 : decode cX12_odds 7 = .ok (.bipush 12, 2) := by decide +kernel
theorem dX12_odds_9 : decode cX12_odds 9 = .ok (.invokestatic 116, 3) := by decide +kernel
theorem dX12_odds_12 : decode cX12_odds 12 = .ok (.ifCond .ne 5, 3) := by decide +kernel
theorem dX12_odds_15 : decode cX12_odds 15 = .ok (.iconst (-1), 1) := by decide +kernel
theorem dX12_odds_16 : decode cX12_odds 16 = .ok (.ireturn, 1) := by decide +kernel
theorem dX12_odds_17 : decode cX12_odds 17 = .ok (.aload_n 0, 1) := by decide +kernel
theorem dX12_odds_18 : decode cX12_odds 18 = .ok (.iload_n 1, 1) := by decide +kernel
theorem dX12_odds_19 : decode cX12_odds 19 = .ok (.invokevirtual 221, 3) := by decide +kernel
theorem dX12_odds_22 : decode cX12_odds 22 = .ok (.lstore_n 2, 1) := by decide +kernel
theorem dX12_odds_23 : decode cX12_odds 23 = .ok (.lload_n 2, 1) := by decide +kernel
theorem dX12_odds_24 : decode cX12_odds 24 = .ok (.lconst 0, 1) := by decide +kernel
theorem dX12_odds_25 : decode cX12_odds 25 = .ok (.lcmp, 1) := by decide +kernel
theorem dX12_odds_26 : decode cX12_odds 26 = .ok (.ifCond .ge 6, 3) := by decide +kernel
theorem dX12_odds_29 : decode cX12_odds 29 = .ok (.bipush (-2), 2) := by decide +kernel
theorem dX12_odds_31 : decode cX12_odds 31 = .ok (.ireturn, 1) := by decide +kernel
theorem dX12_odds_32 : decode cX12_odds 32 = .ok (.aload_n 0, 1) := by decide +kernel
theorem dX12_odds_33 : decode cX12_odds 33 = .ok (.iload_n 1, 1) := by decide +kernel
theorem dX12_odds_34 : decode cX12_odds 34 = .ok (.iconst 1, 1) := by decide +kernel
theorem dX12_odds_35 : decode cX12_odds 35 = .ok (.iconst 0, 1) := by decide +kernel
theorem dX12_odds_36 : decode cX12_odds 36 = .ok (.invokevirtual 227, 3) := by decide +kernel
theorem dX12_odds_39 : decode cX12_odds 39 = .ok (.lstore 4, 2) := by decide +kernel
theorem dX12_odds_41 : decode cX12_odds 41 = .ok (.lload 4, 2) := by decide +kernel
theorem dX12_odds_43 : decode cX12_odds 43 = .ok (.lconst 0, 1) := by decide +kernel
theorem dX12_odds_44 : decode cX12_odds 44 = .ok (.lcmp, 1) := by decide +kernel
theorem dX12_odds_45 : decode cX12_odds 45 = .ok (.ifCond .ge 6, 3) := by decide +kernel
theorem dX12_odds_48 : decode cX12_odds 48 = .ok (.bipush (-3), 2) := by decide +kernel
theorem dX12_odds_50 : decode cX12_odds 50 = .ok (.ireturn, 1) := by decide +kernel
theorem dX12_odds_51 : decode cX12_odds 51 = .ok (.lload_n 2, 1) := by decide +kernel
theorem dX12_odds_52 : decode cX12_odds 52 = .ok (.l2f, 1) := by decide +kernel
theorem dX12_odds_53 : decode cX12_odds 53 = .ok (.fstore 6, 2) := by decide +kernel
theorem dX12_odds_55 : decode cX12_odds 55 = .ok (.lload 4, 2) := by decide +kernel
theorem dX12_odds_57 : decode cX12_odds 57 = .ok (.l2f, 1) := by decide +kernel
theorem dX12_odds_58 : decode cX12_odds 58 = .ok (.fstore 7, 2) := by decide +kernel
theorem dX12_odds_60 : decode cX12_odds 60 = .ok (.fload 7, 2) := by decide +kernel
theorem dX12_odds_62 : decode cX12_odds 62 = .ok (.fload 6, 2) := by decide +kernel
theorem dX12_odds_64 : decode cX12_odds 64 = .ok (.fdiv, 1) := by decide +kernel
theorem dX12_odds_65 : decode cX12_odds 65 = .ok (.invokestatic 231, 3) := by decide +kernel
theorem dX12_odds_68 : decode cX12_odds 68 = .ok (.ireturn, 1) := by decide +kernel
set_option maxRecDepth 20000 in
theorem ggX12_finds_X12_areSplit : GoodIn wsX12_finds wsX12_areSplit := goodIn_r _ [9, 10, 1, 11, 12, 13, 8, 14, 89, 90, 91, 92, 93, 94, 95, 96, 97, 98, 99, 100, 101, 102, 103, 104, 105, 106, 107, 108, 109, 110, 111, 112, 113, 114, 115, 116, 117, 118, 119, 120, 121, 122, 123, 124, 125, 126] (by decide +kernel) (by decide +kernel)
set_option maxRecDepth 20000 in
theorem gX12_finds_X12_areSplit : GoodIn wsX12_finds (wsV RX12 211 RX12 yX12_areSplit wsX12_areSplit) := goodIn_app (goodIn_of _ (by decide +kernel)) ggX12_finds_X12_areSplit
set_option maxRecDepth 20000 in
theorem ggX12_finds_X12_room : GoodIn wsX12_finds wsX12_room := goodIn_r _ [18, 19, 20, 21, 22, 23, 24, 89, 90, 91, 92, 93, 94, 95, 96, 97, 98, 99, 100, 101, 102, 103, 104, 105, 106, 107, 108, 109, 110, 111, 112, 113, 114, 115, 116, 117, 118, 119, 120, 121, 122, 123, 124, 125, 126] (by decide +kernel) (by decide +kernel)
set_option maxRecDepth 20000 in
theorem gX12_finds_X12_room : GoodIn wsX12_finds (wsV RX12 190 RX12 yX12_room wsX12_room) := goodIn_app (goodIn_of _ (by decide +kernel)) ggX12_finds_X12_room
set_option maxRecDepth 20000 in
theorem ggX12_finds_X12_clears : GoodIn wsX12_finds wsX12_clears := goodIn_r _ [28, 4, 22, 89, 90, 91, 92, 93, 94, 95, 96, 97, 98, 99, 100, 101, 102, 103, 104, 105, 106, 107, 108, 109, 110, 111, 112, 113, 114, 115, 116, 117, 118, 119, 120, 121, 122, 123, 124, 125, 126] (by decide +kernel) (by decide +kernel)
set_option maxRecDepth 20000 in
theorem gX12_finds_X12_clears : GoodIn wsX12_finds (wsV RX12 193 RX12 yX12_clears wsX12_clears) := goodIn_app (goodIn_of _ (by decide +kernel)) ggX12_finds_X12_clears
set_option maxRecDepth 20000 in
theorem ggX12_finds_X12_puts : GoodIn wsX12_finds wsX12_puts := goodIn_r _ [32] (by decide +kernel) (by decide +kernel)
set_option maxRecDepth 20000 in
theorem gX12_finds_X12_puts : GoodIn wsX12_finds (wsV RX12 148 RX12 yX12_puts wsX12_puts) := goodIn_app (goodIn_of _ (by decide +kernel)) ggX12_finds_X12_puts
set_option maxRecDepth 20000 in
theorem ggX12_finds_X12_numberOf : GoodIn wsX12_finds wsX12_numberOf := goodIn_r _ [36, 22, 4, 19, 1, 23, 37, 38, 39, 8, 40, 41, 42, 43, 44, 89, 90, 91, 92, 93, 94, 95, 96, 97, 98, 99, 100, 101, 102, 103, 104, 105, 106, 107, 108, 109, 110, 111, 112, 113, 114, 115, 116, 117, 118, 119, 120, 121, 122, 123, 124, 125, 126] (by decide +kernel) (by decide +kernel)
set_option maxRecDepth 20000 in
theorem gX12_finds_X12_numberOf : GoodIn wsX12_finds (wsV RX12 197 RX12 yX12_numberOf wsX12_numberOf) := goodIn_app (goodIn_of _ (by decide +kernel)) ggX12_finds_X12_numberOf
set_option maxRecDepth 20000 in
theorem ggX12_finds_X12_findsBehind : GoodIn wsX12_finds wsX12_findsBehind := goodIn_r _ [48, 10, 49, 50, 51, 3, 4, 52, 53, 54, 55, 56, 57, 8, 58, 59, 60, 61, 62, 63, 64, 65, 66, 67, 68, 69, 1, 19, 70, 71, 72, 73, 74, 75, 76, 77, 78, 79, 80, 81, 82, 83, 84, 85, 86, 87, 88, 5, 6, 7, 9, 11, 12, 13, 14, 33, 34, 35, 36, 22, 23, 37, 38, 39, 40, 41, 42, 43, 44, 89, 90, 91, 92, 93, 94, 95, 96, 97, 98, 99, 100, 101, 102, 103, 104, 105, 106, 107, 108, 109, 110, 111, 112, 113, 114, 115, 116, 117, 118, 119, 120, 121, 122, 123, 124, 125, 126] (by decide +kernel) (by decide +kernel)
set_option maxRecDepth 20000 in
theorem gX12_finds_X12_findsBehind : GoodIn wsX12_finds (wsV RX12 237 RX12 yX12_findsBehind wsX12_findsBehind) := goodIn_app (goodIn_of _ (by decide +kernel)) ggX12_finds_X12_findsBehind
theorem dX12_finds_0 : decode cX12_finds 0 = .ok (.aload_n 0, 1) := by decide +kernel
theorem dX12_finds_1 : decode cX12_finds 1 = .ok (.invokevirtual 211, 3) := by decide +kernel
theorem dX12_finds_4 : decode cX12_finds 4 = .ok (.ifCond .eq 5, 3) := by decide +kernel
theorem dX12_finds_7 : decode cX12_finds 7 = .ok (.iconst 0, 1) := by decide +kernel
theorem dX12_finds_8 : decode cX12_finds 8 = .ok (.ireturn, 1) := by decide +kernel
theorem dX12_finds_9 : decode cX12_finds 9 = .ok (.aload_n 0, 1) := by decide +kernel
theorem dX12_finds_10 : decode cX12_finds 10 = .ok (.invokevirtual 190, 3) := by decide +kernel
theorem dX12_finds_13 : decode cX12_finds 13 = .ok (.aload_n 0, 1) := by decide +kernel
theorem dX12_finds_14 : decode cX12_finds 14 = .ok (.iconst 0, 1) := by decide +kernel
theorem dX12_finds_15 : decode cX12_finds 15 = .ok (.invokevirtual 193, 3) := by decide +kernel
theorem dX12_finds_18 : decode cX12_finds 18 = .ok (.aload_n 0, 1) := by decide +kernel
theorem dX12_finds_19 : decode cX12_finds 19 = .ok (.aload_n 0, 1) := by decide +kernel
theorem dX12_finds_20 : decode cX12_finds 20 = .ok (.getfield 7, 3) := by decide +kernel
theorem dX12_finds_23 : decode cX12_finds 23 = .ok (.aload_n 0, 1) := by decide +kernel
theorem dX12_finds_24 : decode cX12_finds 24 = .ok (.getfield 16, 3) := by decide +kernel
theorem dX12_finds_27 : decode cX12_finds 27 = .ok (.invokevirtual 148, 3) := by decide +kernel
theorem dX12_finds_30 : decode cX12_finds 30 = .ok (.aload_n 0, 1) := by decide +kernel
theorem dX12_finds_31 : decode cX12_finds 31 = .ok (.getfield 79, 3) := by decide +kernel
theorem dX12_finds_34 : decode cX12_finds 34 = .ok (.aload_n 0, 1) := by decide +kernel
theorem dX12_finds_35 : decode cX12_finds 35 = .ok (.iconst 0, 1) := by decide +kernel
theorem dX12_finds_36 : decode cX12_finds 36 = .ok (.sipush 2000, 3) := by decide +kernel
theorem dX12_finds_39 : decode cX12_finds 39 = .ok (.invokevirtual 197, 3) := by decide +kernel
theorem dX12_finds_42 : decode cX12_finds 42 = .ok (.iconst 0, 1) := by decide +kernel
theorem dX12_finds_43 : decode cX12_finds 43 = .ok (.iastore, 1) := by decide +kernel
theorem dX12_finds_44 : decode cX12_finds 44 = .ok (.iconst (-1), 1) := by decide +kernel
theorem dX12_finds_45 : decode cX12_finds 45 = .ok (.istore_n 1, 1) := by decide +kernel
theorem dX12_finds_46 : decode cX12_finds 46 = .ok (.iconst 0, 1) := by decide +kernel
theorem dX12_finds_47 : decode cX12_finds 47 = .ok (.istore_n 2, 1) := by decide +kernel
theorem dX12_finds_48 : decode cX12_finds 48 = .ok (.iload_n 2, 1) := by decide +kernel
theorem dX12_finds_49 : decode cX12_finds 49 = .ok (.aload_n 0, 1) := by decide +kernel
theorem dX12_finds_50 : decode cX12_finds 50 = .ok (.getfield 58, 3) := by decide +kernel
theorem dX12_finds_53 : decode cX12_finds 53 = .ok (.iconst 0, 1) := by decide +kernel
theorem dX12_finds_54 : decode cX12_finds 54 = .ok (.iaload, 1) := by decide +kernel
theorem dX12_finds_55 : decode cX12_finds 55 = .ok (.if_icmp .ge 20, 3) := by decide +kernel
theorem dX12_finds_58 : decode cX12_finds 58 = .ok (.iload_n 1, 1) := by decide +kernel
theorem dX12_finds_59 : decode cX12_finds 59 = .ok (.iconst (-1), 1) := by decide +kernel
theorem dX12_finds_60 : decode cX12_finds 60 = .ok (.if_icmp .ne 15, 3) := by decide +kernel
theorem dX12_finds_63 : decode cX12_finds 63 = .ok (.aload_n 0, 1) := by decide +kernel
theorem dX12_finds_64 : decode cX12_finds 64 = .ok (.iload_n 2, 1) := by decide +kernel
theorem dX12_finds_65 : decode cX12_finds 65 = .ok (.invokevirtual 237, 3) := by decide +kernel
theorem dX12_finds_68 : decode cX12_finds 68 = .ok (.istore_n 1, 1) := by decide +kernel
theorem dX12_finds_69 : decode cX12_finds 69 = .ok (.iinc 2 1, 3) := by decide +kernel
theorem dX12_finds_72 : decode cX12_finds 72 = .ok (.goto (-24), 3) := by decide +kernel
theorem dX12_finds_75 : decode cX12_finds 75 = .ok (.aload_n 0, 1) := by decide +kernel
theorem dX12_finds_76 : decode cX12_finds 76 = .ok (.aload_n 0, 1) := by decide +kernel
theorem dX12_finds_77 : decode cX12_finds 77 = .ok (.getfield 16, 3) := by decide +kernel
theorem dX12_finds_80 : decode cX12_finds 80 = .ok (.aload_n 0, 1) := by decide +kernel
theorem dX12_finds_81 : decode cX12_finds 81 = .ok (.getfield 7, 3) := by decide +kernel
theorem dX12_finds_84 : decode cX12_finds 84 = .ok (.invokevirtual 148, 3) := by decide +kernel
theorem dX12_finds_87 : decode cX12_finds 87 = .ok (.iload_n 1, 1) := by decide +kernel
theorem dX12_finds_88 : decode cX12_finds 88 = .ok (.ireturn, 1) := by decide +kernel
set_option maxRecDepth 20000 in
theorem ggX12_findsBehind_X12_isSample : GoodIn wsX12_findsBehind wsX12_isSample := goodIn_r _ [14, 1, 15, 16, 17, 13, 18, 19, 20, 21, 69, 70, 71, 72, 73, 74, 75, 76, 77, 78, 79, 80, 81, 82, 83, 84, 85, 86, 87, 88, 89, 90, 91, 92, 93, 94, 95, 96, 97, 98, 99, 100, 101, 102, 103, 104, 105, 106] (by decide +kernel) (by decide +kernel)
set_option maxRecDepth 20000 in
theorem gX12_findsBehind_X12_isSample : GoodIn wsX12_findsBehind (wsV RX12 139 RX12 yX12_isSample wsX12_isSample) := goodIn_app (goodIn_of _ (by decide +kernel)) ggX12_findsBehind_X12_isSample
set_option maxRecDepth 20000 in
theorem ggX12_findsBehind_X12_brings : GoodIn wsX12_findsBehind wsX12_brings := goodIn_r _ [25, 26, 27, 69, 70, 71, 72, 73, 74, 75, 76, 77, 78, 79, 80, 81, 82, 83, 84, 85, 86, 87, 88, 89, 90, 91, 92, 93, 94, 95, 96, 97, 98, 99, 100, 101, 102, 103, 104, 105, 106] (by decide +kernel) (by decide +kernel)
set_option maxRecDepth 20000 in
theorem gX12_findsBehind_X12_brings : GoodIn wsX12_findsBehind (wsV RX12 203 RX12 yX12_brings wsX12_brings) := goodIn_app (goodIn_of _ (by decide +kernel)) ggX12_findsBehind_X12_brings
set_option maxRecDepth 20000 in
theorem ggX12_findsBehind_X12_canAsk : GoodIn wsX12_findsBehind wsX12_canAsk := goodIn_r _ [31, 26, 69, 70, 71, 72, 73, 74, 75, 76, 77, 78, 79, 80, 81, 82, 83, 84, 85, 86, 87, 88, 89, 90, 91, 92, 93, 94, 95, 96, 97, 98, 99, 100, 101, 102, 103, 104, 105, 106] (by decide +kernel) (by decide +kernel)
set_option maxRecDepth 20000 in
theorem gX12_findsBehind_X12_canAsk : GoodIn wsX12_findsBehind (wsV RX12 142 RX12 yX12_canAsk wsX12_canAsk) := goodIn_app (goodIn_of _ (by decide +kernel)) ggX12_findsBehind_X12_canAsk
set_option maxRecDepth 20000 in
theorem ggX12_findsBehind_X12_asks : GoodIn wsX12_findsBehind wsX12_asks := goodIn_r _ [35, 1, 36, 26, 37, 38, 16, 17, 13, 18, 39, 40, 41, 42, 43, 44, 45, 46, 69, 70, 71, 72, 73, 74, 75, 76, 77, 78, 79, 80, 81, 82, 83, 84, 85, 86, 87, 88, 89, 90, 91, 92, 93, 94, 95, 96, 97, 98, 99, 100, 101, 102, 103, 104, 105, 106] (by decide +kernel) (by decide +kernel)
set_option maxRecDepth 20000 in
theorem gX12_findsBehind_X12_asks : GoodIn wsX12_findsBehind (wsV RX12 145 RX12 yX12_asks wsX12_asks) := goodIn_app (goodIn_of _ (by decide +kernel)) ggX12_findsBehind_X12_asks
set_option maxRecDepth 20000 in
theorem ggX12_findsBehind_X12_areSplit : GoodIn wsX12_findsBehind wsX12_areSplit := goodIn_r _ [50, 1, 26, 51, 52, 53, 13, 54, 69, 70, 71, 72, 73, 74, 75, 76, 77, 78, 79, 80, 81, 82, 83, 84, 85, 86, 87, 88, 89, 90, 91, 92, 93, 94, 95, 96, 97, 98, 99, 100, 101, 102, 103, 104, 105, 106] (by decide +kernel) (by decide +kernel)
set_option maxRecDepth 20000 in
theorem gX12_findsBehind_X12_areSplit : GoodIn wsX12_findsBehind (wsV RX12 211 RX12 yX12_areSplit wsX12_areSplit) := goodIn_app (goodIn_of _ (by decide +kernel)) ggX12_findsBehind_X12_areSplit
set_option maxRecDepth 20000 in
theorem ggX12_findsBehind_X12_numberOf : GoodIn wsX12_findsBehind wsX12_numberOf := goodIn_r _ [58, 59, 6, 27, 26, 60, 61, 62, 63, 13, 64, 65, 66, 67, 68, 69, 70, 71, 72, 73, 74, 75, 76, 77, 78, 79, 80, 81, 82, 83, 84, 85, 86, 87, 88, 89, 90, 91, 92, 93, 94, 95, 96, 97, 98, 99, 100, 101, 102, 103, 104, 105, 106] (by decide +kernel) (by decide +kernel)
set_option maxRecDepth 20000 in
theorem gX12_findsBehind_X12_numberOf : GoodIn wsX12_findsBehind (wsV RX12 197 RX12 yX12_numberOf wsX12_numberOf) := goodIn_app (goodIn_of _ (by decide +kernel)) ggX12_findsBehind_X12_numberOf
theorem dX12_findsBehind_0 : decode cX12_findsBehind 0 = .ok (.iconst 0, 1) := by decide +kernel
theorem dX12_findsBehind_1 : decode cX12_findsBehind 1 = .ok (.istore_n 2, 1) := by decide +kernel
theorem dX12_findsBehind_2 : decode cX12_findsBehind 2 = .ok (.iload_n 2, 1) := by decide +kernel
theorem dX12_findsBehind_3 : decode cX12_findsBehind 3 = .ok (.aload_n 0, 1) := by decide +kernel
theorem dX12_findsBehind_4 : decode cX12_findsBehind 4 = .ok (.getfield 19, 3) := by decide +kernel
theorem dX12_findsBehind_7 : decode cX12_findsBehind 7 = .ok (.if_icmp .ge 169, 3) := by decide +kernel
theorem dX12_findsBehind_10 : decode cX12_findsBehind 10 = .ok (.iconst 0, 1) := by decide +kernel
theorem dX12_findsBehind_11 : decode cX12_findsBehind 11 = .ok (.istore_n 3, 1) := by decide +kernel
theorem dX12_findsBehind_12 : decode cX12_findsBehind 12 = .ok (.iload_n 3, 1) := by decide +kernel
theorem dX12_findsBehind_13 : decode cX12_findsBehind 13 = .ok (.iconst 1, 1) := by decide +kernel
theorem dX12_findsBehind_14 : decode cX12_findsBehind 14 = .ok (.aload_n 0, 1) := by decide +kernel
theorem dX12_findsBehind_15 : decode cX12_findsBehind 15 = .ok (.getfield 19, 3) := by decide +kernel
theorem dX12_findsBehind_18 : decode cX12_findsBehind 18 = .ok (.ishl, 1) := by decide +kernel
theorem dX12_findsBehind_19 : decode cX12_findsBehind 19 = .ok (.if_icmp .ge 151, 3) := by decide +kernel
theorem dX12_findsBehind_22 : decode cX12_findsBehind 22 = .ok (.aload_n 0, 1) := by decide +kernel
theorem dX12_findsBehind_23 : decode cX12_findsBehind 23 = .ok (.iload_n 2, 1) := by decide +kernel
theorem dX12_findsBehind_24 : decode cX12_findsBehind 24 = .ok (.iload_n 3, 1) := by decide +kernel
theorem dX12_findsBehind_25 : decode cX12_findsBehind 25 = .ok (.invokevirtual 139, 3) := by decide +kernel
theorem dX12_findsBehind_28 : decode cX12_findsBehind 28 = .ok (.ifCond .ne 6, 3) := by decide +kernel
theorem dX12_findsBehind_31 : decode cX12_findsBehind 31 = .ok (.goto 133, 3) := by decide +kernel
theorem dX12_findsBehind_34 : decode cX12_findsBehind 34 = .ok (.aload_n 0, 1) := by decide +kernel
theorem dX12_findsBehind_35 : decode cX12_findsBehind 35 = .ok (.iconst 0, 1) := by decide +kernel
theorem dX12_findsBehind_36 : decode cX12_findsBehind 36 = .ok (.iload_n 1, 1) := by decide +kernel
theorem dX12_findsBehind_37 : decode cX12_findsBehind 37 = .ok (.invokevirtual 203, 3) := by decide +kernel
theorem dX12_findsBehind_40 : decode cX12_findsBehind 40 = .ok (.aload_n 0, 1) := by decide +kernel
theorem dX12_findsBehind_41 : decode cX12_findsBehind 41 = .ok (.iload_n 2, 1) := by decide +kernel
theorem dX12_findsBehind_42 : decode cX12_findsBehind 42 = .ok (.invokevirtual 142, 3) := by decide +kernel
theorem dX12_findsBehind_45 : decode cX12_findsBehind 45 = .ok (.ifCond .ne 6, 3) := by decide +kernel
theorem dX12_findsBehind_48 : decode cX12_findsBehind 48 = .ok (.goto 122, 3) := by decide +kernel
theorem dX12_findsBehind_51 : decode cX12_findsBehind 51 = .ok (.aload_n 0, 1) := by decide +kernel
theorem dX12_findsBehind_52 : decode cX12_findsBehind 52 = .ok (.iload_n 2, 1) := by decide +kernel
theorem dX12_findsBehind_53 : decode cX12_findsBehind 53 = .ok (.iload_n 3, 1) := by decide +kernel
theorem dX12_findsBehind_54 : decode cX12_findsBehind 54 = .ok (.invokevirtual 145, 3) := by decide +kernel
theorem dX12_findsBehind_57 : decode cX12_findsBehind 57 = .ok (.pop, 1) := by decide +kernel
theorem dX12_findsBehind_58 : decode cX12_findsBehind 58 = .ok (.aload_n 0, 1) := by decide +kernel
theorem dX12_findsBehind_59 : decode cX12_findsBehind 59 = .ok (.invokevirtual 211, 3) := by decide +kernel
theorem dX12_findsBehind_62 : decode cX12_findsBehind 62 = .ok (.ifCond .eq 27, 3) := by decide +kernel
theorem dX12_findsBehind_65 : decode cX12_findsBehind 65 = .ok (.aload_n 0, 1) := by decide +kernel
theorem dX12_findsBehind_66 : decode cX12_findsBehind 66 = .ok (.iload_n 1, 1) := by decide +kernel
theorem dX12_findsBehind_67 : decode cX12_findsBehind 67 = .ok (.putfield 240, 3) := by decide +kernel
theorem dX12_findsBehind_70 : decode cX12_findsBehind 70 = .ok (.aload_n 0, 1) := by decide +kernel
theorem dX12_findsBehind_71 : decode cX12_findsBehind 71 = .ok (.iload_n 2, 1) := by decide +kernel
theorem dX12_findsBehind_72 : decode cX12_findsBehind 72 = .ok (.putfield 243, 3) := by decide +kernel
theorem dX12_findsBehind_75 : decode cX12_findsBehind 75 = .ok (.aload_n 0, 1) := by decide +kernel
theorem dX12_findsBehind_76 : decode cX12_findsBehind 76 = .ok (.iload_n 3, 1) := by decide +kernel
theorem dX12_findsBehind_77 : decode cX12_findsBehind 77 = .ok (.putfield 246, 3) := by decide +kernel
theorem dX12_findsBehind_80 : decode cX12_findsBehind 80 = .ok (.aload_n 0, 1) := by decide +kernel
theorem dX12_findsBehind_81 : decode cX12_findsBehind 81 = .ok (.getfield 79, 3) := by decide +kernel
theorem dX12_findsBehind_84 : decode cX12_findsBehind 84 = .ok (.iload_n 1, 1) := by decide +kernel
theorem dX12_findsBehind_85 : decode cX12_findsBehind 85 = .ok (.iaload, 1) := by decide +kernel
theorem dX12_findsBehind_86 : decode cX12_findsBehind 86 = .ok (.iconst 1, 1) := by decide +kernel
theorem dX12_findsBehind_87 : decode cX12_findsBehind 87 = .ok (.iadd, 1) := by decide +kernel
theorem dX12_findsBehind_88 : decode cX12_findsBehind 88 = .ok (.ireturn, 1) := by decide +kernel
theorem dX12_findsBehind_89 : decode cX12_findsBehind 89 = .ok (.aload_n 0, 1) := by decide +kernel
theorem dX12_findsBehind_90 : decode cX12_findsBehind 90 = .ok (.getfield 58, 3) := by decide +kernel
theorem dX12_findsBehind_93 : decode cX12_findsBehind 93 = .ok (.iconst 0, 1) := by decide +kernel
theorem dX12_findsBehind_94 : decode cX12_findsBehind 94 = .ok (.iaload, 1) := by decide +kernel
theorem dX12_findsBehind_95 : decode cX12_findsBehind 95 = .ok (.istore 4, 2) := by decide +kernel
theorem dX12_findsBehind_97 : decode cX12_findsBehind 97 = .ok (.aload_n 0, 1) := by decide +kernel
theorem dX12_findsBehind_98 : decode cX12_findsBehind 98 = .ok (.iconst 0, 1) := by decide +kernel
theorem dX12_findsBehind_99 : decode cX12_findsBehind 99 = .ok (.sipush 2000, 3) := by decide +kernel
theorem dX12_findsBehind_102 : decode cX12_findsBehind 102 = .ok (.invokevirtual 197, 3) := by decide +kernel
theorem dX12_findsBehind_105 : decode cX12_findsBehind 105 = .ok (.istore 5, 2) := by decide +kernel
theorem dX12_findsBehind_107 : decode cX12_findsBehind 107 = .ok (.iload 5, 2) := by decide +kernel
theorem dX12_findsBehind_109 : decode cX12_findsBehind 109 = .ok (.ifCond .ge 6, 3) := by decide +kernel
theorem dX12_findsBehind_112 : decode cX12_findsBehind 112 = .ok (.bipush (-3), 2) := by decide +kernel
theorem dX12_findsBehind_114 : decode cX12_findsBehind 114 = .ok (.ireturn, 1) := by decide +kernel
theorem dX12_findsBehind_115 : decode cX12_findsBehind 115 = .ok (.iload 5, 2) := by decide +kernel
theorem dX12_findsBehind_117 : decode cX12_findsBehind 117 = .ok (.iload 4, 2) := by decide +kernel
theorem dX12_findsBehind_119 : decode cX12_findsBehind 119 = .ok (.if_icmp .ge 6, 3) := by decide +kernel
theorem dX12_findsBehind_122 : decode cX12_findsBehind 122 = .ok (.goto 42, 3) := by decide +kernel
theorem dX12_findsBehind_125 : decode cX12_findsBehind 125 = .ok (.aload_n 0, 1) := by decide +kernel
theorem dX12_findsBehind_126 : decode cX12_findsBehind 126 = .ok (.getfield 79, 3) := by decide +kernel
theorem dX12_findsBehind_129 : decode cX12_findsBehind 129 = .ok (.iload 5, 2) := by decide +kernel
theorem dX12_findsBehind_131 : decode cX12_findsBehind 131 = .ok (.aload_n 0, 1) := by decide +kernel
theorem dX12_findsBehind_132 : decode cX12_findsBehind 132 = .ok (.getfield 79, 3) := by decide +kernel
theorem dX12_findsBehind_135 : decode cX12_findsBehind 135 = .ok (.iload_n 1, 1) := by decide +kernel
theorem dX12_findsBehind_136 : decode cX12_findsBehind 136 = .ok (.iaload, 1) := by decide +kernel
theorem dX12_findsBehind_137 : decode cX12_findsBehind 137 = .ok (.iconst 1, 1) := by decide +kernel
theorem dX12_findsBehind_138 : decode cX12_findsBehind 138 = .ok (.iadd, 1) := by decide +kernel
theorem dX12_findsBehind_139 : decode cX12_findsBehind 139 = .ok (.iastore, 1) := by decide +kernel
theorem dX12_findsBehind_140 : decode cX12_findsBehind 140 = .ok (.aload_n 0, 1) := by decide +kernel
theorem dX12_findsBehind_141 : decode cX12_findsBehind 141 = .ok (.getfield 70, 3) := by decide +kernel
theorem dX12_findsBehind_144 : decode cX12_findsBehind 144 = .ok (.iload 5, 2) := by decide +kernel
theorem dX12_findsBehind_146 : decode cX12_findsBehind 146 = .ok (.iload_n 1, 1) := by decide +kernel
theorem dX12_findsBehind_147 : decode cX12_findsBehind 147 = .ok (.iastore, 1) := by decide +kernel
theorem dX12_findsBehind_148 : decode cX12_findsBehind 148 = .ok (.aload_n 0, 1) := by decide +kernel
theorem dX12_findsBehind_149 : decode cX12_findsBehind 149 = .ok (.getfield 73, 3) := by decide +kernel
theorem dX12_findsBehind_152 : decode cX12_findsBehind 152 = .ok (.iload 5, 2) := by decide +kernel
theorem dX12_findsBehind_154 : decode cX12_findsBehind 154 = .ok (.iload_n 2, 1) := by decide +kernel
theorem dX12_findsBehind_155 : decode cX12_findsBehind 155 = .ok (.iastore, 1) := by decide +kernel
theorem dX12_findsBehind_156 : decode cX12_findsBehind 156 = .ok (.aload_n 0, 1) := by decide +kernel
theorem dX12_findsBehind_157 : decode cX12_findsBehind 157 = .ok (.getfield 76, 3) := by decide +kernel
theorem dX12_findsBehind_160 : decode cX12_findsBehind 160 = .ok (.iload 5, 2) := by decide +kernel
theorem dX12_findsBehind_162 : decode cX12_findsBehind 162 = .ok (.iload_n 3, 1) := by decide +kernel
theorem dX12_findsBehind_163 : decode cX12_findsBehind 163 = .ok (.iastore, 1) := by decide +kernel
theorem dX12_findsBehind_164 : decode cX12_findsBehind 164 = .ok (.iinc 3 1, 3) := by decide +kernel
theorem dX12_findsBehind_167 : decode cX12_findsBehind 167 = .ok (.goto (-155), 3) := by decide +kernel
theorem dX12_findsBehind_170 : decode cX12_findsBehind 170 = .ok (.iinc 2 1, 3) := by decide +kernel
theorem dX12_findsBehind_173 : decode cX12_findsBehind 173 = .ok (.goto (-171), 3) := by decide +kernel
theorem dX12_findsBehind_176 : decode cX12_findsBehind 176 = .ok (.iconst (-1), 1) := by decide +kernel
theorem dX12_findsBehind_177 : decode cX12_findsBehind 177 = .ok (.ireturn, 1) := by decide +kernel
set_option maxRecDepth 20000 in
theorem ggX12_soonest_X12_finds : GoodIn wsX12_soonest wsX12_finds := goodIn_r _ [6, 7, 8, 9, 10, 11, 12, 13, 5, 14, 15, 16, 17, 18, 19, 20, 21, 22, 23, 24, 25, 26, 27, 28, 29, 30, 31, 32, 33, 34, 35, 36, 37, 38, 39, 40, 41, 42, 43, 44, 45, 46, 47, 48, 49, 50, 51, 52, 53, 54, 55, 56, 57, 58, 59, 60, 61, 62, 63, 64, 65, 66, 67, 68, 69, 70, 71, 72, 73, 74, 75, 76, 77, 78, 79, 80, 81, 82, 83, 84, 85, 86, 87, 88, 89, 90, 91, 92, 93, 94, 95, 96, 97, 98, 99, 100, 101, 102, 103, 104, 105, 106, 107, 108, 109, 110, 111, 112, 113, 114, 115, 116, 117, 118, 119, 120, 121, 122, 123, 124, 125, 126, 127, 128, 129, 130, 131] (by decide +kernel) (by decide +kernel)
set_option maxRecDepth 20000 in
theorem gX12_soonest_X12_finds : GoodIn wsX12_soonest (wsV RX12 249 RX12 yX12_finds wsX12_finds) := goodIn_app (goodIn_of _ (by decide +kernel)) ggX12_soonest_X12_finds
theorem dX12_soonest_0 : decode cX12_soonest 0 = .ok (.aload_n 0, 1) := by decide +kernel
theorem dX12_soonest_1 : decode cX12_soonest 1 = .ok (.iconst 0, 1) := by decide +kernel
theorem dX12_soonest_2 : decode cX12_soonest 2 = .ok (.putfield 97, 3) := by decide +kernel
theorem dX12_soonest_5 : decode cX12_soonest 5 = .ok (.aload_n 0, 1) := by decide +kernel
theorem dX12_soonest_6 : decode cX12_soonest 6 = .ok (.invokevirtual 249, 3) := by decide +kernel
theorem dX12_soonest_9 : decode cX12_soonest 9 = .ok (.ireturn, 1) := by decide +kernel
set_option maxRecDepth 20000 in
theorem ggX12_way_X12_finds : GoodIn wsX12_way wsX12_finds := goodIn_r _ [12, 13, 14, 15, 16, 17, 18, 19, 11, 20, 21, 22, 23, 24, 25, 26, 27, 28, 29, 30, 31, 32, 33, 34, 35, 36, 37, 38, 39, 40, 41, 42, 43, 44, 45, 46, 47, 48, 49, 50, 51, 52, 53, 54, 55, 56, 57, 58, 59, 4, 2, 3, 7, 5, 6, 60, 61, 62, 63, 64, 65, 66, 67, 68, 69, 70, 71, 72, 73, 74, 75, 76, 77, 78, 79, 80, 81, 82, 83, 84, 85, 86, 87, 88, 89, 90, 91, 92, 93, 97, 98, 99, 100, 101, 102, 103, 104, 105, 106, 107, 108, 109, 110, 111, 112, 113, 114, 115, 116, 117, 118, 119, 120, 121, 122, 123, 124, 125, 126, 127, 128, 129, 130, 131, 132, 133, 134] (by decide +kernel) (by decide +kernel)
set_option maxRecDepth 20000 in
theorem gX12_way_X12_finds : GoodIn wsX12_way (wsV RX12 249 RX12 yX12_finds wsX12_finds) := goodIn_app (goodIn_of _ (by decide +kernel)) ggX12_way_X12_finds
set_option maxRecDepth 20000 in
theorem ggX12_way_X12_within : GoodIn wsX12_way wsX12_within := goodIn_r _ [96] (by decide +kernel) (by decide +kernel)
set_option maxRecDepth 20000 in
theorem gX12_way_X12_within : GoodIn wsX12_way (va_wsS RX12 116 yX12_within wsX12_within) := goodIn_app (goodIn_of _ (by decide +kernel)) ggX12_way_X12_within
theorem dX12_way_0 : decode cX12_way 0 = .ok (.aload_n 0, 1) := by decide +kernel
theorem dX12_way_1 : decode cX12_way 1 = .ok (.iconst 0, 1) := by decide +kernel
theorem dX12_way_2 : decode cX12_way 2 = .ok (.putfield 97, 3) := by decide +kernel
theorem dX12_way_5 : decode cX12_way 5 = .ok (.aload_n 0, 1) := by decide +kernel
theorem dX12_way_6 : decode cX12_way 6 = .ok (.invokevirtual 249, 3) := by decide +kernel
theorem dX12_way_9 : decode cX12_way 9 = .ok (.istore_n 3, 1) := by decide +kernel
theorem dX12_way_10 : decode cX12_way 10 = .ok (.iload_n 3, 1) := by decide +kernel
theorem dX12_way_11 : decode cX12_way 11 = .ok (.bipush (-3), 2) := by decide +kernel
theorem dX12_way_13 : decode cX12_way 13 = .ok (.if_icmp .ne 6, 3) := by decide +kernel
theorem dX12_way_16 : decode cX12_way 16 = .ok (.bipush (-3), 2) := by decide +kernel
theorem dX12_way_18 : decode cX12_way 18 = .ok (.ireturn, 1) := by decide +kernel
theorem dX12_way_19 : decode cX12_way 19 = .ok (.iload_n 2, 1) := by decide +kernel
theorem dX12_way_20 : decode cX12_way 20 = .ok (.iconst 0, 1) := by decide +kernel
theorem dX12_way_21 : decode cX12_way 21 = .ok (.iconst 1, 1) := by decide +kernel
theorem dX12_way_22 : decode cX12_way 22 = .ok (.invokestatic 116, 3) := by decide +kernel
theorem dX12_way_25 : decode cX12_way 25 = .ok (.ifCond .eq 14, 3) := by decide +kernel
theorem dX12_way_28 : decode cX12_way 28 = .ok (.iload_n 1, 1) := by decide +kernel
theorem dX12_way_29 : decode cX12_way 29 = .ok (.iconst 0, 1) := by decide +kernel
theorem dX12_way_30 : decode cX12_way 30 = .ok (.iload_n 3, 1) := by decide +kernel
theorem dX12_way_31 : decode cX12_way 31 = .ok (.iconst 1, 1) := by decide +kernel
theorem dX12_way_32 : decode cX12_way 32 = .ok (.isub, 1) := by decide +kernel
theorem dX12_way_33 : decode cX12_way 33 = .ok (.invokestatic 116, 3) := by decide +kernel
theorem dX12_way_36 : decode cX12_way 36 = .ok (.ifCond .ne 6, 3) := by decide +kernel
theorem dX12_way_39 : decode cX12_way 39 = .ok (.bipush (-2), 2) := by decide +kernel
theorem dX12_way_41 : decode cX12_way 41 = .ok (.ireturn, 1) := by decide +kernel
theorem dX12_way_42 : decode cX12_way 42 = .ok (.aload_n 0, 1) := by decide +kernel
theorem dX12_way_43 : decode cX12_way 43 = .ok (.getfield 243, 3) := by decide +kernel
theorem dX12_way_46 : decode cX12_way 46 = .ok (.istore 4, 2) := by decide +kernel
theorem dX12_way_48 : decode cX12_way 48 = .ok (.aload_n 0, 1) := by decide +kernel
theorem dX12_way_49 : decode cX12_way 49 = .ok (.getfield 246, 3) := by decide +kernel
theorem dX12_way_52 : decode cX12_way 52 = .ok (.istore 5, 2) := by decide +kernel
theorem dX12_way_54 : decode cX12_way 54 = .ok (.aload_n 0, 1) := by decide +kernel
theorem dX12_way_55 : decode cX12_way 55 = .ok (.getfield 240, 3) := by decide +kernel
theorem dX12_way_58 : decode cX12_way 58 = .ok (.istore 6, 2) := by decide +kernel
theorem dX12_way_60 : decode cX12_way 60 = .ok (.iload_n 3, 1) := by decide +kernel
theorem dX12_way_61 : decode cX12_way 61 = .ok (.iconst 1, 1) := by decide +kernel
theorem dX12_way_62 : decode cX12_way 62 = .ok (.isub, 1) := by decide +kernel
theorem dX12_way_63 : decode cX12_way 63 = .ok (.istore 7, 2) := by decide +kernel
theorem dX12_way_65 : decode cX12_way 65 = .ok (.iload 7, 2) := by decide +kernel
theorem dX12_way_67 : decode cX12_way 67 = .ok (.iload_n 1, 1) := by decide +kernel
theorem dX12_way_68 : decode cX12_way 68 = .ok (.if_icmp .le 36, 3) := by decide +kernel
theorem dX12_way_71 : decode cX12_way 71 = .ok (.aload_n 0, 1) := by decide +kernel
theorem dX12_way_72 : decode cX12_way 72 = .ok (.getfield 73, 3) := by decide +kernel
theorem dX12_way_75 : decode cX12_way 75 = .ok (.iload 6, 2) := by decide +kernel
theorem dX12_way_77 : decode cX12_way 77 = .ok (.iaload, 1) := by decide +kernel
theorem dX12_way_78 : decode cX12_way 78 = .ok (.istore 4, 2) := by decide +kernel
theorem dX12_way_80 : decode cX12_way 80 = .ok (.aload_n 0, 1) := by decide +kernel
theorem dX12_way_81 : decode cX12_way 81 = .ok (.getfield 76, 3) := by decide +kernel
theorem dX12_way_84 : decode cX12_way 84 = .ok (.iload 6, 2) := by decide +kernel
theorem dX12_way_86 : decode cX12_way 86 = .ok (.iaload, 1) := by decide +kernel
theorem dX12_way_87 : decode cX12_way 87 = .ok (.istore 5, 2) := by decide +kernel
theorem dX12_way_89 : decode cX12_way 89 = .ok (.aload_n 0, 1) := by decide +kernel
theorem dX12_way_90 : decode cX12_way 90 = .ok (.getfield 70, 3) := by decide +kernel
theorem dX12_way_93 : decode cX12_way 93 = .ok (.iload 6, 2) := by decide +kernel
theorem dX12_way_95 : decode cX12_way 95 = .ok (.iaload, 1) := by decide +kernel
theorem dX12_way_96 : decode cX12_way 96 = .ok (.istore 6, 2) := by decide +kernel
theorem dX12_way_98 : decode cX12_way 98 = .ok (.iinc 7 (-1), 3) := by decide +kernel
theorem dX12_way_101 : decode cX12_way 101 = .ok (.goto (-36), 3) := by decide +kernel
theorem dX12_way_104 : decode cX12_way 104 = .ok (.iload_n 2, 1) := by decide +kernel
theorem dX12_way_105 : decode cX12_way 105 = .ok (.ifCond .ne 8, 3) := by decide +kernel
theorem dX12_way_108 : decode cX12_way 108 = .ok (.iload 4, 2) := by decide +kernel
theorem dX12_way_110 : decode cX12_way 110 = .ok (.goto 5, 3) := by decide +kernel
theorem dX12_way_113 : decode cX12_way 113 = .ok (.iload 5, 2) := by decide +kernel
theorem dX12_way_115 : decode cX12_way 115 = .ok (.ireturn, 1) := by decide +kernel
theorem dX12_times_0 : decode cX12_times 0 = .ok (.lload_n 1, 1) := by decide +kernel
theorem dX12_times_1 : decode cX12_times 1 = .ok (.lconst 0, 1) := by decide +kernel
theorem dX12_times_2 : decode cX12_times 2 = .ok (.lcmp, 1) := by decide +kernel
theorem dX12_times_3 : decode cX12_times 3 = .ok (.ifCond .eq 9, 3) := by decide +kernel
theorem dX12_times_6 : decode cX12_times 6 = .ok (.lload_n 3, 1) := by decide +kernel
theorem dX12_times_7 : decode cX12_times 7 = .ok (.lconst 0, 1) := by decide +kernel
theorem dX12_times_8 : decode cX12_times 8 = .ok (.lcmp, 1) := by decide +kernel
theorem dX12_times_9 : decode cX12_times 9 = .ok (.ifCond .ne 5, 3) := by decide +kernel
theorem dX12_times_12 : decode cX12_times 12 = .ok (.lconst 0, 1) := by decide +kernel
theorem dX12_times_13 : decode cX12_times 13 = .ok (.lreturn, 1) := by decide +kernel
theorem dX12_times_14 : decode cX12_times 14 = .ok (.lload_n 1, 1) := by decide +kernel
theorem dX12_times_15 : decode cX12_times 15 = .ok (.lload_n 3, 1) := by decide +kernel
theorem dX12_times_16 : decode cX12_times 16 = .ok (.lmul, 1) := by decide +kernel
theorem dX12_times_17 : decode cX12_times 17 = .ok (.lstore 5, 2) := by decide +kernel
theorem dX12_times_19 : decode cX12_times 19 = .ok (.lload 5, 2) := by decide +kernel
theorem dX12_times_21 : decode cX12_times 21 = .ok (.lload_n 3, 1) := by decide +kernel
theorem dX12_times_22 : decode cX12_times 22 = .ok (.ldiv, 1) := by decide +kernel
theorem dX12_times_23 : decode cX12_times 23 = .ok (.lload_n 1, 1) := by decide +kernel
theorem dX12_times_24 : decode cX12_times 24 = .ok (.lcmp, 1) := by decide +kernel
theorem dX12_times_25 : decode cX12_times 25 = .ok (.ifCond .eq 8, 3) := by decide +kernel
theorem dX12_times_28 : decode cX12_times 28 = .ok (.aload_n 0, 1) := by decide +kernel
theorem dX12_times_29 : decode cX12_times 29 = .ok (.iconst 1, 1) := by decide +kernel
theorem dX12_times_30 : decode cX12_times 30 = .ok (.putfield 252, 3) := by decide +kernel
theorem dX12_times_33 : decode cX12_times 33 = .ok (.lload 5, 2) := by decide +kernel
theorem dX12_times_35 : decode cX12_times 35 = .ok (.lreturn, 1) := by decide +kernel
theorem dX12_plus_0 : decode cX12_plus 0 = .ok (.lload_n 1, 1) := by decide +kernel
theorem dX12_plus_1 : decode cX12_plus 1 = .ok (.lload_n 3, 1) := by decide +kernel
theorem dX12_plus_2 : decode cX12_plus 2 = .ok (.ladd, 1) := by decide +kernel
theorem dX12_plus_3 : decode cX12_plus 3 = .ok (.lstore 5, 2) := by decide +kernel
theorem dX12_plus_5 : decode cX12_plus 5 = .ok (.lload_n 1, 1) := by decide +kernel
theorem dX12_plus_6 : decode cX12_plus 6 = .ok (.lconst 0, 1) := by decide +kernel
theorem dX12_plus_7 : decode cX12_plus 7 = .ok (.lcmp, 1) := by decide +kernel
theorem dX12_plus_8 : decode cX12_plus 8 = .ok (.ifCond .ge 7, 3) := by decide +kernel
theorem dX12_plus_11 : decode cX12_plus 11 = .ok (.iconst 1, 1) := by decide +kernel
theorem dX12_plus_12 : decode cX12_plus 12 = .ok (.goto 4, 3) := by decide +kernel
theorem dX12_plus_15 : decode cX12_plus 15 = .ok (.iconst 0, 1) := by decide +kernel
theorem dX12_plus_16 : decode cX12_plus 16 = .ok (.lload_n 3, 1) := by decide +kernel
theorem dX12_plus_17 : decode cX12_plus 17 = .ok (.lconst 0, 1) := by decide +kernel
theorem dX12_plus_18 : decode cX12_plus 18 = .ok (.lcmp, 1) := by decide +kernel
theorem dX12_plus_19 : decode cX12_plus 19 = .ok (.ifCond .ge 7, 3) := by decide +kernel
theorem dX12_plus_22 : decode cX12_plus 22 = .ok (.iconst 1, 1) := by decide +kernel
theorem dX12_plus_23 : decode cX12_plus 23 = .ok (.goto 4, 3) := by decide +kernel
theorem dX12_plus_26 : decode cX12_plus 26 = .ok (.iconst 0, 1) := by decide +kernel
theorem dX12_plus_27 : decode cX12_plus 27 = .ok (.if_icmp .ne 34, 3) := by decide +kernel
theorem dX12_plus_30 : decode cX12_plus 30 = .ok (.lload 5, 2) := by decide +kernel
theorem dX12_plus_32 : decode cX12_plus 32 = .ok (.lconst 0, 1) := by decide +kernel
theorem dX12_plus_33 : decode cX12_plus 33 = .ok (.lcmp, 1) := by decide +kernel
theorem dX12_plus_34 : decode cX12_plus 34 = .ok (.ifCond .ge 7, 3) := by decide +kernel
theorem dX12_plus_37 : decode cX12_plus 37 = .ok (.iconst 1, 1) := by decide +kernel
theorem dX12_plus_38 : decode cX12_plus 38 = .ok (.goto 4, 3) := by decide +kernel
theorem dX12_plus_41 : decode cX12_plus 41 = .ok (.iconst 0, 1) := by decide +kernel
theorem dX12_plus_42 : decode cX12_plus 42 = .ok (.lload_n 1, 1) := by decide +kernel
theorem dX12_plus_43 : decode cX12_plus 43 = .ok (.lconst 0, 1) := by decide +kernel
theorem dX12_plus_44 : decode cX12_plus 44 = .ok (.lcmp, 1) := by decide +kernel
theorem dX12_plus_45 : decode cX12_plus 45 = .ok (.ifCond .ge 7, 3) := by decide +kernel
theorem dX12_plus_48 : decode cX12_plus 48 = .ok (.iconst 1, 1) := by decide +kernel
theorem dX12_plus_49 : decode cX12_plus 49 = .ok (.goto 4, 3) := by decide +kernel
theorem dX12_plus_52 : decode cX12_plus 52 = .ok (.iconst 0, 1) := by decide +kernel
theorem dX12_plus_53 : decode cX12_plus 53 = .ok (.if_icmp .eq 8, 3) := by decide +kernel
theorem dX12_plus_56 : decode cX12_plus 56 = .ok (.aload_n 0, 1) := by decide +kernel
theorem dX12_plus_57 : decode cX12_plus 57 = .ok (.iconst 1, 1) := by decide +kernel
theorem dX12_plus_58 : decode cX12_plus 58 = .ok (.putfield 252, 3) := by decide +kernel
theorem dX12_plus_61 : decode cX12_plus 61 = .ok (.lload 5, 2) := by decide +kernel
theorem dX12_plus_63 : decode cX12_plus 63 = .ok (.lreturn, 1) := by decide +kernel
theorem dX12_settles_0 : decode cX12_settles 0 = .ok (.lload_n 1, 1) := by decide +kernel
theorem dX12_settles_1 : decode cX12_settles 1 = .ok (.lconst 0, 1) := by decide +kernel
theorem dX12_settles_2 : decode cX12_settles 2 = .ok (.lcmp, 1) := by decide +kernel
theorem dX12_settles_3 : decode cX12_settles 3 = .ok (.ifCond .ge 8, 3) := by decide +kernel
theorem dX12_settles_6 : decode cX12_settles 6 = .ok (.lload_n 1, 1) := by decide +kernel
theorem dX12_settles_7 : decode cX12_settles 7 = .ok (.lneg, 1) := by decide +kernel
theorem dX12_settles_8 : decode cX12_settles 8 = .ok (.goto 4, 3) := by decide +kernel
theorem dX12_settles_11 : decode cX12_settles 11 = .ok (.lload_n 1, 1) := by decide +kernel
theorem dX12_settles_12 : decode cX12_settles 12 = .ok (.lstore 5, 2) := by decide +kernel
theorem dX12_settles_14 : decode cX12_settles 14 = .ok (.lload_n 3, 1) := by decide +kernel
theorem dX12_settles_15 : decode cX12_settles 15 = .ok (.lstore 7, 2) := by decide +kernel
theorem dX12_settles_17 : decode cX12_settles 17 = .ok (.lload 7, 2) := by decide +kernel
theorem dX12_settles_19 : decode cX12_settles 19 = .ok (.lconst 0, 1) := by decide +kernel
theorem dX12_settles_20 : decode cX12_settles 20 = .ok (.lcmp, 1) := by decide +kernel
theorem dX12_settles_21 : decode cX12_settles 21 = .ok (.ifCond .eq 28, 3) := by decide +kernel
theorem dX12_settles_24 : decode cX12_settles 24 = .ok (.aload_n 0, 1) := by decide +kernel
theorem dX12_settles_25 : decode cX12_settles 25 = .ok (.getfield 252, 3) := by decide +kernel
theorem dX12_settles_28 : decode cX12_settles 28 = .ok (.ifCond .ne 21, 3) := by decide +kernel
theorem dX12_settles_31 : decode cX12_settles 31 = .ok (.lload 5, 2) := by decide +kernel
theorem dX12_settles_33 : decode cX12_settles 33 = .ok (.lload 7, 2) := by decide +kernel
theorem dX12_settles_35 : decode cX12_settles 35 = .ok (.lrem, 1) := by decide +kernel
theorem dX12_settles_36 : decode cX12_settles 36 = .ok (.lstore 9, 2) := by decide +kernel
theorem dX12_settles_38 : decode cX12_settles 38 = .ok (.lload 7, 2) := by decide +kernel
theorem dX12_settles_40 : decode cX12_settles 40 = .ok (.lstore 5, 2) := by decide +kernel
theorem dX12_settles_42 : decode cX12_settles 42 = .ok (.lload 9, 2) := by decide +kernel
theorem dX12_settles_44 : decode cX12_settles 44 = .ok (.lstore 7, 2) := by decide +kernel
theorem dX12_settles_46 : decode cX12_settles 46 = .ok (.goto (-29), 3) := by decide +kernel
theorem dX12_settles_49 : decode cX12_settles 49 = .ok (.aload_n 0, 1) := by decide +kernel
theorem dX12_settles_50 : decode cX12_settles 50 = .ok (.aload_n 0, 1) := by decide +kernel
theorem dX12_settles_51 : decode cX12_settles 51 = .ok (.getfield 252, 3) := by decide +kernel
theorem dX12_settles_54 : decode cX12_settles 54 = .ok (.ifCond .eq 7, 3) := by decide +kernel
theorem dX12_settles_57 : decode cX12_settles 57 = .ok (.lconst 0, 1) := by decide +kernel
theorem dX12_settles_58 : decode cX12_settles 58 = .ok (.goto 7, 3) := by decide +kernel
theorem dX12_settles_61 : decode cX12_settles 61 = .ok (.lload_n 1, 1) := by decide +kernel
theorem dX12_settles_62 : decode cX12_settles 62 = .ok (.lload 5, 2) := by decide +kernel
theorem dX12_settles_64 : decode cX12_settles 64 = .ok (.ldiv, 1) := by decide +kernel
theorem dX12_settles_65 : decode cX12_settles 65 = .ok (.putfield 256, 3) := by decide +kernel
theorem dX12_settles_68 : decode cX12_settles 68 = .ok (.aload_n 0, 1) := by decide +kernel
theorem dX12_settles_69 : decode cX12_settles 69 = .ok (.aload_n 0, 1) := by decide +kernel
theorem dX12_settles_70 : decode cX12_settles 70 = .ok (.getfield 252, 3) := by decide +kernel
theorem dX12_settles_73 : decode cX12_settles 73 = .ok (.ifCond .eq 7, 3) := by decide +kernel
theorem dX12_settles_76 : decode cX12_settles 76 = .ok (.lconst 1, 1) := by decide +kernel
theorem dX12_settles_77 : decode cX12_settles 77 = .ok (.goto 7, 3) := by decide +kernel
theorem dX12_settles_80 : decode cX12_settles 80 = .ok (.lload_n 3, 1) := by decide +kernel
theorem dX12_settles_81 : decode cX12_settles 81 = .ok (.lload 5, 2) := by decide +kernel
theorem dX12_settles_83 : decode cX12_settles 83 = .ok (.ldiv, 1) := by decide +kernel
theorem dX12_settles_84 : decode cX12_settles 84 = .ok (.putfield 260, 3) := by decide +kernel
theorem dX12_settles_87 : decode cX12_settles 87 = .ok (.return_, 1) := by decide +kernel
set_option maxRecDepth 20000 in
theorem ggX12_adds_X12_times : GoodIn wsX12_adds wsX12_times := goodIn_r _ [5, 6, 17, 18, 19, 20, 21, 22, 23, 24, 25, 26, 27, 28, 29, 30, 31, 32, 33, 34, 35, 36, 37, 38, 39, 40, 41, 42, 43, 44, 45, 46, 47, 48, 49, 50, 51, 52, 53, 54] (by decide +kernel) (by decide +kernel)
set_option maxRecDepth 20000 in
theorem gX12_adds_X12_times : GoodIn wsX12_adds (wsV RX12 263 RX12 yX12_times wsX12_times) := goodIn_app (goodIn_of _ (by decide +kernel)) ggX12_adds_X12_times
set_option maxRecDepth 20000 in
theorem ggX12_adds_X12_plus : GoodIn wsX12_adds wsX12_plus := goodIn_r _ [10, 6, 17, 18, 19, 20, 21, 22, 23, 24, 25, 26, 27, 28, 29, 30, 31, 32, 33, 34, 35, 36, 37, 38, 39, 40, 41, 42, 43, 44, 45, 46, 47, 48, 49, 50, 51, 52, 53, 54] (by decide +kernel) (by decide +kernel)
set_option maxRecDepth 20000 in
theorem gX12_adds_X12_plus : GoodIn wsX12_adds (wsV RX12 266 RX12 yX12_plus wsX12_plus) := goodIn_app (goodIn_of _ (by decide +kernel)) ggX12_adds_X12_plus
set_option maxRecDepth 20000 in
theorem ggX12_adds_X12_settles : GoodIn wsX12_adds wsX12_settles := goodIn_r _ [14, 6, 15, 16, 17, 18, 19, 20, 21, 22, 23, 24, 25, 26, 27, 28, 29, 30, 31, 32, 33, 34, 35, 36, 37, 38, 39, 40, 41, 42, 43, 44, 45, 46, 47, 48, 49, 50, 51, 52, 53, 54] (by decide +kernel) (by decide +kernel)
set_option maxRecDepth 20000 in
theorem gX12_adds_X12_settles : GoodIn wsX12_adds (wsV RX12 269 RX12 yX12_settles wsX12_settles) := goodIn_app (goodIn_of _ (by decide +kernel)) ggX12_adds_X12_settles
theorem dX12_adds_0 : decode cX12_adds 0 = .ok (.aload_n 0, 1) := by decide +kernel
theorem dX12_adds_1 : decode cX12_adds 1 = .ok (.aload_n 0, 1) := by decide +kernel
theorem dX12_adds_2 : decode cX12_adds 2 = .ok (.aload_n 0, 1) := by decide +kernel
theorem dX12_adds_3 : decode cX12_adds 3 = .ok (.lload_n 1, 1) := by decide +kernel
theorem dX12_adds_4 : decode cX12_adds 4 = .ok (.lload 7, 2) := by decide +kernel
theorem dX12_adds_6 : decode cX12_adds 6 = .ok (.invokevirtual 263, 3) := by decide +kernel
theorem dX12_adds_9 : decode cX12_adds 9 = .ok (.aload_n 0, 1) := by decide +kernel
theorem dX12_adds_10 : decode cX12_adds 10 = .ok (.lload 5, 2) := by decide +kernel
theorem dX12_adds_12 : decode cX12_adds 12 = .ok (.lload_n 3, 1) := by decide +kernel
theorem dX12_adds_13 : decode cX12_adds 13 = .ok (.invokevirtual 263, 3) := by decide +kernel
theorem dX12_adds_16 : decode cX12_adds 16 = .ok (.invokevirtual 266, 3) := by decide +kernel
theorem dX12_adds_19 : decode cX12_adds 19 = .ok (.aload_n 0, 1) := by decide +kernel
theorem dX12_adds_20 : decode cX12_adds 20 = .ok (.lload_n 3, 1) := by decide +kernel
theorem dX12_adds_21 : decode cX12_adds 21 = .ok (.lload 7, 2) := by decide +kernel
theorem dX12_adds_23 : decode cX12_adds 23 = .ok (.invokevirtual 263, 3) := by decide +kernel
theorem dX12_adds_26 : decode cX12_adds 26 = .ok (.invokevirtual 269, 3) := by decide +kernel
theorem dX12_adds_29 : decode cX12_adds 29 = .ok (.return_, 1) := by decide +kernel
set_option maxRecDepth 20000 in
theorem ggX12_lessens_X12_times : GoodIn wsX12_lessens wsX12_times := goodIn_r _ [5, 6, 17, 18, 19, 20, 21, 22, 23, 24, 25, 26, 27, 28, 29, 30, 31, 32, 33, 34, 35, 36, 37, 38, 39, 40, 41, 42, 43, 44, 45, 46, 47, 48, 49, 50, 51, 52, 53, 54] (by decide +kernel) (by decide +kernel)
set_option maxRecDepth 20000 in
theorem gX12_lessens_X12_times : GoodIn wsX12_lessens (wsV RX12 263 RX12 yX12_times wsX12_times) := goodIn_app (goodIn_of _ (by decide +kernel)) ggX12_lessens_X12_times
set_option maxRecDepth 20000 in
theorem ggX12_lessens_X12_plus : GoodIn wsX12_lessens wsX12_plus := goodIn_r _ [10, 6, 17, 18, 19, 20, 21, 22, 23, 24, 25, 26, 27, 28, 29, 30, 31, 32, 33, 34, 35, 36, 37, 38, 39, 40, 41, 42, 43, 44, 45, 46, 47, 48, 49, 50, 51, 52, 53, 54] (by decide +kernel) (by decide +kernel)
set_option maxRecDepth 20000 in
theorem gX12_lessens_X12_plus : GoodIn wsX12_lessens (wsV RX12 266 RX12 yX12_plus wsX12_plus) := goodIn_app (goodIn_of _ (by decide +kernel)) ggX12_lessens_X12_plus
set_option maxRecDepth 20000 in
theorem ggX12_lessens_X12_settles : GoodIn wsX12_lessens wsX12_settles := goodIn_r _ [14, 6, 15, 16, 17, 18, 19, 20, 21, 22, 23, 24, 25, 26, 27, 28, 29, 30, 31, 32, 33, 34, 35, 36, 37, 38, 39, 40, 41, 42, 43, 44, 45, 46, 47, 48, 49, 50, 51, 52, 53, 54] (by decide +kernel) (by decide +kernel)
set_option maxRecDepth 20000 in
theorem gX12_lessens_X12_settles : GoodIn wsX12_lessens (wsV RX12 269 RX12 yX12_settles wsX12_settles) := goodIn_app (goodIn_of _ (by decide +kernel)) ggX12_lessens_X12_settles
theorem dX12_lessens_0 : decode cX12_lessens 0 = .ok (.aload_n 0, 1) := by decide +kernel
theorem dX12_lessens_1 : decode cX12_lessens 1 = .ok (.aload_n 0, 1) := by decide +kernel
theorem dX12_lessens_2 : decode cX12_lessens 2 = .ok (.aload_n 0, 1) := by decide +kernel
theorem dX12_lessens_3 : decode cX12_lessens 3 = .ok (.lload_n 1, 1) := by decide +kernel
theorem dX12_lessens_4 : decode cX12_lessens 4 = .ok (.lload 7, 2) := by decide +kernel
theorem dX12_lessens_6 : decode cX12_lessens 6 = .ok (.invokevirtual 263, 3) := by decide +kernel
theorem dX12_lessens_9 : decode cX12_lessens 9 = .ok (.aload_n 0, 1) := by decide +kernel
theorem dX12_lessens_10 : decode cX12_lessens 10 = .ok (.lload 5, 2) := by decide +kernel
theorem dX12_lessens_12 : decode cX12_lessens 12 = .ok (.lload_n 3, 1) := by decide +kernel
theorem dX12_lessens_13 : decode cX12_lessens 13 = .ok (.invokevirtual 263, 3) := by decide +kernel
theorem dX12_lessens_16 : decode cX12_lessens 16 = .ok (.lneg, 1) := by decide +kernel
theorem dX12_lessens_17 : decode cX12_lessens 17 = .ok (.invokevirtual 266, 3) := by decide +kernel
theorem dX12_lessens_20 : decode cX12_lessens 20 = .ok (.aload_n 0, 1) := by decide +kernel
theorem dX12_lessens_21 : decode cX12_lessens 21 = .ok (.lload_n 3, 1) := by decide +kernel
theorem dX12_lessens_22 : decode cX12_lessens 22 = .ok (.lload 7, 2) := by decide +kernel
theorem dX12_lessens_24 : decode cX12_lessens 24 = .ok (.invokevirtual 263, 3) := by decide +kernel
theorem dX12_lessens_27 : decode cX12_lessens 27 = .ok (.invokevirtual 269, 3) := by decide +kernel
theorem dX12_lessens_30 : decode cX12_lessens 30 = .ok (.return_, 1) := by decide +kernel
set_option maxRecDepth 20000 in
theorem ggX12_multiplies_X12_times : GoodIn wsX12_multiplies wsX12_times := goodIn_r _ [5, 6, 13, 14, 15, 16, 17, 18, 19, 20, 21, 22, 23, 24, 25, 26, 27, 28, 29, 30, 31, 32, 33, 34, 35, 36, 37, 38, 39, 40, 41, 42, 43, 44, 45, 46, 47, 48, 49, 50] (by decide +kernel) (by decide +kernel)
set_option maxRecDepth 20000 in
theorem gX12_multiplies_X12_times : GoodIn wsX12_multiplies (wsV RX12 263 RX12 yX12_times wsX12_times) := goodIn_app (goodIn_of _ (by decide +kernel)) ggX12_multiplies_X12_times
set_option maxRecDepth 20000 in
theorem ggX12_multiplies_X12_settles : GoodIn wsX12_multiplies wsX12_settles := goodIn_r _ [10, 6, 11, 12, 13, 14, 15, 16, 17, 18, 19, 20, 21, 22, 23, 24, 25, 26, 27, 28, 29, 30, 31, 32, 33, 34, 35, 36, 37, 38, 39, 40, 41, 42, 43, 44, 45, 46, 47, 48, 49, 50] (by decide +kernel) (by decide +kernel)
set_option maxRecDepth 20000 in
theorem gX12_multiplies_X12_settles : GoodIn wsX12_multiplies (wsV RX12 269 RX12 yX12_settles wsX12_settles) := goodIn_app (goodIn_of _ (by decide +kernel)) ggX12_multiplies_X12_settles
theorem dX12_multiplies_0 : decode cX12_multiplies 0 = .ok (.aload_n 0, 1) := by decide +kernel
theorem dX12_multiplies_1 : decode cX12_multiplies 1 = .ok (.aload_n 0, 1) := by decide +kernel
theorem dX12_multiplies_2 : decode cX12_multiplies 2 = .ok (.lload_n 1, 1) := by decide +kernel
theorem dX12_multiplies_3 : decode cX12_multiplies 3 = .ok (.lload 5, 2) := by decide +kernel
theorem dX12_multiplies_5 : decode cX12_multiplies 5 = .ok (.invokevirtual 263, 3) := by decide +kernel
theorem dX12_multiplies_8 : decode cX12_multiplies 8 = .ok (.aload_n 0, 1) := by decide +kernel
theorem dX12_multiplies_9 : decode cX12_multiplies 9 = .ok (.lload_n 3, 1) := by decide +kernel
theorem dX12_multiplies_10 : decode cX12_multiplies 10 = .ok (.lload 7, 2) := by decide +kernel
theorem dX12_multiplies_12 : decode cX12_multiplies 12 = .ok (.invokevirtual 263, 3) := by decide +kernel
theorem dX12_multiplies_15 : decode cX12_multiplies 15 = .ok (.invokevirtual 269, 3) := by decide +kernel
theorem dX12_multiplies_18 : decode cX12_multiplies 18 = .ok (.return_, 1) := by decide +kernel
set_option maxRecDepth 20000 in
theorem ggX12_divides_X12_times : GoodIn wsX12_divides wsX12_times := goodIn_r _ [5, 6, 13, 14, 15, 16, 17, 18, 19, 20, 21, 22, 23, 24, 25, 26, 27, 28, 29, 30, 31, 32, 33, 34, 35, 36, 37, 38, 39, 40, 41, 42, 43, 44, 45, 46, 47, 48, 49, 50] (by decide +kernel) (by decide +kernel)
set_option maxRecDepth 20000 in
theorem gX12_divides_X12_times : GoodIn wsX12_divides (wsV RX12 263 RX12 yX12_times wsX12_times) := goodIn_app (goodIn_of _ (by decide +kernel)) ggX12_divides_X12_times
set_option maxRecDepth 20000 in
theorem ggX12_divides_X12_settles : GoodIn wsX12_divides wsX12_settles := goodIn_r _ [10, 6, 11, 12, 13, 14, 15, 16, 17, 18, 19, 20, 21, 22, 23, 24, 25, 26, 27, 28, 29, 30, 31, 32, 33, 34, 35, 36, 37, 38, 39, 40, 41, 42, 43, 44, 45, 46, 47, 48, 49, 50] (by decide +kernel) (by decide +kernel)
set_option maxRecDepth 20000 in
theorem gX12_divides_X12_settles : GoodIn wsX12_divides (wsV RX12 269 RX12 yX12_settles wsX12_settles) := goodIn_app (goodIn_of _ (by decide +kernel)) ggX12_divides_X12_settles
theorem dX12_divides_0 : decode cX12_divides 0 = .ok (.aload_n 0, 1) := by decide +kernel
theorem dX12_divides_1 : decode cX12_divides 1 = .ok (.aload_n 0, 1) := by decide +kernel
theorem dX12_divides_2 : decode cX12_divides 2 = .ok (.lload_n 1, 1) := by decide +kernel
theorem dX12_divides_3 : decode cX12_divides 3 = .ok (.lload 7, 2) := by decide +kernel
theorem dX12_divides_5 : decode cX12_divides 5 = .ok (.invokevirtual 263, 3) := by decide +kernel
theorem dX12_divides_8 : decode cX12_divides 8 = .ok (.aload_n 0, 1) := by decide +kernel
theorem dX12_divides_9 : decode cX12_divides 9 = .ok (.lload_n 3, 1) := by decide +kernel
theorem dX12_divides_10 : decode cX12_divides 10 = .ok (.lload 5, 2) := by decide +kernel
theorem dX12_divides_12 : decode cX12_divides 12 = .ok (.invokevirtual 263, 3) := by decide +kernel
theorem dX12_divides_15 : decode cX12_divides 15 = .ok (.invokevirtual 269, 3) := by decide +kernel
theorem dX12_divides_18 : decode cX12_divides 18 = .ok (.return_, 1) := by decide +kernel
set_option maxRecDepth 20000 in
theorem ggX12_enough_X12_choose : GoodIn wsX12_enough wsX12_choose := goodIn_r _ [7] (by decide +kernel) (by decide +kernel)
set_option maxRecDepth 20000 in
theorem gX12_enough_X12_choose : GoodIn wsX12_enough (va_wsS RX12 176 yX12_choose wsX12_choose) := goodIn_app (goodIn_of _ (by decide +kernel)) ggX12_enough_X12_choose
theorem dX12_enough_0 : decode cX12_enough 0 = .ok (.lconst 0, 1) := by decide +kernel
theorem dX12_enough_1 : decode cX12_enough 1 = .ok (.lstore_n 2, 1) := by decide +kernel
theorem dX12_enough_2 : decode cX12_enough 2 = .ok (.aload_n 0, 1) := by decide +kernel
theorem dX12_enough_3 : decode cX12_enough 3 = .ok (.getfield 26, 3) := by decide +kernel
theorem dX12_enough_6 : decode cX12_enough 6 = .ok (.istore 4, 2) := by decide +kernel
theorem dX12_enough_8 : decode cX12_enough 8 = .ok (.iload 4, 2) := by decide +kernel
theorem dX12_enough_10 : decode cX12_enough 10 = .ok (.aload_n 0, 1) := by decide +kernel
theorem dX12_enough_11 : decode cX12_enough 11 = .ok (.getfield 23, 3) := by decide +kernel
theorem dX12_enough_14 : decode cX12_enough 14 = .ok (.if_icmp .gt 37, 3) := by decide +kernel
theorem dX12_enough_17 : decode cX12_enough 17 = .ok (.lload_n 2, 1) := by decide +kernel
theorem dX12_enough_18 : decode cX12_enough 18 = .ok (.iload_n 1, 1) := by decide +kernel
theorem dX12_enough_19 : decode cX12_enough 19 = .ok (.iload 4, 2) := by decide +kernel
theorem dX12_enough_21 : decode cX12_enough 21 = .ok (.invokestatic 176, 3) := by decide +kernel
theorem dX12_enough_24 : decode cX12_enough 24 = .ok (.aload_n 0, 1) := by decide +kernel
theorem dX12_enough_25 : decode cX12_enough 25 = .ok (.getfield 19, 3) := by decide +kernel
theorem dX12_enough_28 : decode cX12_enough 28 = .ok (.iconst 1, 1) := by decide +kernel
theorem dX12_enough_29 : decode cX12_enough 29 = .ok (.isub, 1) := by decide +kernel
theorem dX12_enough_30 : decode cX12_enough 30 = .ok (.iload_n 1, 1) := by decide +kernel
theorem dX12_enough_31 : decode cX12_enough 31 = .ok (.isub, 1) := by decide +kernel
theorem dX12_enough_32 : decode cX12_enough 32 = .ok (.aload_n 0, 1) := by decide +kernel
theorem dX12_enough_33 : decode cX12_enough 33 = .ok (.getfield 23, 3) := by decide +kernel
theorem dX12_enough_36 : decode cX12_enough 36 = .ok (.iload 4, 2) := by decide +kernel
theorem dX12_enough_38 : decode cX12_enough 38 = .ok (.isub, 1) := by decide +kernel
theorem dX12_enough_39 : decode cX12_enough 39 = .ok (.invokestatic 176, 3) := by decide +kernel
theorem dX12_enough_42 : decode cX12_enough 42 = .ok (.lmul, 1) := by decide +kernel
theorem dX12_enough_43 : decode cX12_enough 43 = .ok (.ladd, 1) := by decide +kernel
theorem dX12_enough_44 : decode cX12_enough 44 = .ok (.lstore_n 2, 1) := by decide +kernel
theorem dX12_enough_45 : decode cX12_enough 45 = .ok (.iinc 4 1, 3) := by decide +kernel
theorem dX12_enough_48 : decode cX12_enough 48 = .ok (.goto (-40), 3) := by decide +kernel
theorem dX12_enough_51 : decode cX12_enough 51 = .ok (.lload_n 2, 1) := by decide +kernel
theorem dX12_enough_52 : decode cX12_enough 52 = .ok (.lreturn, 1) := by decide +kernel
set_option maxRecDepth 20000 in
theorem ggX12_up_X12_enough : GoodIn wsX12_up wsX12_enough := goodIn_r _ [6, 7, 8, 1, 9, 10, 5, 11, 12, 13, 14, 15, 16, 17, 18, 19, 20, 21, 22, 23, 24, 25, 26, 27, 28, 29, 30, 31, 32, 33, 34, 35, 36, 37, 38, 39, 40, 41, 42, 43, 44, 45, 46, 47, 48, 49] (by decide +kernel) (by decide +kernel)
set_option maxRecDepth 20000 in
theorem gX12_up_X12_enough : GoodIn wsX12_up (wsV RX12 273 RX12 yX12_enough wsX12_enough) := goodIn_app (goodIn_of _ (by decide +kernel)) ggX12_up_X12_enough
theorem dX12_up_0 : decode cX12_up 0 = .ok (.aload_n 0, 1) := by decide +kernel
theorem dX12_up_1 : decode cX12_up 1 = .ok (.getfield 19, 3) := by decide +kernel
theorem dX12_up_4 : decode cX12_up 4 = .ok (.iload_n 1, 1) := by decide +kernel
theorem dX12_up_5 : decode cX12_up 5 = .ok (.isub, 1) := by decide +kernel
theorem dX12_up_6 : decode cX12_up 6 = .ok (.i2l, 1) := by decide +kernel
theorem dX12_up_7 : decode cX12_up 7 = .ok (.aload_n 0, 1) := by decide +kernel
theorem dX12_up_8 : decode cX12_up 8 = .ok (.iload_n 1, 1) := by decide +kernel
theorem dX12_up_9 : decode cX12_up 9 = .ok (.invokevirtual 273, 3) := by decide +kernel
theorem dX12_up_12 : decode cX12_up 12 = .ok (.lmul, 1) := by decide +kernel
theorem dX12_up_13 : decode cX12_up 13 = .ok (.lreturn, 1) := by decide +kernel
set_option maxRecDepth 20000 in
theorem ggX12_down_X12_enough : GoodIn wsX12_down wsX12_enough := goodIn_r _ [6, 7, 8, 1, 9, 10, 5, 11, 12, 13, 14, 15, 16, 17, 18, 19, 20, 21, 22, 23, 24, 25, 26, 27, 28, 29, 30, 31, 32, 33, 34, 35, 36, 37, 38, 39, 40, 41, 42, 43, 44, 45, 46, 47, 48, 49] (by decide +kernel) (by decide +kernel)
set_option maxRecDepth 20000 in
theorem gX12_down_X12_enough : GoodIn wsX12_down (wsV RX12 273 RX12 yX12_enough wsX12_enough) := goodIn_app (goodIn_of _ (by decide +kernel)) ggX12_down_X12_enough
theorem dX12_down_0 : decode cX12_down 0 = .ok (.iload_n 1, 1) := by decide +kernel
theorem dX12_down_1 : decode cX12_down 1 = .ok (.i2l, 1) := by decide +kernel
theorem dX12_down_2 : decode cX12_down 2 = .ok (.aload_n 0, 1) := by decide +kernel
theorem dX12_down_3 : decode cX12_down 3 = .ok (.aload_n 0, 1) := by decide +kernel
theorem dX12_down_4 : decode cX12_down 4 = .ok (.getfield 19, 3) := by decide +kernel
theorem dX12_down_7 : decode cX12_down 7 = .ok (.iload_n 1, 1) := by decide +kernel
theorem dX12_down_8 : decode cX12_down 8 = .ok (.isub, 1) := by decide +kernel
theorem dX12_down_9 : decode cX12_down 9 = .ok (.invokevirtual 273, 3) := by decide +kernel
theorem dX12_down_12 : decode cX12_down 12 = .ok (.lmul, 1) := by decide +kernel
theorem dX12_down_13 : decode cX12_down 13 = .ok (.lreturn, 1) := by decide +kernel
set_option maxRecDepth 20000 in
theorem ggX12_laysSteps_X12_laysStep : GoodIn wsX12_laysSteps wsX12_laysStep := goodIn_r _ [11, 1, 2, 3, 4, 12, 13, 6, 5, 14, 15, 16, 10, 17, 18, 19, 20, 21, 22, 23, 24, 25, 26, 27, 28, 29, 30, 31, 32, 33, 34, 35, 36, 37, 38, 39, 40, 41, 42, 43, 44, 45, 46, 47, 48, 49, 50, 51, 52, 53, 54, 55, 56, 57, 58, 59, 60, 61, 62, 63, 64, 65, 66, 67, 68, 69, 70, 71, 72, 73, 74, 75, 76, 77, 78, 79, 80, 81, 82, 83, 84, 85, 86, 87, 88, 89, 90, 91, 92, 93, 94, 95, 96, 97, 98, 99, 100] (by decide +kernel) (by decide +kernel)
set_option maxRecDepth 20000 in
theorem gX12_laysSteps_X12_laysStep : GoodIn wsX12_laysSteps (wsV RX12 276 RX12 yX12_laysStep wsX12_laysStep) := goodIn_app (goodIn_of _ (by decide +kernel)) ggX12_laysSteps_X12_laysStep
theorem dX12_laysSteps_0 : decode cX12_laysSteps 0 = .ok (.aload_n 0, 1) := by decide +kernel
theorem dX12_laysSteps_1 : decode cX12_laysSteps 1 = .ok (.getfield 82, 3) := by decide +kernel
theorem dX12_laysSteps_4 : decode cX12_laysSteps 4 = .ok (.iconst 0, 1) := by decide +kernel
theorem dX12_laysSteps_5 : decode cX12_laysSteps 5 = .ok (.lconst 0, 1) := by decide +kernel
theorem dX12_laysSteps_6 : decode cX12_laysSteps 6 = .ok (.lastore, 1) := by decide +kernel
theorem dX12_laysSteps_7 : decode cX12_laysSteps 7 = .ok (.aload_n 0, 1) := by decide +kernel
theorem dX12_laysSteps_8 : decode cX12_laysSteps 8 = .ok (.getfield 85, 3) := by decide +kernel
theorem dX12_laysSteps_11 : decode cX12_laysSteps 11 = .ok (.iconst 0, 1) := by decide +kernel
theorem dX12_laysSteps_12 : decode cX12_laysSteps 12 = .ok (.lconst 1, 1) := by decide +kernel
theorem dX12_laysSteps_13 : decode cX12_laysSteps 13 = .ok (.lastore, 1) := by decide +kernel
theorem dX12_laysSteps_14 : decode cX12_laysSteps 14 = .ok (.aload_n 0, 1) := by decide +kernel
theorem dX12_laysSteps_15 : decode cX12_laysSteps 15 = .ok (.getfield 88, 3) := by decide +kernel
theorem dX12_laysSteps_18 : decode cX12_laysSteps 18 = .ok (.iconst 0, 1) := by decide +kernel
theorem dX12_laysSteps_19 : decode cX12_laysSteps 19 = .ok (.lconst 0, 1) := by decide +kernel
theorem dX12_laysSteps_20 : decode cX12_laysSteps 20 = .ok (.lastore, 1) := by decide +kernel
theorem dX12_laysSteps_21 : decode cX12_laysSteps 21 = .ok (.aload_n 0, 1) := by decide +kernel
theorem dX12_laysSteps_22 : decode cX12_laysSteps 22 = .ok (.getfield 91, 3) := by decide +kernel
theorem dX12_laysSteps_25 : decode cX12_laysSteps 25 = .ok (.iconst 0, 1) := by decide +kernel
theorem dX12_laysSteps_26 : decode cX12_laysSteps 26 = .ok (.lconst 1, 1) := by decide +kernel
theorem dX12_laysSteps_27 : decode cX12_laysSteps 27 = .ok (.lastore, 1) := by decide +kernel
theorem dX12_laysSteps_28 : decode cX12_laysSteps 28 = .ok (.iconst 1, 1) := by decide +kernel
theorem dX12_laysSteps_29 : decode cX12_laysSteps 29 = .ok (.istore_n 2, 1) := by decide +kernel
theorem dX12_laysSteps_30 : decode cX12_laysSteps 30 = .ok (.iload_n 2, 1) := by decide +kernel
theorem dX12_laysSteps_31 : decode cX12_laysSteps 31 = .ok (.aload_n 0, 1) := by decide +kernel
theorem dX12_laysSteps_32 : decode cX12_laysSteps 32 = .ok (.getfield 19, 3) := by decide +kernel
theorem dX12_laysSteps_35 : decode cX12_laysSteps 35 = .ok (.if_icmp .ge 22, 3) := by decide +kernel
theorem dX12_laysSteps_38 : decode cX12_laysSteps 38 = .ok (.aload_n 0, 1) := by decide +kernel
theorem dX12_laysSteps_39 : decode cX12_laysSteps 39 = .ok (.getfield 252, 3) := by decide +kernel
theorem dX12_laysSteps_42 : decode cX12_laysSteps 42 = .ok (.ifCond .ne 15, 3) := by decide +kernel
theorem dX12_laysSteps_45 : decode cX12_laysSteps 45 = .ok (.aload_n 0, 1) := by decide +kernel
theorem dX12_laysSteps_46 : decode cX12_laysSteps 46 = .ok (.iload_n 2, 1) := by decide +kernel
theorem dX12_laysSteps_47 : decode cX12_laysSteps 47 = .ok (.iload_n 1, 1) := by decide +kernel
theorem dX12_laysSteps_48 : decode cX12_laysSteps 48 = .ok (.invokevirtual 276, 3) := by decide +kernel
theorem dX12_laysSteps_51 : decode cX12_laysSteps 51 = .ok (.iinc 2 1, 3) := by decide +kernel
theorem dX12_laysSteps_54 : decode cX12_laysSteps 54 = .ok (.goto (-24), 3) := by decide +kernel
theorem dX12_laysSteps_57 : decode cX12_laysSteps 57 = .ok (.return_, 1) := by decide +kernel
set_option maxRecDepth 20000 in
theorem ggX12_laysStep_X12_up : GoodIn wsX12_laysStep wsX12_up := goodIn_r _ [13, 8, 14, 15, 16, 12, 17, 18, 19, 20, 21, 22, 59, 60, 61, 62, 63, 64, 65, 66, 67, 68, 69, 70, 71, 72, 73, 74, 75, 76, 77, 78, 79, 80, 81, 82, 83, 84, 85, 86, 87, 88, 89, 90, 91, 92, 93, 94, 95, 96] (by decide +kernel) (by decide +kernel)
set_option maxRecDepth 20000 in
theorem gX12_laysStep_X12_up : GoodIn wsX12_laysStep (wsV RX12 280 RX12 yX12_up wsX12_up) := goodIn_app (goodIn_of _ (by decide +kernel)) ggX12_laysStep_X12_up
set_option maxRecDepth 20000 in
theorem ggX12_laysStep_X12_down : GoodIn wsX12_laysStep wsX12_down := goodIn_r _ [26, 8, 14, 15, 16, 12, 17, 18, 19, 20, 21, 22, 59, 60, 61, 62, 63, 64, 65, 66, 67, 68, 69, 70, 71, 72, 73, 74, 75, 76, 77, 78, 79, 80, 81, 82, 83, 84, 85, 86, 87, 88, 89, 90, 91, 92, 93, 94, 95, 96] (by decide +kernel) (by decide +kernel)
set_option maxRecDepth 20000 in
theorem gX12_laysStep_X12_down : GoodIn wsX12_laysStep (wsV RX12 283 RX12 yX12_down wsX12_down) := goodIn_app (goodIn_of _ (by decide +kernel)) ggX12_laysStep_X12_down
set_option maxRecDepth 20000 in
theorem ggX12_laysStep_X12_multiplies : GoodIn wsX12_laysStep wsX12_multiplies := goodIn_r _ [30, 31, 32, 33, 12, 34, 7, 35, 36, 37, 38, 5, 6, 59, 60, 61, 62, 63, 64, 65, 66, 67, 68, 69, 70, 71, 72, 73, 74, 75, 76, 77, 78, 79, 80, 81, 82, 83, 84, 85, 86, 87, 88, 89, 90, 91, 92, 93, 94, 95, 96] (by decide +kernel) (by decide +kernel)
set_option maxRecDepth 20000 in
theorem gX12_laysStep_X12_multiplies : GoodIn wsX12_laysStep (wsV RX12 286 RX12 yX12_multiplies wsX12_multiplies) := goodIn_app (goodIn_of _ (by decide +kernel)) ggX12_laysStep_X12_multiplies
set_option maxRecDepth 20000 in
theorem ggX12_laysStep_X12_lessens : GoodIn wsX12_laysStep wsX12_lessens := goodIn_r _ [42, 31, 32, 33, 12, 34, 7, 43, 44, 45, 46, 35, 36, 37, 38, 5, 6, 59, 60, 61, 62, 63, 64, 65, 66, 67, 68, 69, 70, 71, 72, 73, 74, 75, 76, 77, 78, 79, 80, 81, 82, 83, 84, 85, 86, 87, 88, 89, 90, 91, 92, 93, 94, 95, 96] (by decide +kernel) (by decide +kernel)
set_option maxRecDepth 20000 in
theorem gX12_laysStep_X12_lessens : GoodIn wsX12_laysStep (wsV RX12 290 RX12 yX12_lessens wsX12_lessens) := goodIn_app (goodIn_of _ (by decide +kernel)) ggX12_laysStep_X12_lessens
set_option maxRecDepth 20000 in
theorem ggX12_laysStep_X12_divides : GoodIn wsX12_laysStep wsX12_divides := goodIn_r _ [50, 31, 32, 33, 12, 34, 7, 35, 36, 37, 38, 5, 6, 59, 60, 61, 62, 63, 64, 65, 66, 67, 68, 69, 70, 71, 72, 73, 74, 75, 76, 77, 78, 79, 80, 81, 82, 83, 84, 85, 86, 87, 88, 89, 90, 91, 92, 93, 94, 95, 96] (by decide +kernel) (by decide +kernel)
set_option maxRecDepth 20000 in
theorem gX12_laysStep_X12_divides : GoodIn wsX12_laysStep (wsV RX12 293 RX12 yX12_divides wsX12_divides) := goodIn_app (goodIn_of _ (by decide +kernel)) ggX12_laysStep_X12_divides
set_option maxRecDepth 20000 in
theorem ggX12_laysStep_X12_samples : GoodIn wsX12_laysStep wsX12_samples := goodIn_r _ [54, 8, 19, 20, 21, 12, 22, 59, 60, 61, 62, 63, 64, 65, 66, 67, 68, 69, 70, 71, 72, 73, 74, 75, 76, 77, 78, 79, 80, 81, 82, 83, 84, 85, 86, 87, 88, 89, 90, 91, 92, 93, 94, 95, 96] (by decide +kernel) (by decide +kernel)
set_option maxRecDepth 20000 in
theorem gX12_laysStep_X12_samples : GoodIn wsX12_laysStep (wsV RX12 180 RX12 yX12_samples wsX12_samples) := goodIn_app (goodIn_of _ (by decide +kernel)) ggX12_laysStep_X12_samples
set_option maxRecDepth 20000 in
theorem ggX12_laysStep_X12_adds : GoodIn wsX12_laysStep wsX12_adds := goodIn_r _ [58, 31, 32, 33, 12, 34, 7, 43, 44, 45, 46, 35, 36, 37, 38, 5, 6, 59, 60, 61, 62, 63, 64, 65, 66, 67, 68, 69, 70, 71, 72, 73, 74, 75, 76, 77, 78, 79, 80, 81, 82, 83, 84, 85, 86, 87, 88, 89, 90, 91, 92, 93, 94, 95, 96] (by decide +kernel) (by decide +kernel)
set_option maxRecDepth 20000 in
theorem gX12_laysStep_X12_adds : GoodIn wsX12_laysStep (wsV RX12 296 RX12 yX12_adds wsX12_adds) := goodIn_app (goodIn_of _ (by decide +kernel)) ggX12_laysStep_X12_adds
theorem dX12_laysStep_0 : decode cX12_laysStep 0 = .ok (.aload_n 0, 1) := by decide +kernel
theorem dX12_laysStep_1 : decode cX12_laysStep 1 = .ok (.iload_n 1, 1) := by decide +kernel
theorem dX12_laysStep_2 : decode cX12_laysStep 2 = .ok (.invokevirtual 280, 3) := by decide +kernel
theorem dX12_laysStep_5 : decode cX12_laysStep 5 = .ok (.lstore_n 3, 1) := by decide +kernel
theorem dX12_laysStep_6 : decode cX12_laysStep 6 = .ok (.aload_n 0, 1) := by decide +kernel
theorem dX12_laysStep_7 : decode cX12_laysStep 7 = .ok (.iload_n 1, 1) := by decide +kernel
theorem dX12_laysStep_8 : decode cX12_laysStep 8 = .ok (.invokevirtual 283, 3) := by decide +kernel
theorem dX12_laysStep_11 : decode cX12_laysStep 11 = .ok (.lstore 5, 2) := by decide +kernel
theorem dX12_laysStep_13 : decode cX12_laysStep 13 = .ok (.aload_n 0, 1) := by decide +kernel
theorem dX12_laysStep_14 : decode cX12_laysStep 14 = .ok (.getfield 82, 3) := by decide +kernel
theorem dX12_laysStep_17 : decode cX12_laysStep 17 = .ok (.iload_n 1, 1) := by decide +kernel
theorem dX12_laysStep_18 : decode cX12_laysStep 18 = .ok (.lconst 0, 1) := by decide +kernel
theorem dX12_laysStep_19 : decode cX12_laysStep 19 = .ok (.lastore, 1) := by decide +kernel
theorem dX12_laysStep_20 : decode cX12_laysStep 20 = .ok (.aload_n 0, 1) := by decide +kernel
theorem dX12_laysStep_21 : decode cX12_laysStep 21 = .ok (.getfield 85, 3) := by decide +kernel
theorem dX12_laysStep_24 : decode cX12_laysStep 24 = .ok (.iload_n 1, 1) := by decide +kernel
theorem dX12_laysStep_25 : decode cX12_laysStep 25 = .ok (.lconst 1, 1) := by decide +kernel
theorem dX12_laysStep_26 : decode cX12_laysStep 26 = .ok (.lastore, 1) := by decide +kernel
theorem dX12_laysStep_27 : decode cX12_laysStep 27 = .ok (.aload_n 0, 1) := by decide +kernel
theorem dX12_laysStep_28 : decode cX12_laysStep 28 = .ok (.getfield 88, 3) := by decide +kernel
theorem dX12_laysStep_31 : decode cX12_laysStep 31 = .ok (.iload_n 1, 1) := by decide +kernel
theorem dX12_laysStep_32 : decode cX12_laysStep 32 = .ok (.lconst 0, 1) := by decide +kernel
theorem dX12_laysStep_33 : decode cX12_laysStep 33 = .ok (.lastore, 1) := by decide +kernel
theorem dX12_laysStep_34 : decode cX12_laysStep 34 = .ok (.aload_n 0, 1) := by decide +kernel
theorem dX12_laysStep_35 : decode cX12_laysStep 35 = .ok (.getfield 91, 3) := by decide +kernel
theorem dX12_laysStep_38 : decode cX12_laysStep 38 = .ok (.iload_n 1, 1) := by decide +kernel
theorem dX12_laysStep_39 : decode cX12_laysStep 39 = .ok (.lconst 1, 1) := by decide +kernel
theorem dX12_laysStep_40 : decode cX12_laysStep 40 = .ok (.lastore, 1) := by decide +kernel
theorem dX12_laysStep_41 : decode cX12_laysStep 41 = .ok (.lload_n 3, 1) := by decide +kernel
theorem dX12_laysStep_42 : decode cX12_laysStep 42 = .ok (.lconst 0, 1) := by decide +kernel
theorem dX12_laysStep_43 : decode cX12_laysStep 43 = .ok (.lcmp, 1) := by decide +kernel
theorem dX12_laysStep_44 : decode cX12_laysStep 44 = .ok (.ifCond .ne 11, 3) := by decide +kernel
theorem dX12_laysStep_47 : decode cX12_laysStep 47 = .ok (.lload 5, 2) := by decide +kernel
theorem dX12_laysStep_49 : decode cX12_laysStep 49 = .ok (.lconst 0, 1) := by decide +kernel
theorem dX12_laysStep_50 : decode cX12_laysStep 50 = .ok (.lcmp, 1) := by decide +kernel
theorem dX12_laysStep_51 : decode cX12_laysStep 51 = .ok (.ifCond .ne 4, 3) := by decide +kernel
theorem dX12_laysStep_54 : decode cX12_laysStep 54 = .ok (.return_, 1) := by decide +kernel
theorem dX12_laysStep_55 : decode cX12_laysStep 55 = .ok (.aload_n 0, 1) := by decide +kernel
theorem dX12_laysStep_56 : decode cX12_laysStep 56 = .ok (.lload 5, 2) := by decide +kernel
theorem dX12_laysStep_58 : decode cX12_laysStep 58 = .ok (.lconst 1, 1) := by decide +kernel
theorem dX12_laysStep_59 : decode cX12_laysStep 59 = .ok (.aload_n 0, 1) := by decide +kernel
theorem dX12_laysStep_60 : decode cX12_laysStep 60 = .ok (.getfield 82, 3) := by decide +kernel
theorem dX12_laysStep_63 : decode cX12_laysStep 63 = .ok (.iload_n 1, 1) := by decide +kernel
theorem dX12_laysStep_64 : decode cX12_laysStep 64 = .ok (.iconst 1, 1) := by decide +kernel
theorem dX12_laysStep_65 : decode cX12_laysStep 65 = .ok (.isub, 1) := by decide +kernel
theorem dX12_laysStep_66 : decode cX12_laysStep 66 = .ok (.laload, 1) := by decide +kernel
theorem dX12_laysStep_67 : decode cX12_laysStep 67 = .ok (.aload_n 0, 1) := by decide +kernel
theorem dX12_laysStep_68 : decode cX12_laysStep 68 = .ok (.getfield 85, 3) := by decide +kernel
theorem dX12_laysStep_71 : decode cX12_laysStep 71 = .ok (.iload_n 1, 1) := by decide +kernel
theorem dX12_laysStep_72 : decode cX12_laysStep 72 = .ok (.iconst 1, 1) := by decide +kernel
theorem dX12_laysStep_73 : decode cX12_laysStep 73 = .ok (.isub, 1) := by decide +kernel
theorem dX12_laysStep_74 : decode cX12_laysStep 74 = .ok (.laload, 1) := by decide +kernel
theorem dX12_laysStep_75 : decode cX12_laysStep 75 = .ok (.invokevirtual 286, 3) := by decide +kernel
theorem dX12_laysStep_78 : decode cX12_laysStep 78 = .ok (.aload_n 0, 1) := by decide +kernel
theorem dX12_laysStep_79 : decode cX12_laysStep 79 = .ok (.lload_n 3, 1) := by decide +kernel
theorem dX12_laysStep_80 : decode cX12_laysStep 80 = .ok (.lload 5, 2) := by decide +kernel
theorem dX12_laysStep_82 : decode cX12_laysStep 82 = .ok (.ladd, 1) := by decide +kernel
theorem dX12_laysStep_83 : decode cX12_laysStep 83 = .ok (.lconst 1, 1) := by decide +kernel
theorem dX12_laysStep_84 : decode cX12_laysStep 84 = .ok (.aload_n 0, 1) := by decide +kernel
theorem dX12_laysStep_85 : decode cX12_laysStep 85 = .ok (.getfield 256, 3) := by decide +kernel
theorem dX12_laysStep_88 : decode cX12_laysStep 88 = .ok (.aload_n 0, 1) := by decide +kernel
theorem dX12_laysStep_89 : decode cX12_laysStep 89 = .ok (.getfield 260, 3) := by decide +kernel
theorem dX12_laysStep_92 : decode cX12_laysStep 92 = .ok (.invokevirtual 290, 3) := by decide +kernel
theorem dX12_laysStep_95 : decode cX12_laysStep 95 = .ok (.aload_n 0, 1) := by decide +kernel
theorem dX12_laysStep_96 : decode cX12_laysStep 96 = .ok (.getfield 256, 3) := by decide +kernel
theorem dX12_laysStep_99 : decode cX12_laysStep 99 = .ok (.lstore 7, 2) := by decide +kernel
theorem dX12_laysStep_101 : decode cX12_laysStep 101 = .ok (.aload_n 0, 1) := by decide +kernel
theorem dX12_laysStep_102 : decode cX12_laysStep 102 = .ok (.getfield 260, 3) := by decide +kernel
theorem dX12_laysStep_105 : decode cX12_laysStep 105 = .ok (.lstore 9, 2) := by decide +kernel
theorem dX12_laysStep_107 : decode cX12_laysStep 107 = .ok (.lload 7, 2) := by decide +kernel
theorem dX12_laysStep_109 : decode cX12_laysStep 109 = .ok (.lconst 0, 1) := by decide +kernel
theorem dX12_laysStep_110 : decode cX12_laysStep 110 = .ok (.lcmp, 1) := by decide +kernel
theorem dX12_laysStep_111 : decode cX12_laysStep 111 = .ok (.ifCond .eq 10, 3) := by decide +kernel
theorem dX12_laysStep_114 : decode cX12_laysStep 114 = .ok (.aload_n 0, 1) := by decide +kernel
theorem dX12_laysStep_115 : decode cX12_laysStep 115 = .ok (.getfield 252, 3) := by decide +kernel
theorem dX12_laysStep_118 : decode cX12_laysStep 118 = .ok (.ifCond .eq 4, 3) := by decide +kernel
theorem dX12_laysStep_121 : decode cX12_laysStep 121 = .ok (.return_, 1) := by decide +kernel
theorem dX12_laysStep_122 : decode cX12_laysStep 122 = .ok (.aload_n 0, 1) := by decide +kernel
theorem dX12_laysStep_123 : decode cX12_laysStep 123 = .ok (.lload_n 3, 1) := by decide +kernel
theorem dX12_laysStep_124 : decode cX12_laysStep 124 = .ok (.lconst 1, 1) := by decide +kernel
theorem dX12_laysStep_125 : decode cX12_laysStep 125 = .ok (.lload 7, 2) := by decide +kernel
theorem dX12_laysStep_127 : decode cX12_laysStep 127 = .ok (.lload 9, 2) := by decide +kernel
theorem dX12_laysStep_129 : decode cX12_laysStep 129 = .ok (.invokevirtual 293, 3) := by decide +kernel
theorem dX12_laysStep_132 : decode cX12_laysStep 132 = .ok (.aload_n 0, 1) := by decide +kernel
theorem dX12_laysStep_133 : decode cX12_laysStep 133 = .ok (.getfield 82, 3) := by decide +kernel
theorem dX12_laysStep_136 : decode cX12_laysStep 136 = .ok (.iload_n 1, 1) := by decide +kernel
theorem dX12_laysStep_137 : decode cX12_laysStep 137 = .ok (.aload_n 0, 1) := by decide +kernel
theorem dX12_laysStep_138 : decode cX12_laysStep 138 = .ok (.getfield 256, 3) := by decide +kernel
theorem dX12_laysStep_141 : decode cX12_laysStep 141 = .ok (.lastore, 1) := by decide +kernel
theorem dX12_laysStep_142 : decode cX12_laysStep 142 = .ok (.aload_n 0, 1) := by decide +kernel
theorem dX12_laysStep_143 : decode cX12_laysStep 143 = .ok (.getfield 85, 3) := by decide +kernel
theorem dX12_laysStep_146 : decode cX12_laysStep 146 = .ok (.iload_n 1, 1) := by decide +kernel
theorem dX12_laysStep_147 : decode cX12_laysStep 147 = .ok (.aload_n 0, 1) := by decide +kernel
theorem dX12_laysStep_148 : decode cX12_laysStep 148 = .ok (.getfield 260, 3) := by decide +kernel
theorem dX12_laysStep_151 : decode cX12_laysStep 151 = .ok (.lastore, 1) := by decide +kernel
theorem dX12_laysStep_152 : decode cX12_laysStep 152 = .ok (.aload_n 0, 1) := by decide +kernel
theorem dX12_laysStep_153 : decode cX12_laysStep 153 = .ok (.lload 5, 2) := by decide +kernel
theorem dX12_laysStep_155 : decode cX12_laysStep 155 = .ok (.lconst 1, 1) := by decide +kernel
theorem dX12_laysStep_156 : decode cX12_laysStep 156 = .ok (.aload_n 0, 1) := by decide +kernel
theorem dX12_laysStep_157 : decode cX12_laysStep 157 = .ok (.getfield 88, 3) := by decide +kernel
theorem dX12_laysStep_160 : decode cX12_laysStep 160 = .ok (.iload_n 1, 1) := by decide +kernel
theorem dX12_laysStep_161 : decode cX12_laysStep 161 = .ok (.iconst 1, 1) := by decide +kernel
theorem dX12_laysStep_162 : decode cX12_laysStep 162 = .ok (.isub, 1) := by decide +kernel
theorem dX12_laysStep_163 : decode cX12_laysStep 163 = .ok (.laload, 1) := by decide +kernel
theorem dX12_laysStep_164 : decode cX12_laysStep 164 = .ok (.aload_n 0, 1) := by decide +kernel
theorem dX12_laysStep_165 : decode cX12_laysStep 165 = .ok (.getfield 91, 3) := by decide +kernel
theorem dX12_laysStep_168 : decode cX12_laysStep 168 = .ok (.iload_n 1, 1) := by decide +kernel
theorem dX12_laysStep_169 : decode cX12_laysStep 169 = .ok (.iconst 1, 1) := by decide +kernel
theorem dX12_laysStep_170 : decode cX12_laysStep 170 = .ok (.isub, 1) := by decide +kernel
theorem dX12_laysStep_171 : decode cX12_laysStep 171 = .ok (.laload, 1) := by decide +kernel
theorem dX12_laysStep_172 : decode cX12_laysStep 172 = .ok (.invokevirtual 286, 3) := by decide +kernel
theorem dX12_laysStep_175 : decode cX12_laysStep 175 = .ok (.iload_n 2, 1) := by decide +kernel
theorem dX12_laysStep_176 : decode cX12_laysStep 176 = .ok (.ifCond .eq 26, 3) := by decide +kernel
theorem dX12_laysStep_179 : decode cX12_laysStep 179 = .ok (.aload_n 0, 1) := by decide +kernel
theorem dX12_laysStep_180 : decode cX12_laysStep 180 = .ok (.aload_n 0, 1) := by decide +kernel
theorem dX12_laysStep_181 : decode cX12_laysStep 181 = .ok (.getfield 19, 3) := by decide +kernel
theorem dX12_laysStep_184 : decode cX12_laysStep 184 = .ok (.i2l, 1) := by decide +kernel
theorem dX12_laysStep_185 : decode cX12_laysStep 185 = .ok (.aload_n 0, 1) := by decide +kernel
theorem dX12_laysStep_186 : decode cX12_laysStep 186 = .ok (.invokevirtual 180, 3) := by decide +kernel
theorem dX12_laysStep_189 : decode cX12_laysStep 189 = .ok (.lmul, 1) := by decide +kernel
theorem dX12_laysStep_190 : decode cX12_laysStep 190 = .ok (.lconst 1, 1) := by decide +kernel
theorem dX12_laysStep_191 : decode cX12_laysStep 191 = .ok (.aload_n 0, 1) := by decide +kernel
theorem dX12_laysStep_192 : decode cX12_laysStep 192 = .ok (.getfield 256, 3) := by decide +kernel
theorem dX12_laysStep_195 : decode cX12_laysStep 195 = .ok (.aload_n 0, 1) := by decide +kernel
theorem dX12_laysStep_196 : decode cX12_laysStep 196 = .ok (.getfield 260, 3) := by decide +kernel
theorem dX12_laysStep_199 : decode cX12_laysStep 199 = .ok (.invokevirtual 296, 3) := by decide +kernel
theorem dX12_laysStep_202 : decode cX12_laysStep 202 = .ok (.aload_n 0, 1) := by decide +kernel
theorem dX12_laysStep_203 : decode cX12_laysStep 203 = .ok (.aload_n 0, 1) := by decide +kernel
theorem dX12_laysStep_204 : decode cX12_laysStep 204 = .ok (.getfield 256, 3) := by decide +kernel
theorem dX12_laysStep_207 : decode cX12_laysStep 207 = .ok (.aload_n 0, 1) := by decide +kernel
theorem dX12_laysStep_208 : decode cX12_laysStep 208 = .ok (.getfield 260, 3) := by decide +kernel
theorem dX12_laysStep_211 : decode cX12_laysStep 211 = .ok (.lload 7, 2) := by decide +kernel
theorem dX12_laysStep_213 : decode cX12_laysStep 213 = .ok (.lload 9, 2) := by decide +kernel
theorem dX12_laysStep_215 : decode cX12_laysStep 215 = .ok (.invokevirtual 293, 3) := by decide +kernel
theorem dX12_laysStep_218 : decode cX12_laysStep 218 = .ok (.aload_n 0, 1) := by decide +kernel
theorem dX12_laysStep_219 : decode cX12_laysStep 219 = .ok (.getfield 88, 3) := by decide +kernel
theorem dX12_laysStep_222 : decode cX12_laysStep 222 = .ok (.iload_n 1, 1) := by decide +kernel
theorem dX12_laysStep_223 : decode cX12_laysStep 223 = .ok (.aload_n 0, 1) := by decide +kernel
theorem dX12_laysStep_224 : decode cX12_laysStep 224 = .ok (.getfield 256, 3) := by decide +kernel
theorem dX12_laysStep_227 : decode cX12_laysStep 227 = .ok (.lastore, 1) := by decide +kernel
theorem dX12_laysStep_228 : decode cX12_laysStep 228 = .ok (.aload_n 0, 1) := by decide +kernel
theorem dX12_laysStep_229 : decode cX12_laysStep 229 = .ok (.getfield 91, 3) := by decide +kernel
theorem dX12_laysStep_232 : decode cX12_laysStep 232 = .ok (.iload_n 1, 1) := by decide +kernel
theorem dX12_laysStep_233 : decode cX12_laysStep 233 = .ok (.aload_n 0, 1) := by decide +kernel
theorem dX12_laysStep_234 : decode cX12_laysStep 234 = .ok (.getfield 260, 3) := by decide +kernel
theorem dX12_laysStep_237 : decode cX12_laysStep 237 = .ok (.lastore, 1) := by decide +kernel
theorem dX12_laysStep_238 : decode cX12_laysStep 238 = .ok (.return_, 1) := by decide +kernel
set_option maxRecDepth 20000 in
theorem ggX12_goesDown_X12_multiplies : GoodIn wsX12_goesDown wsX12_multiplies := goodIn_r _ [13, 14, 15, 16, 12, 17, 4, 18, 19, 20, 21, 1, 2, 30, 31, 32, 33, 34, 35, 36, 37, 38, 39, 40, 41, 42, 43, 44, 45, 46, 47, 48, 49, 50, 51, 52, 53, 54, 55, 56, 57, 58, 59, 60, 61, 62, 63, 64, 65, 66, 67] (by decide +kernel) (by decide +kernel)
set_option maxRecDepth 20000 in
theorem gX12_goesDown_X12_multiplies : GoodIn wsX12_goesDown (wsV RX12 286 RX12 yX12_multiplies wsX12_multiplies) := goodIn_app (goodIn_of _ (by decide +kernel)) ggX12_goesDown_X12_multiplies
set_option maxRecDepth 20000 in
theorem ggX12_goesDown_X12_adds : GoodIn wsX12_goesDown wsX12_adds := goodIn_r _ [25, 14, 15, 16, 12, 17, 4, 26, 27, 28, 29, 18, 19, 20, 21, 1, 2, 30, 31, 32, 33, 34, 35, 36, 37, 38, 39, 40, 41, 42, 43, 44, 45, 46, 47, 48, 49, 50, 51, 52, 53, 54, 55, 56, 57, 58, 59, 60, 61, 62, 63, 64, 65, 66, 67] (by decide +kernel) (by decide +kernel)
set_option maxRecDepth 20000 in
theorem gX12_goesDown_X12_adds : GoodIn wsX12_goesDown (wsV RX12 296 RX12 yX12_adds wsX12_adds) := goodIn_app (goodIn_of _ (by decide +kernel)) ggX12_goesDown_X12_adds
theorem dX12_goesDown_0 : decode cX12_goesDown 0 = .ok (.aload_n 0, 1) := by decide +kernel
theorem dX12_goesDown_1 : decode cX12_goesDown 1 = .ok (.lload_n 2, 1) := by decide +kernel
theorem dX12_goesDown_2 : decode cX12_goesDown 2 = .ok (.putfield 256, 3) := by decide +kernel
theorem dX12_goesDown_5 : decode cX12_goesDown 5 = .ok (.aload_n 0, 1) := by decide +kernel
theorem dX12_goesDown_6 : decode cX12_goesDown 6 = .ok (.lconst 1, 1) := by decide +kernel
theorem dX12_goesDown_7 : decode cX12_goesDown 7 = .ok (.putfield 260, 3) := by decide +kernel
theorem dX12_goesDown_10 : decode cX12_goesDown 10 = .ok (.aload_n 0, 1) := by decide +kernel
theorem dX12_goesDown_11 : decode cX12_goesDown 11 = .ok (.getfield 19, 3) := by decide +kernel
theorem dX12_goesDown_14 : decode cX12_goesDown 14 = .ok (.iconst 1, 1) := by decide +kernel
theorem dX12_goesDown_15 : decode cX12_goesDown 15 = .ok (.isub, 1) := by decide +kernel
theorem dX12_goesDown_16 : decode cX12_goesDown 16 = .ok (.istore 4, 2) := by decide +kernel
theorem dX12_goesDown_18 : decode cX12_goesDown 18 = .ok (.iload 4, 2) := by decide +kernel
theorem dX12_goesDown_20 : decode cX12_goesDown 20 = .ok (.iload_n 1, 1) := by decide +kernel
theorem dX12_goesDown_21 : decode cX12_goesDown 21 = .ok (.if_icmp .lt 68, 3) := by decide +kernel
theorem dX12_goesDown_24 : decode cX12_goesDown 24 = .ok (.aload_n 0, 1) := by decide +kernel
theorem dX12_goesDown_25 : decode cX12_goesDown 25 = .ok (.getfield 252, 3) := by decide +kernel
theorem dX12_goesDown_28 : decode cX12_goesDown 28 = .ok (.ifCond .ne 61, 3) := by decide +kernel
theorem dX12_goesDown_31 : decode cX12_goesDown 31 = .ok (.aload_n 0, 1) := by decide +kernel
theorem dX12_goesDown_32 : decode cX12_goesDown 32 = .ok (.aload_n 0, 1) := by decide +kernel
theorem dX12_goesDown_33 : decode cX12_goesDown 33 = .ok (.getfield 82, 3) := by decide +kernel
theorem dX12_goesDown_36 : decode cX12_goesDown 36 = .ok (.iload 4, 2) := by decide +kernel
theorem dX12_goesDown_38 : decode cX12_goesDown 38 = .ok (.laload, 1) := by decide +kernel
theorem dX12_goesDown_39 : decode cX12_goesDown 39 = .ok (.aload_n 0, 1) := by decide +kernel
theorem dX12_goesDown_40 : decode cX12_goesDown 40 = .ok (.getfield 85, 3) := by decide +kernel
theorem dX12_goesDown_43 : decode cX12_goesDown 43 = .ok (.iload 4, 2) := by decide +kernel
theorem dX12_goesDown_45 : decode cX12_goesDown 45 = .ok (.laload, 1) := by decide +kernel
theorem dX12_goesDown_46 : decode cX12_goesDown 46 = .ok (.aload_n 0, 1) := by decide +kernel
theorem dX12_goesDown_47 : decode cX12_goesDown 47 = .ok (.getfield 256, 3) := by decide +kernel
theorem dX12_goesDown_50 : decode cX12_goesDown 50 = .ok (.aload_n 0, 1) := by decide +kernel
