theorem dX11_polls_113 : decode cX11_polls 113 = .ok (.iconst 0, 1) := by decide +kernel
theorem dX11_polls_114 : decode cX11_polls 114 = .ok (.iadd, 1) := by decide +kernel
theorem dX11_polls_115 : decode cX11_polls 115 = .ok (.istore_n 3, 1) := by decide +kernel
theorem dX11_polls_116 : decode cX11_polls 116 = .ok (.iinc 4 1, 3) := by decide +kernel
theorem dX11_polls_119 : decode cX11_polls 119 = .ok (.goto (-92), 3) := by decide +kernel
theorem dX11_polls_122 : decode cX11_polls 122 = .ok (.iload_n 3, 1) := by decide +kernel
theorem dX11_polls_123 : decode cX11_polls 123 = .ok (.ireturn, 1) := by decide +kernel
theorem dX11_of_0 : decode cX11_of 0 = .ok (.aload_n 0, 1) := by decide +kernel
theorem dX11_of_1 : decode cX11_of 1 = .ok (.getfield 26, 3) := by decide +kernel
theorem dX11_of_4 : decode cX11_of 4 = .ok (.iload_n 1, 1) := by decide +kernel
theorem dX11_of_5 : decode cX11_of 5 = .ok (.invokevirtual 316, 3) := by decide +kernel
theorem dX11_of_8 : decode cX11_of 8 = .ok (.ifCond .ne 6, 3) := by decide +kernel
theorem dX11_of_11 : decode cX11_of 11 = .ok (.bipush (-2), 2) := by decide +kernel
theorem dX11_of_13 : decode cX11_of 13 = .ok (.ireturn, 1) := by decide +kernel
theorem dX11_of_14 : decode cX11_of 14 = .ok (.iload_n 2, 1) := by decide +kernel
theorem dX11_of_15 : decode cX11_of 15 = .ok (.tableswitch 125 0 7 #[45, 55, 65, 75, 85, 95, 105, 115], 45) := by decide +kernel
theorem dX11_of_60 : decode cX11_of 60 = .ok (.aload_n 0, 1) := by decide +kernel
theorem dX11_of_61 : decode cX11_of 61 = .ok (.getfield 26, 3) := by decide +kernel
theorem dX11_of_64 : decode cX11_of 64 = .ok (.getfield 319, 3) := by decide +kernel
theorem dX11_of_67 : decode cX11_of 67 = .ok (.iload_n 1, 1) := by decide +kernel
theorem dX11_of_68 : decode cX11_of 68 = .ok (.iaload, 1) := by decide +kernel
theorem dX11_of_69 : decode cX11_of 69 = .ok (.ireturn, 1) := by decide +kernel
theorem dX11_of_70 : decode cX11_of 70 = .ok (.aload_n 0, 1) := by decide +kernel
theorem dX11_of_71 : decode cX11_of 71 = .ok (.getfield 26, 3) := by decide +kernel
theorem dX11_of_74 : decode cX11_of 74 = .ok (.getfield 322, 3) := by decide +kernel
theorem dX11_of_77 : decode cX11_of 77 = .ok (.iload_n 1, 1) := by decide +kernel
theorem dX11_of_78 : decode cX11_of 78 = .ok (.iaload, 1) := by decide +kernel
theorem dX11_of_79 : decode cX11_of 79 = .ok (.ireturn, 1) := by decide +kernel
theorem dX11_of_80 : decode cX11_of 80 = .ok (.aload_n 0, 1) := by decide +kernel
theorem dX11_of_81 : decode cX11_of 81 = .ok (.getfield 26, 3) := by decide +kernel
theorem dX11_of_84 : decode cX11_of 84 = .ok (.getfield 325, 3) := by decide +kernel
theorem dX11_of_87 : decode cX11_of 87 = .ok (.iload_n 1, 1) := by decide +kernel
theorem dX11_of_88 : decode cX11_of 88 = .ok (.iaload, 1) := by decide +kernel
theorem dX11_of_89 : decode cX11_of 89 = .ok (.ireturn, 1) := by decide +kernel
theorem dX11_of_90 : decode cX11_of 90 = .ok (.aload_n 0, 1) := by decide +kernel
theorem dX11_of_91 : decode cX11_of 91 = .ok (.getfield 26, 3) := by decide +kernel
theorem dX11_of_94 : decode cX11_of 94 = .ok (.getfield 328, 3) := by decide +kernel
theorem dX11_of_97 : decode cX11_of 97 = .ok (.iload_n 1, 1) := by decide +kernel
theorem dX11_of_98 : decode cX11_of 98 = .ok (.iaload, 1) := by decide +kernel
theorem dX11_of_99 : decode cX11_of 99 = .ok (.ireturn, 1) := by decide +kernel
theorem dX11_of_100 : decode cX11_of 100 = .ok (.aload_n 0, 1) := by decide +kernel
theorem dX11_of_101 : decode cX11_of 101 = .ok (.getfield 26, 3) := by decide +kernel
theorem dX11_of_104 : decode cX11_of 104 = .ok (.getfield 331, 3) := by decide +kernel
theorem dX11_of_107 : decode cX11_of 107 = .ok (.iload_n 1, 1) := by decide +kernel
theorem dX11_of_108 : decode cX11_of 108 = .ok (.iaload, 1) := by decide +kernel
theorem dX11_of_109 : decode cX11_of 109 = .ok (.ireturn, 1) := by decide +kernel
theorem dX11_of_110 : decode cX11_of 110 = .ok (.aload_n 0, 1) := by decide +kernel
theorem dX11_of_111 : decode cX11_of 111 = .ok (.getfield 26, 3) := by decide +kernel
theorem dX11_of_114 : decode cX11_of 114 = .ok (.getfield 334, 3) := by decide +kernel
theorem dX11_of_117 : decode cX11_of 117 = .ok (.iload_n 1, 1) := by decide +kernel
theorem dX11_of_118 : decode cX11_of 118 = .ok (.iaload, 1) := by decide +kernel
theorem dX11_of_119 : decode cX11_of 119 = .ok (.ireturn, 1) := by decide +kernel
theorem dX11_of_120 : decode cX11_of 120 = .ok (.aload_n 0, 1) := by decide +kernel
theorem dX11_of_121 : decode cX11_of 121 = .ok (.getfield 44, 3) := by decide +kernel
theorem dX11_of_124 : decode cX11_of 124 = .ok (.iload_n 1, 1) := by decide +kernel
theorem dX11_of_125 : decode cX11_of 125 = .ok (.iconst 1, 1) := by decide +kernel
theorem dX11_of_126 : decode cX11_of 126 = .ok (.invokevirtual 337, 3) := by decide +kernel
theorem dX11_of_129 : decode cX11_of 129 = .ok (.ireturn, 1) := by decide +kernel
theorem dX11_of_130 : decode cX11_of 130 = .ok (.aload_n 0, 1) := by decide +kernel
theorem dX11_of_131 : decode cX11_of 131 = .ok (.getfield 44, 3) := by decide +kernel
theorem dX11_of_134 : decode cX11_of 134 = .ok (.iload_n 1, 1) := by decide +kernel
theorem dX11_of_135 : decode cX11_of 135 = .ok (.iconst 2, 1) := by decide +kernel
theorem dX11_of_136 : decode cX11_of 136 = .ok (.invokevirtual 337, 3) := by decide +kernel
theorem dX11_of_139 : decode cX11_of 139 = .ok (.ireturn, 1) := by decide +kernel
theorem dX11_of_140 : decode cX11_of 140 = .ok (.bipush (-2), 2) := by decide +kernel
theorem dX11_of_142 : decode cX11_of 142 = .ok (.ireturn, 1) := by decide +kernel
theorem dX11_view_0 : decode cX11_view 0 = .ok (.aload_n 0, 1) := by decide +kernel
theorem dX11_view_1 : decode cX11_view 1 = .ok (.iload_n 1, 1) := by decide +kernel
theorem dX11_view_2 : decode cX11_view 2 = .ok (.invokevirtual 340, 3) := by decide +kernel
theorem dX11_view_5 : decode cX11_view 5 = .ok (.ifCond .eq 14, 3) := by decide +kernel
theorem dX11_view_8 : decode cX11_view 8 = .ok (.aload_n 0, 1) := by decide +kernel
theorem dX11_view_9 : decode cX11_view 9 = .ok (.getfield 26, 3) := by decide +kernel
theorem dX11_view_12 : decode cX11_view 12 = .ok (.iload_n 2, 1) := by decide +kernel
theorem dX11_view_13 : decode cX11_view 13 = .ok (.invokevirtual 316, 3) := by decide +kernel
theorem dX11_view_16 : decode cX11_view 16 = .ok (.ifCond .ne 11, 3) := by decide +kernel
theorem dX11_view_19 : decode cX11_view 19 = .ok (.new 343, 3) := by decide +kernel
theorem dX11_view_22 : decode cX11_view 22 = .ok (.dup, 1) := by decide +kernel
theorem dX11_view_23 : decode cX11_view 23 = .ok (.invokespecial 345, 3) := by decide +kernel
theorem dX11_view_26 : decode cX11_view 26 = .ok (.athrow, 1) := by decide +kernel
theorem dX11_view_27 : decode cX11_view 27 = .ok (.aload_n 0, 1) := by decide +kernel
theorem dX11_view_28 : decode cX11_view 28 = .ok (.getfield 19, 3) := by decide +kernel
theorem dX11_view_31 : decode cX11_view 31 = .ok (.getfield 285, 3) := by decide +kernel
theorem dX11_view_34 : decode cX11_view 34 = .ok (.iload_n 1, 1) := by decide +kernel
theorem dX11_view_35 : decode cX11_view 35 = .ok (.aaload, 1) := by decide +kernel
theorem dX11_view_36 : decode cX11_view 36 = .ok (.astore 4, 2) := by decide +kernel
theorem dX11_view_38 : decode cX11_view 38 = .ok (.iload_n 3, 1) := by decide +kernel
theorem dX11_view_39 : decode cX11_view 39 = .ok (.tableswitch 94 0 4 #[33, 43, 53, 64, 83], 33) := by decide +kernel
theorem dX11_view_72 : decode cX11_view 72 = .ok (.aload 4, 2) := by decide +kernel
theorem dX11_view_74 : decode cX11_view 74 = .ok (.getfield 346, 3) := by decide +kernel
theorem dX11_view_77 : decode cX11_view 77 = .ok (.iload_n 2, 1) := by decide +kernel
theorem dX11_view_78 : decode cX11_view 78 = .ok (.ishr, 1) := by decide +kernel
theorem dX11_view_79 : decode cX11_view 79 = .ok (.iconst 1, 1) := by decide +kernel
theorem dX11_view_80 : decode cX11_view 80 = .ok (.iand, 1) := by decide +kernel
theorem dX11_view_81 : decode cX11_view 81 = .ok (.ireturn, 1) := by decide +kernel
theorem dX11_view_82 : decode cX11_view 82 = .ok (.aload 4, 2) := by decide +kernel
theorem dX11_view_84 : decode cX11_view 84 = .ok (.getfield 349, 3) := by decide +kernel
theorem dX11_view_87 : decode cX11_view 87 = .ok (.iload_n 2, 1) := by decide +kernel
theorem dX11_view_88 : decode cX11_view 88 = .ok (.ishr, 1) := by decide +kernel
theorem dX11_view_89 : decode cX11_view 89 = .ok (.iconst 1, 1) := by decide +kernel
theorem dX11_view_90 : decode cX11_view 90 = .ok (.iand, 1) := by decide +kernel
theorem dX11_view_91 : decode cX11_view 91 = .ok (.ireturn, 1) := by decide +kernel
theorem dX11_view_92 : decode cX11_view 92 = .ok (.aload_n 0, 1) := by decide +kernel
theorem dX11_view_93 : decode cX11_view 93 = .ok (.getfield 44, 3) := by decide +kernel
theorem dX11_view_96 : decode cX11_view 96 = .ok (.aload 4, 2) := by decide +kernel
theorem dX11_view_98 : decode cX11_view 98 = .ok (.iload_n 2, 1) := by decide +kernel
theorem dX11_view_99 : decode cX11_view 99 = .ok (.invokevirtual 352, 3) := by decide +kernel
theorem dX11_view_102 : decode cX11_view 102 = .ok (.ireturn, 1) := by decide +kernel
theorem dX11_view_103 : decode cX11_view 103 = .ok (.aload_n 0, 1) := by decide +kernel
theorem dX11_view_104 : decode cX11_view 104 = .ok (.getfield 44, 3) := by decide +kernel
theorem dX11_view_107 : decode cX11_view 107 = .ok (.aload 4, 2) := by decide +kernel
theorem dX11_view_109 : decode cX11_view 109 = .ok (.iload_n 2, 1) := by decide +kernel
theorem dX11_view_110 : decode cX11_view 110 = .ok (.invokevirtual 356, 3) := by decide +kernel
theorem dX11_view_113 : decode cX11_view 113 = .ok (.ifCond .eq 7, 3) := by decide +kernel
theorem dX11_view_116 : decode cX11_view 116 = .ok (.iconst 1, 1) := by decide +kernel
theorem dX11_view_117 : decode cX11_view 117 = .ok (.goto 4, 3) := by decide +kernel
theorem dX11_view_120 : decode cX11_view 120 = .ok (.iconst 0, 1) := by decide +kernel
theorem dX11_view_121 : decode cX11_view 121 = .ok (.ireturn, 1) := by decide +kernel
theorem dX11_view_122 : decode cX11_view 122 = .ok (.aload_n 0, 1) := by decide +kernel
theorem dX11_view_123 : decode cX11_view 123 = .ok (.getfield 44, 3) := by decide +kernel
theorem dX11_view_126 : decode cX11_view 126 = .ok (.aload 4, 2) := by decide +kernel
theorem dX11_view_128 : decode cX11_view 128 = .ok (.iload_n 2, 1) := by decide +kernel
theorem dX11_view_129 : decode cX11_view 129 = .ok (.invokevirtual 360, 3) := by decide +kernel
theorem dX11_view_132 : decode cX11_view 132 = .ok (.ireturn, 1) := by decide +kernel
theorem dX11_view_133 : decode cX11_view 133 = .ok (.new 343, 3) := by decide +kernel
theorem dX11_view_136 : decode cX11_view 136 = .ok (.dup, 1) := by decide +kernel
theorem dX11_view_137 : decode cX11_view 137 = .ok (.invokespecial 345, 3) := by decide +kernel
theorem dX11_view_140 : decode cX11_view 140 = .ok (.athrow, 1) := by decide +kernel
theorem dX11_set_0 : decode cX11_set 0 = .ok (.aload_n 0, 1) := by decide +kernel
theorem dX11_set_1 : decode cX11_set 1 = .ok (.iload_n 1, 1) := by decide +kernel
theorem dX11_set_2 : decode cX11_set 2 = .ok (.invokevirtual 340, 3) := by decide +kernel
theorem dX11_set_5 : decode cX11_set 5 = .ok (.ifCond .eq 22, 3) := by decide +kernel
theorem dX11_set_8 : decode cX11_set 8 = .ok (.iload_n 2, 1) := by decide +kernel
theorem dX11_set_9 : decode cX11_set 9 = .ok (.ifCond .lt 18, 3) := by decide +kernel
theorem dX11_set_12 : decode cX11_set 12 = .ok (.iload_n 2, 1) := by decide +kernel
theorem dX11_set_13 : decode cX11_set 13 = .ok (.bipush 8, 2) := by decide +kernel
theorem dX11_set_15 : decode cX11_set 15 = .ok (.if_icmp .ge 12, 3) := by decide +kernel
theorem dX11_set_18 : decode cX11_set 18 = .ok (.iload_n 3, 1) := by decide +kernel
theorem dX11_set_19 : decode cX11_set 19 = .ok (.ifCond .lt 8, 3) := by decide +kernel
theorem dX11_set_22 : decode cX11_set 22 = .ok (.iload_n 3, 1) := by decide +kernel
theorem dX11_set_23 : decode cX11_set 23 = .ok (.iconst 3, 1) := by decide +kernel
theorem dX11_set_24 : decode cX11_set 24 = .ok (.if_icmp .le 11, 3) := by decide +kernel
theorem dX11_set_27 : decode cX11_set 27 = .ok (.new 343, 3) := by decide +kernel
theorem dX11_set_30 : decode cX11_set 30 = .ok (.dup, 1) := by decide +kernel
theorem dX11_set_31 : decode cX11_set 31 = .ok (.invokespecial 345, 3) := by decide +kernel
theorem dX11_set_34 : decode cX11_set 34 = .ok (.athrow, 1) := by decide +kernel
theorem dX11_set_35 : decode cX11_set 35 = .ok (.aload_n 0, 1) := by decide +kernel
theorem dX11_set_36 : decode cX11_set 36 = .ok (.getfield 19, 3) := by decide +kernel
theorem dX11_set_39 : decode cX11_set 39 = .ok (.getfield 285, 3) := by decide +kernel
theorem dX11_set_42 : decode cX11_set 42 = .ok (.iload_n 1, 1) := by decide +kernel
theorem dX11_set_43 : decode cX11_set 43 = .ok (.aaload, 1) := by decide +kernel
theorem dX11_set_44 : decode cX11_set 44 = .ok (.iload_n 2, 1) := by decide +kernel
theorem dX11_set_45 : decode cX11_set 45 = .ok (.iload_n 3, 1) := by decide +kernel
theorem dX11_set_46 : decode cX11_set 46 = .ok (.invokevirtual 363, 3) := by decide +kernel
theorem dX11_set_49 : decode cX11_set 49 = .ok (.ireturn, 1) := by decide +kernel
theorem dX11_alike_0 : decode cX11_alike 0 = .ok (.aload_n 0, 1) := by decide +kernel
theorem dX11_alike_1 : decode cX11_alike 1 = .ok (.iload_n 1, 1) := by decide +kernel
theorem dX11_alike_2 : decode cX11_alike 2 = .ok (.invokevirtual 340, 3) := by decide +kernel
theorem dX11_alike_5 : decode cX11_alike 5 = .ok (.ifCond .eq 11, 3) := by decide +kernel
theorem dX11_alike_8 : decode cX11_alike 8 = .ok (.aload_n 0, 1) := by decide +kernel
theorem dX11_alike_9 : decode cX11_alike 9 = .ok (.iload_n 2, 1) := by decide +kernel
theorem dX11_alike_10 : decode cX11_alike 10 = .ok (.invokevirtual 340, 3) := by decide +kernel
theorem dX11_alike_13 : decode cX11_alike 13 = .ok (.ifCond .ne 5, 3) := by decide +kernel
theorem dX11_alike_16 : decode cX11_alike 16 = .ok (.iconst (-1), 1) := by decide +kernel
theorem dX11_alike_17 : decode cX11_alike 17 = .ok (.ireturn, 1) := by decide +kernel
theorem dX11_alike_18 : decode cX11_alike 18 = .ok (.iconst 0, 1) := by decide +kernel
theorem dX11_alike_19 : decode cX11_alike 19 = .ok (.istore_n 3, 1) := by decide +kernel
theorem dX11_alike_20 : decode cX11_alike 20 = .ok (.iconst 0, 1) := by decide +kernel
theorem dX11_alike_21 : decode cX11_alike 21 = .ok (.istore 4, 2) := by decide +kernel
theorem dX11_alike_23 : decode cX11_alike 23 = .ok (.iload 4, 2) := by decide +kernel
theorem dX11_alike_25 : decode cX11_alike 25 = .ok (.aload_n 0, 1) := by decide +kernel
theorem dX11_alike_26 : decode cX11_alike 26 = .ok (.getfield 26, 3) := by decide +kernel
theorem dX11_alike_29 : decode cX11_alike 29 = .ok (.getfield 275, 3) := by decide +kernel
theorem dX11_alike_32 : decode cX11_alike 32 = .ok (.if_icmp .ge 51, 3) := by decide +kernel
theorem dX11_alike_35 : decode cX11_alike 35 = .ok (.aload_n 0, 1) := by decide +kernel
theorem dX11_alike_36 : decode cX11_alike 36 = .ok (.getfield 44, 3) := by decide +kernel
theorem dX11_alike_39 : decode cX11_alike 39 = .ok (.aload_n 0, 1) := by decide +kernel
theorem dX11_alike_40 : decode cX11_alike 40 = .ok (.getfield 19, 3) := by decide +kernel
theorem dX11_alike_43 : decode cX11_alike 43 = .ok (.getfield 285, 3) := by decide +kernel
theorem dX11_alike_46 : decode cX11_alike 46 = .ok (.iload_n 1, 1) := by decide +kernel
theorem dX11_alike_47 : decode cX11_alike 47 = .ok (.aaload, 1) := by decide +kernel
theorem dX11_alike_48 : decode cX11_alike 48 = .ok (.iload 4, 2) := by decide +kernel
theorem dX11_alike_50 : decode cX11_alike 50 = .ok (.invokevirtual 360, 3) := by decide +kernel
theorem dX11_alike_53 : decode cX11_alike 53 = .ok (.aload_n 0, 1) := by decide +kernel
theorem dX11_alike_54 : decode cX11_alike 54 = .ok (.getfield 44, 3) := by decide +kernel
theorem dX11_alike_57 : decode cX11_alike 57 = .ok (.aload_n 0, 1) := by decide +kernel
theorem dX11_alike_58 : decode cX11_alike 58 = .ok (.getfield 19, 3) := by decide +kernel
theorem dX11_alike_61 : decode cX11_alike 61 = .ok (.getfield 285, 3) := by decide +kernel
theorem dX11_alike_64 : decode cX11_alike 64 = .ok (.iload_n 2, 1) := by decide +kernel
theorem dX11_alike_65 : decode cX11_alike 65 = .ok (.aaload, 1) := by decide +kernel
theorem dX11_alike_66 : decode cX11_alike 66 = .ok (.iload 4, 2) := by decide +kernel
theorem dX11_alike_68 : decode cX11_alike 68 = .ok (.invokevirtual 360, 3) := by decide +kernel
theorem dX11_alike_71 : decode cX11_alike 71 = .ok (.if_icmp .ne 6, 3) := by decide +kernel
theorem dX11_alike_74 : decode cX11_alike 74 = .ok (.iinc 3 1, 3) := by decide +kernel
theorem dX11_alike_77 : decode cX11_alike 77 = .ok (.iinc 4 1, 3) := by decide +kernel
theorem dX11_alike_80 : decode cX11_alike 80 = .ok (.goto (-57), 3) := by decide +kernel
theorem dX11_alike_83 : decode cX11_alike 83 = .ok (.iload_n 3, 1) := by decide +kernel
theorem dX11_alike_84 : decode cX11_alike 84 = .ok (.ireturn, 1) := by decide +kernel
theorem dX11_back_0 : decode cX11_back 0 = .ok (.aload_n 0, 1) := by decide +kernel
theorem dX11_back_1 : decode cX11_back 1 = .ok (.getfield 114, 3) := by decide +kernel
theorem dX11_back_4 : decode cX11_back 4 = .ok (.ifCond .ne 5, 3) := by decide +kernel
theorem dX11_back_7 : decode cX11_back 7 = .ok (.iconst 0, 1) := by decide +kernel
theorem dX11_back_8 : decode cX11_back 8 = .ok (.ireturn, 1) := by decide +kernel
theorem dX11_back_9 : decode cX11_back 9 = .ok (.aload_n 0, 1) := by decide +kernel
theorem dX11_back_10 : decode cX11_back 10 = .ok (.dup, 1) := by decide +kernel
theorem dX11_back_11 : decode cX11_back 11 = .ok (.getfield 114, 3) := by decide +kernel
theorem dX11_back_14 : decode cX11_back 14 = .ok (.iconst 1, 1) := by decide +kernel
theorem dX11_back_15 : decode cX11_back 15 = .ok (.isub, 1) := by decide +kernel
theorem dX11_back_16 : decode cX11_back 16 = .ok (.putfield 114, 3) := by decide +kernel
theorem dX11_back_19 : decode cX11_back 19 = .ok (.aload_n 0, 1) := by decide +kernel
theorem dX11_back_20 : decode cX11_back 20 = .ok (.aload_n 0, 1) := by decide +kernel
theorem dX11_back_21 : decode cX11_back 21 = .ok (.getfield 366, 3) := by decide +kernel
theorem dX11_back_24 : decode cX11_back 24 = .ok (.bipush 8, 2) := by decide +kernel
theorem dX11_back_26 : decode cX11_back 26 = .ok (.iadd, 1) := by decide +kernel
theorem dX11_back_27 : decode cX11_back 27 = .ok (.iconst 1, 1) := by decide +kernel
theorem dX11_back_28 : decode cX11_back 28 = .ok (.isub, 1) := by decide +kernel
theorem dX11_back_29 : decode cX11_back 29 = .ok (.bipush 8, 2) := by decide +kernel
theorem dX11_back_31 : decode cX11_back 31 = .ok (.irem, 1) := by decide +kernel
theorem dX11_back_32 : decode cX11_back 32 = .ok (.putfield 366, 3) := by decide +kernel
theorem dX11_back_35 : decode cX11_back 35 = .ok (.aload_n 0, 1) := by decide +kernel
theorem dX11_back_36 : decode cX11_back 36 = .ok (.getfield 19, 3) := by decide +kernel
theorem dX11_back_39 : decode cX11_back 39 = .ok (.aload_n 0, 1) := by decide +kernel
theorem dX11_back_40 : decode cX11_back 40 = .ok (.getfield 73, 3) := by decide +kernel
theorem dX11_back_43 : decode cX11_back 43 = .ok (.aload_n 0, 1) := by decide +kernel
theorem dX11_back_44 : decode cX11_back 44 = .ok (.getfield 366, 3) := by decide +kernel
theorem dX11_back_47 : decode cX11_back 47 = .ok (.aaload, 1) := by decide +kernel
theorem dX11_back_48 : decode cX11_back 48 = .ok (.invokevirtual 369, 3) := by decide +kernel
theorem dX11_back_51 : decode cX11_back 51 = .ok (.aload_n 0, 1) := by decide +kernel
theorem dX11_back_52 : decode cX11_back 52 = .ok (.dup, 1) := by decide +kernel
theorem dX11_back_53 : decode cX11_back 53 = .ok (.getfield 84, 3) := by decide +kernel
theorem dX11_back_56 : decode cX11_back 56 = .ok (.iconst 1, 1) := by decide +kernel
theorem dX11_back_57 : decode cX11_back 57 = .ok (.iadd, 1) := by decide +kernel
theorem dX11_back_58 : decode cX11_back 58 = .ok (.putfield 84, 3) := by decide +kernel
theorem dX11_back_61 : decode cX11_back 61 = .ok (.iconst 1, 1) := by decide +kernel
theorem dX11_back_62 : decode cX11_back 62 = .ok (.ireturn, 1) := by decide +kernel
theorem dX11_count_0 : decode cX11_count 0 = .ok (.iload_n 1, 1) := by decide +kernel
theorem dX11_count_1 : decode cX11_count 1 = .ok (.tableswitch 255 0 16 #[83, 91, 99, 107, 115, 123, 131, 146, 161, 177, 185, 193, 201, 206, 211, 235, 250], 83) := by decide +kernel
theorem dX11_count_84 : decode cX11_count 84 = .ok (.aload_n 0, 1) := by decide +kernel
theorem dX11_count_85 : decode cX11_count 85 = .ok (.getfield 10, 3) := by decide +kernel
theorem dX11_count_88 : decode cX11_count 88 = .ok (.getfield 176, 3) := by decide +kernel
theorem dX11_count_91 : decode cX11_count 91 = .ok (.ireturn, 1) := by decide +kernel
theorem dX11_count_92 : decode cX11_count 92 = .ok (.aload_n 0, 1) := by decide +kernel
theorem dX11_count_93 : decode cX11_count 93 = .ok (.getfield 10, 3) := by decide +kernel
theorem dX11_count_96 : decode cX11_count 96 = .ok (.getfield 373, 3) := by decide +kernel
theorem dX11_count_99 : decode cX11_count 99 = .ok (.ireturn, 1) := by decide +kernel
theorem dX11_count_100 : decode cX11_count 100 = .ok (.aload_n 0, 1) := by decide +kernel
theorem dX11_count_101 : decode cX11_count 101 = .ok (.getfield 10, 3) := by decide +kernel
theorem dX11_count_104 : decode cX11_count 104 = .ok (.getfield 376, 3) := by decide +kernel
theorem dX11_count_107 : decode cX11_count 107 = .ok (.ireturn, 1) := by decide +kernel
theorem dX11_count_108 : decode cX11_count 108 = .ok (.aload_n 0, 1) := by decide +kernel
theorem dX11_count_109 : decode cX11_count 109 = .ok (.getfield 10, 3) := by decide +kernel
theorem dX11_count_112 : decode cX11_count 112 = .ok (.getfield 120, 3) := by decide +kernel
theorem dX11_count_115 : decode cX11_count 115 = .ok (.ireturn, 1) := by decide +kernel
theorem dX11_count_116 : decode cX11_count 116 = .ok (.aload_n 0, 1) := by decide +kernel
theorem dX11_count_117 : decode cX11_count 117 = .ok (.getfield 10, 3) := by decide +kernel
theorem dX11_count_120 : decode cX11_count 120 = .ok (.getfield 123, 3) := by decide +kernel
theorem dX11_count_123 : decode cX11_count 123 = .ok (.ireturn, 1) := by decide +kernel
theorem dX11_count_124 : decode cX11_count 124 = .ok (.aload_n 0, 1) := by decide +kernel
theorem dX11_count_125 : decode cX11_count 125 = .ok (.getfield 10, 3) := by decide +kernel
theorem dX11_count_128 : decode cX11_count 128 = .ok (.getfield 117, 3) := by decide +kernel
theorem dX11_count_131 : decode cX11_count 131 = .ok (.ireturn, 1) := by decide +kernel
theorem dX11_count_132 : decode cX11_count 132 = .ok (.aload_n 0, 1) := by decide +kernel
theorem dX11_count_133 : decode cX11_count 133 = .ok (.getfield 19, 3) := by decide +kernel
theorem dX11_count_136 : decode cX11_count 136 = .ok (.aload_n 0, 1) := by decide +kernel
theorem dX11_count_137 : decode cX11_count 137 = .ok (.getfield 10, 3) := by decide +kernel
theorem dX11_count_140 : decode cX11_count 140 = .ok (.getfield 176, 3) := by decide +kernel
theorem dX11_count_143 : decode cX11_count 143 = .ok (.invokevirtual 379, 3) := by decide +kernel
theorem dX11_count_146 : decode cX11_count 146 = .ok (.ireturn, 1) := by decide +kernel
theorem dX11_count_147 : decode cX11_count 147 = .ok (.aload_n 0, 1) := by decide +kernel
theorem dX11_count_148 : decode cX11_count 148 = .ok (.getfield 19, 3) := by decide +kernel
theorem dX11_count_151 : decode cX11_count 151 = .ok (.aload_n 0, 1) := by decide +kernel
theorem dX11_count_152 : decode cX11_count 152 = .ok (.getfield 10, 3) := by decide +kernel
theorem dX11_count_155 : decode cX11_count 155 = .ok (.getfield 176, 3) := by decide +kernel
theorem dX11_count_158 : decode cX11_count 158 = .ok (.invokevirtual 382, 3) := by decide +kernel
theorem dX11_count_161 : decode cX11_count 161 = .ok (.ireturn, 1) := by decide +kernel
theorem dX11_count_162 : decode cX11_count 162 = .ok (.aload_n 0, 1) := by decide +kernel
theorem dX11_count_163 : decode cX11_count 163 = .ok (.getfield 35, 3) := by decide +kernel
theorem dX11_count_166 : decode cX11_count 166 = .ok (.aload_n 0, 1) := by decide +kernel
theorem dX11_count_167 : decode cX11_count 167 = .ok (.getfield 19, 3) := by decide +kernel
theorem dX11_count_170 : decode cX11_count 170 = .ok (.getfield 143, 3) := by decide +kernel
theorem dX11_count_173 : decode cX11_count 173 = .ok (.iconst 0, 1) := by decide +kernel
theorem dX11_count_174 : decode cX11_count 174 = .ok (.invokevirtual 385, 3) := by decide +kernel
theorem dX11_count_177 : decode cX11_count 177 = .ok (.ireturn, 1) := by decide +kernel
theorem dX11_count_178 : decode cX11_count 178 = .ok (.aload_n 0, 1) := by decide +kernel
theorem dX11_count_179 : decode cX11_count 179 = .ok (.getfield 26, 3) := by decide +kernel
theorem dX11_count_182 : decode cX11_count 182 = .ok (.getfield 275, 3) := by decide +kernel
theorem dX11_count_185 : decode cX11_count 185 = .ok (.ireturn, 1) := by decide +kernel
theorem dX11_count_186 : decode cX11_count 186 = .ok (.aload_n 0, 1) := by decide +kernel
theorem dX11_count_187 : decode cX11_count 187 = .ok (.getfield 44, 3) := by decide +kernel
theorem dX11_count_190 : decode cX11_count 190 = .ok (.invokevirtual 389, 3) := by decide +kernel
theorem dX11_count_193 : decode cX11_count 193 = .ok (.ireturn, 1) := by decide +kernel
theorem dX11_count_194 : decode cX11_count 194 = .ok (.aload_n 0, 1) := by decide +kernel
theorem dX11_count_195 : decode cX11_count 195 = .ok (.getfield 26, 3) := by decide +kernel
theorem dX11_count_198 : decode cX11_count 198 = .ok (.invokevirtual 393, 3) := by decide +kernel
theorem dX11_count_201 : decode cX11_count 201 = .ok (.ireturn, 1) := by decide +kernel
theorem dX11_count_202 : decode cX11_count 202 = .ok (.aload_n 0, 1) := by decide +kernel
theorem dX11_count_203 : decode cX11_count 203 = .ok (.invokevirtual 396, 3) := by decide +kernel
theorem dX11_count_206 : decode cX11_count 206 = .ok (.ireturn, 1) := by decide +kernel
theorem dX11_count_207 : decode cX11_count 207 = .ok (.aload_n 0, 1) := by decide +kernel
theorem dX11_count_208 : decode cX11_count 208 = .ok (.getfield 111, 3) := by decide +kernel
theorem dX11_count_211 : decode cX11_count 211 = .ok (.ireturn, 1) := by decide +kernel
theorem dX11_count_212 : decode cX11_count 212 = .ok (.aload_n 0, 1) := by decide +kernel
theorem dX11_count_213 : decode cX11_count 213 = .ok (.getfield 35, 3) := by decide +kernel
theorem dX11_count_216 : decode cX11_count 216 = .ok (.aload_n 0, 1) := by decide +kernel
theorem dX11_count_217 : decode cX11_count 217 = .ok (.getfield 19, 3) := by decide +kernel
theorem dX11_count_220 : decode cX11_count 220 = .ok (.getfield 143, 3) := by decide +kernel
theorem dX11_count_223 : decode cX11_count 223 = .ok (.iconst 0, 1) := by decide +kernel
theorem dX11_count_224 : decode cX11_count 224 = .ok (.invokevirtual 399, 3) := by decide +kernel
theorem dX11_count_227 : decode cX11_count 227 = .ok (.ifCond .eq 7, 3) := by decide +kernel
theorem dX11_count_230 : decode cX11_count 230 = .ok (.iconst 1, 1) := by decide +kernel
theorem dX11_count_231 : decode cX11_count 231 = .ok (.goto 4, 3) := by decide +kernel
theorem dX11_count_234 : decode cX11_count 234 = .ok (.iconst 0, 1) := by decide +kernel
theorem dX11_count_235 : decode cX11_count 235 = .ok (.ireturn, 1) := by decide +kernel
theorem dX11_count_236 : decode cX11_count 236 = .ok (.aload_n 0, 1) := by decide +kernel
theorem dX11_count_237 : decode cX11_count 237 = .ok (.getfield 19, 3) := by decide +kernel
theorem dX11_count_240 : decode cX11_count 240 = .ok (.aload_n 0, 1) := by decide +kernel
theorem dX11_count_241 : decode cX11_count 241 = .ok (.getfield 10, 3) := by decide +kernel
theorem dX11_count_244 : decode cX11_count 244 = .ok (.getfield 176, 3) := by decide +kernel
theorem dX11_count_247 : decode cX11_count 247 = .ok (.invokevirtual 403, 3) := by decide +kernel
theorem dX11_count_250 : decode cX11_count 250 = .ok (.ireturn, 1) := by decide +kernel
theorem dX11_count_251 : decode cX11_count 251 = .ok (.aload_n 0, 1) := by decide +kernel
theorem dX11_count_252 : decode cX11_count 252 = .ok (.getfield 114, 3) := by decide +kernel
theorem dX11_count_255 : decode cX11_count 255 = .ok (.ireturn, 1) := by decide +kernel
theorem dX11_count_256 : decode cX11_count 256 = .ok (.iconst (-1), 1) := by decide +kernel
theorem dX11_count_257 : decode cX11_count 257 = .ok (.ireturn, 1) := by decide +kernel
theorem dX11_keep_0 : decode cX11_keep 0 = .ok (.aload_n 0, 1) := by decide +kernel
theorem dX11_keep_1 : decode cX11_keep 1 = .ok (.getfield 73, 3) := by decide +kernel
theorem dX11_keep_4 : decode cX11_keep 4 = .ok (.aload_n 0, 1) := by decide +kernel
theorem dX11_keep_5 : decode cX11_keep 5 = .ok (.getfield 366, 3) := by decide +kernel
theorem dX11_keep_8 : decode cX11_keep 8 = .ok (.aaload, 1) := by decide +kernel
theorem dX11_keep_9 : decode cX11_keep 9 = .ok (.aload_n 0, 1) := by decide +kernel
theorem dX11_keep_10 : decode cX11_keep 10 = .ok (.getfield 19, 3) := by decide +kernel
theorem dX11_keep_13 : decode cX11_keep 13 = .ok (.invokevirtual 369, 3) := by decide +kernel
theorem dX11_keep_16 : decode cX11_keep 16 = .ok (.aload_n 0, 1) := by decide +kernel
theorem dX11_keep_17 : decode cX11_keep 17 = .ok (.aload_n 0, 1) := by decide +kernel
theorem dX11_keep_18 : decode cX11_keep 18 = .ok (.getfield 366, 3) := by decide +kernel
theorem dX11_keep_21 : decode cX11_keep 21 = .ok (.iconst 1, 1) := by decide +kernel
theorem dX11_keep_22 : decode cX11_keep 22 = .ok (.iadd, 1) := by decide +kernel
theorem dX11_keep_23 : decode cX11_keep 23 = .ok (.bipush 8, 2) := by decide +kernel
theorem dX11_keep_25 : decode cX11_keep 25 = .ok (.irem, 1) := by decide +kernel
theorem dX11_keep_26 : decode cX11_keep 26 = .ok (.putfield 366, 3) := by decide +kernel
theorem dX11_keep_29 : decode cX11_keep 29 = .ok (.aload_n 0, 1) := by decide +kernel
theorem dX11_keep_30 : decode cX11_keep 30 = .ok (.aload_n 0, 1) := by decide +kernel
theorem dX11_keep_31 : decode cX11_keep 31 = .ok (.getfield 114, 3) := by decide +kernel
theorem dX11_keep_34 : decode cX11_keep 34 = .ok (.iconst 1, 1) := by decide +kernel
theorem dX11_keep_35 : decode cX11_keep 35 = .ok (.iadd, 1) := by decide +kernel
theorem dX11_keep_36 : decode cX11_keep 36 = .ok (.bipush 8, 2) := by decide +kernel
theorem dX11_keep_38 : decode cX11_keep 38 = .ok (.invokestatic 406, 3) := by decide +kernel
theorem dX11_keep_41 : decode cX11_keep 41 = .ok (.putfield 114, 3) := by decide +kernel
theorem dX11_keep_44 : decode cX11_keep 44 = .ok (.aload_n 0, 1) := by decide +kernel
theorem dX11_keep_45 : decode cX11_keep 45 = .ok (.dup, 1) := by decide +kernel
theorem dX11_keep_46 : decode cX11_keep 46 = .ok (.getfield 84, 3) := by decide +kernel
theorem dX11_keep_49 : decode cX11_keep 49 = .ok (.iconst 1, 1) := by decide +kernel
theorem dX11_keep_50 : decode cX11_keep 50 = .ok (.iadd, 1) := by decide +kernel
theorem dX11_keep_51 : decode cX11_keep 51 = .ok (.putfield 84, 3) := by decide +kernel
theorem dX11_keep_54 : decode cX11_keep 54 = .ok (.return_, 1) := by decide +kernel
theorem dX11_isHonest_0 : decode cX11_isHonest 0 = .ok (.aload_n 0, 1) := by decide +kernel
theorem dX11_isHonest_1 : decode cX11_isHonest 1 = .ok (.getfield 10, 3) := by decide +kernel
theorem dX11_isHonest_4 : decode cX11_isHonest 4 = .ok (.iload_n 1, 1) := by decide +kernel
theorem dX11_isHonest_5 : decode cX11_isHonest 5 = .ok (.invokevirtual 126, 3) := by decide +kernel
theorem dX11_isHonest_8 : decode cX11_isHonest 8 = .ok (.ifCond .eq 19, 3) := by decide +kernel
theorem dX11_isHonest_11 : decode cX11_isHonest 11 = .ok (.aload_n 0, 1) := by decide +kernel
theorem dX11_isHonest_12 : decode cX11_isHonest 12 = .ok (.getfield 19, 3) := by decide +kernel
theorem dX11_isHonest_15 : decode cX11_isHonest 15 = .ok (.getfield 133, 3) := by decide +kernel
theorem dX11_isHonest_18 : decode cX11_isHonest 18 = .ok (.iload_n 1, 1) := by decide +kernel
theorem dX11_isHonest_19 : decode cX11_isHonest 19 = .ok (.iaload, 1) := by decide +kernel
theorem dX11_isHonest_20 : decode cX11_isHonest 20 = .ok (.ifCond .ne 7, 3) := by decide +kernel
theorem dX11_isHonest_23 : decode cX11_isHonest 23 = .ok (.iconst 1, 1) := by decide +kernel
theorem dX11_isHonest_24 : decode cX11_isHonest 24 = .ok (.goto 4, 3) := by decide +kernel
theorem dX11_isHonest_27 : decode cX11_isHonest 27 = .ok (.iconst 0, 1) := by decide +kernel
theorem dX11_isHonest_28 : decode cX11_isHonest 28 = .ok (.ireturn, 1) := by decide +kernel
theorem dX11_canAsk_0 : decode cX11_canAsk 0 = .ok (.aload_n 0, 1) := by decide +kernel
theorem dX11_canAsk_1 : decode cX11_canAsk 1 = .ok (.getfield 10, 3) := by decide +kernel
theorem dX11_canAsk_4 : decode cX11_canAsk 4 = .ok (.iload_n 1, 1) := by decide +kernel
theorem dX11_canAsk_5 : decode cX11_canAsk 5 = .ok (.iload_n 2, 1) := by decide +kernel
theorem dX11_canAsk_6 : decode cX11_canAsk 6 = .ok (.invokevirtual 411, 3) := by decide +kernel
theorem dX11_canAsk_9 : decode cX11_canAsk 9 = .ok (.ifCond .eq 26, 3) := by decide +kernel
theorem dX11_canAsk_12 : decode cX11_canAsk 12 = .ok (.aload_n 0, 1) := by decide +kernel
theorem dX11_canAsk_13 : decode cX11_canAsk 13 = .ok (.getfield 35, 3) := by decide +kernel
theorem dX11_canAsk_16 : decode cX11_canAsk 16 = .ok (.aload_n 0, 1) := by decide +kernel
theorem dX11_canAsk_17 : decode cX11_canAsk 17 = .ok (.getfield 19, 3) := by decide +kernel
theorem dX11_canAsk_20 : decode cX11_canAsk 20 = .ok (.getfield 143, 3) := by decide +kernel
theorem dX11_canAsk_23 : decode cX11_canAsk 23 = .ok (.iconst 0, 1) := by decide +kernel
theorem dX11_canAsk_24 : decode cX11_canAsk 24 = .ok (.iload_n 1, 1) := by decide +kernel
theorem dX11_canAsk_25 : decode cX11_canAsk 25 = .ok (.invokevirtual 414, 3) := by decide +kernel
theorem dX11_canAsk_28 : decode cX11_canAsk 28 = .ok (.ifCond .eq 7, 3) := by decide +kernel
theorem dX11_canAsk_31 : decode cX11_canAsk 31 = .ok (.iconst 1, 1) := by decide +kernel
theorem dX11_canAsk_32 : decode cX11_canAsk 32 = .ok (.goto 4, 3) := by decide +kernel
theorem dX11_canAsk_35 : decode cX11_canAsk 35 = .ok (.iconst 0, 1) := by decide +kernel
theorem dX11_canAsk_36 : decode cX11_canAsk 36 = .ok (.ireturn, 1) := by decide +kernel
theorem dX11_ask_0 : decode cX11_ask 0 = .ok (.aload_n 0, 1) := by decide +kernel
theorem dX11_ask_1 : decode cX11_ask 1 = .ok (.getfield 19, 3) := by decide +kernel
theorem dX11_ask_4 : decode cX11_ask 4 = .ok (.getfield 143, 3) := by decide +kernel
theorem dX11_ask_7 : decode cX11_ask 7 = .ok (.iload_n 1, 1) := by decide +kernel
theorem dX11_ask_8 : decode cX11_ask 8 = .ok (.iaload, 1) := by decide +kernel
theorem dX11_ask_9 : decode cX11_ask 9 = .ok (.istore_n 3, 1) := by decide +kernel
theorem dX11_ask_10 : decode cX11_ask 10 = .ok (.aload_n 0, 1) := by decide +kernel
theorem dX11_ask_11 : decode cX11_ask 11 = .ok (.getfield 35, 3) := by decide +kernel
theorem dX11_ask_14 : decode cX11_ask 14 = .ok (.aload_n 0, 1) := by decide +kernel
theorem dX11_ask_15 : decode cX11_ask 15 = .ok (.getfield 19, 3) := by decide +kernel
theorem dX11_ask_18 : decode cX11_ask 18 = .ok (.getfield 143, 3) := by decide +kernel
theorem dX11_ask_21 : decode cX11_ask 21 = .ok (.iload_n 1, 1) := by decide +kernel
theorem dX11_ask_22 : decode cX11_ask 22 = .ok (.aload_n 0, 1) := by decide +kernel
theorem dX11_ask_23 : decode cX11_ask 23 = .ok (.getfield 35, 3) := by decide +kernel
theorem dX11_ask_26 : decode cX11_ask 26 = .ok (.iload_n 2, 1) := by decide +kernel
theorem dX11_ask_27 : decode cX11_ask 27 = .ok (.invokevirtual 162, 3) := by decide +kernel
theorem dX11_ask_30 : decode cX11_ask 30 = .ok (.iload_n 2, 1) := by decide +kernel
theorem dX11_ask_31 : decode cX11_ask 31 = .ok (.invokevirtual 166, 3) := by decide +kernel
theorem dX11_ask_34 : decode cX11_ask 34 = .ok (.aload_n 0, 1) := by decide +kernel
theorem dX11_ask_35 : decode cX11_ask 35 = .ok (.getfield 81, 3) := by decide +kernel
theorem dX11_ask_38 : decode cX11_ask 38 = .ok (.iload_n 1, 1) := by decide +kernel
theorem dX11_ask_39 : decode cX11_ask 39 = .ok (.dup2, 1) := by decide +kernel
theorem dX11_ask_40 : decode cX11_ask 40 = .ok (.iaload, 1) := by decide +kernel
theorem dX11_ask_41 : decode cX11_ask 41 = .ok (.iconst 1, 1) := by decide +kernel
theorem dX11_ask_42 : decode cX11_ask 42 = .ok (.iadd, 1) := by decide +kernel
theorem dX11_ask_43 : decode cX11_ask 43 = .ok (.iastore, 1) := by decide +kernel
theorem dX11_ask_44 : decode cX11_ask 44 = .ok (.iload_n 3, 1) := by decide +kernel
theorem dX11_ask_45 : decode cX11_ask 45 = .ok (.aload_n 0, 1) := by decide +kernel
theorem dX11_ask_46 : decode cX11_ask 46 = .ok (.getfield 19, 3) := by decide +kernel
theorem dX11_ask_49 : decode cX11_ask 49 = .ok (.getfield 143, 3) := by decide +kernel
theorem dX11_ask_52 : decode cX11_ask 52 = .ok (.iload_n 1, 1) := by decide +kernel
theorem dX11_ask_53 : decode cX11_ask 53 = .ok (.iaload, 1) := by decide +kernel
theorem dX11_ask_54 : decode cX11_ask 54 = .ok (.invokestatic 170, 3) := by decide +kernel
theorem dX11_ask_57 : decode cX11_ask 57 = .ok (.ireturn, 1) := by decide +kernel
theorem dX11_canPoll_0 : decode cX11_canPoll 0 = .ok (.aload_n 0, 1) := by decide +kernel
theorem dX11_canPoll_1 : decode cX11_canPoll 1 = .ok (.getfield 10, 3) := by decide +kernel
theorem dX11_canPoll_4 : decode cX11_canPoll 4 = .ok (.iload_n 1, 1) := by decide +kernel
theorem dX11_canPoll_5 : decode cX11_canPoll 5 = .ok (.iload_n 3, 1) := by decide +kernel
theorem dX11_canPoll_6 : decode cX11_canPoll 6 = .ok (.invokevirtual 411, 3) := by decide +kernel
theorem dX11_canPoll_9 : decode cX11_canPoll 9 = .ok (.ifCond .eq 34, 3) := by decide +kernel
theorem dX11_canPoll_12 : decode cX11_canPoll 12 = .ok (.aload_n 0, 1) := by decide +kernel
theorem dX11_canPoll_13 : decode cX11_canPoll 13 = .ok (.getfield 26, 3) := by decide +kernel
theorem dX11_canPoll_16 : decode cX11_canPoll 16 = .ok (.iload_n 2, 1) := by decide +kernel
theorem dX11_canPoll_17 : decode cX11_canPoll 17 = .ok (.invokevirtual 316, 3) := by decide +kernel
theorem dX11_canPoll_20 : decode cX11_canPoll 20 = .ok (.ifCond .eq 23, 3) := by decide +kernel
theorem dX11_canPoll_23 : decode cX11_canPoll 23 = .ok (.aload_n 0, 1) := by decide +kernel
theorem dX11_canPoll_24 : decode cX11_canPoll 24 = .ok (.getfield 44, 3) := by decide +kernel
theorem dX11_canPoll_27 : decode cX11_canPoll 27 = .ok (.iload_n 1, 1) := by decide +kernel
theorem dX11_canPoll_28 : decode cX11_canPoll 28 = .ok (.invokevirtual 305, 3) := by decide +kernel
theorem dX11_canPoll_31 : decode cX11_canPoll 31 = .ok (.iload_n 2, 1) := by decide +kernel
theorem dX11_canPoll_32 : decode cX11_canPoll 32 = .ok (.ishr, 1) := by decide +kernel
theorem dX11_canPoll_33 : decode cX11_canPoll 33 = .ok (.iconst 1, 1) := by decide +kernel
theorem dX11_canPoll_34 : decode cX11_canPoll 34 = .ok (.iand, 1) := by decide +kernel
theorem dX11_canPoll_35 : decode cX11_canPoll 35 = .ok (.iconst 1, 1) := by decide +kernel
theorem dX11_canPoll_36 : decode cX11_canPoll 36 = .ok (.if_icmp .ne 7, 3) := by decide +kernel
theorem dX11_canPoll_39 : decode cX11_canPoll 39 = .ok (.iconst 1, 1) := by decide +kernel
theorem dX11_canPoll_40 : decode cX11_canPoll 40 = .ok (.goto 4, 3) := by decide +kernel
theorem dX11_canPoll_43 : decode cX11_canPoll 43 = .ok (.iconst 0, 1) := by decide +kernel
theorem dX11_canPoll_44 : decode cX11_canPoll 44 = .ok (.ireturn, 1) := by decide +kernel
theorem dX11_allQueries_0 : decode cX11_allQueries 0 = .ok (.iconst 0, 1) := by decide +kernel
theorem dX11_allQueries_1 : decode cX11_allQueries 1 = .ok (.istore_n 1, 1) := by decide +kernel
theorem dX11_allQueries_2 : decode cX11_allQueries 2 = .ok (.iconst 0, 1) := by decide +kernel
theorem dX11_allQueries_3 : decode cX11_allQueries 3 = .ok (.istore_n 2, 1) := by decide +kernel
theorem dX11_allQueries_4 : decode cX11_allQueries 4 = .ok (.iload_n 2, 1) := by decide +kernel
theorem dX11_allQueries_5 : decode cX11_allQueries 5 = .ok (.aload_n 0, 1) := by decide +kernel
theorem dX11_allQueries_6 : decode cX11_allQueries 6 = .ok (.getfield 10, 3) := by decide +kernel
theorem dX11_allQueries_9 : decode cX11_allQueries 9 = .ok (.getfield 176, 3) := by decide +kernel
theorem dX11_allQueries_12 : decode cX11_allQueries 12 = .ok (.if_icmp .ge 18, 3) := by decide +kernel
theorem dX11_allQueries_15 : decode cX11_allQueries 15 = .ok (.iload_n 1, 1) := by decide +kernel
theorem dX11_allQueries_16 : decode cX11_allQueries 16 = .ok (.aload_n 0, 1) := by decide +kernel
theorem dX11_allQueries_17 : decode cX11_allQueries 17 = .ok (.getfield 81, 3) := by decide +kernel
theorem dX11_allQueries_20 : decode cX11_allQueries 20 = .ok (.iload_n 2, 1) := by decide +kernel
theorem dX11_allQueries_21 : decode cX11_allQueries 21 = .ok (.iaload, 1) := by decide +kernel
theorem dX11_allQueries_22 : decode cX11_allQueries 22 = .ok (.iadd, 1) := by decide +kernel
theorem dX11_allQueries_23 : decode cX11_allQueries 23 = .ok (.istore_n 1, 1) := by decide +kernel
theorem dX11_allQueries_24 : decode cX11_allQueries 24 = .ok (.iinc 2 1, 3) := by decide +kernel
theorem dX11_allQueries_27 : decode cX11_allQueries 27 = .ok (.goto (-23), 3) := by decide +kernel
theorem dX11_allQueries_30 : decode cX11_allQueries 30 = .ok (.iload_n 1, 1) := by decide +kernel
theorem dX11_allQueries_31 : decode cX11_allQueries 31 = .ok (.ireturn, 1) := by decide +kernel
theorem dX11_draw_0 : decode cX11_draw 0 = .ok (.aload_n 0, 1) := by decide +kernel
theorem dX11_draw_1 : decode cX11_draw 1 = .ok (.aload_n 0, 1) := by decide +kernel
theorem dX11_draw_2 : decode cX11_draw 2 = .ok (.getfield 173, 3) := by decide +kernel
theorem dX11_draw_5 : decode cX11_draw 5 = .ok (.ldc_w 418, 3) := by decide +kernel
theorem dX11_draw_8 : decode cX11_draw 8 = .ok (.imul, 1) := by decide +kernel
theorem dX11_draw_9 : decode cX11_draw 9 = .ok (.sipush 12345, 3) := by decide +kernel
theorem dX11_draw_12 : decode cX11_draw 12 = .ok (.iadd, 1) := by decide +kernel
theorem dX11_draw_13 : decode cX11_draw 13 = .ok (.putfield 173, 3) := by decide +kernel
theorem dX11_draw_16 : decode cX11_draw 16 = .ok (.iload_n 1, 1) := by decide +kernel
theorem dX11_draw_17 : decode cX11_draw 17 = .ok (.iconst 1, 1) := by decide +kernel
theorem dX11_draw_18 : decode cX11_draw 18 = .ok (.if_icmp .ge 7, 3) := by decide +kernel
theorem dX11_draw_21 : decode cX11_draw 21 = .ok (.iconst 0, 1) := by decide +kernel
theorem dX11_draw_22 : decode cX11_draw 22 = .ok (.goto 12, 3) := by decide +kernel
theorem dX11_draw_25 : decode cX11_draw 25 = .ok (.aload_n 0, 1) := by decide +kernel
theorem dX11_draw_26 : decode cX11_draw 26 = .ok (.getfield 173, 3) := by decide +kernel
theorem dX11_draw_29 : decode cX11_draw 29 = .ok (.bipush 8, 2) := by decide +kernel
theorem dX11_draw_31 : decode cX11_draw 31 = .ok (.iushr, 1) := by decide +kernel
theorem dX11_draw_32 : decode cX11_draw 32 = .ok (.iload_n 1, 1) := by decide +kernel
theorem dX11_draw_33 : decode cX11_draw 33 = .ok (.irem, 1) := by decide +kernel
theorem dX11_draw_34 : decode cX11_draw 34 = .ok (.ireturn, 1) := by decide +kernel
theorem dX11_drawSample_0 : decode cX11_drawSample 0 = .ok (.aload_n 0, 1) := by decide +kernel
theorem dX11_drawSample_1 : decode cX11_drawSample 1 = .ok (.getfield 10, 3) := by decide +kernel
theorem dX11_drawSample_4 : decode cX11_drawSample 4 = .ok (.invokevirtual 419, 3) := by decide +kernel
theorem dX11_drawSample_7 : decode cX11_drawSample 7 = .ok (.iconst 1, 1) := by decide +kernel
theorem dX11_drawSample_8 : decode cX11_drawSample 8 = .ok (.iload_n 1, 1) := by decide +kernel
theorem dX11_drawSample_9 : decode cX11_drawSample 9 = .ok (.ishl, 1) := by decide +kernel
theorem dX11_drawSample_10 : decode cX11_drawSample 10 = .ok (.iconst (-1), 1) := by decide +kernel
theorem dX11_drawSample_11 : decode cX11_drawSample 11 = .ok (.ixor, 1) := by decide +kernel
theorem dX11_drawSample_12 : decode cX11_drawSample 12 = .ok (.iand, 1) := by decide +kernel
theorem dX11_drawSample_13 : decode cX11_drawSample 13 = .ok (.istore_n 2, 1) := by decide +kernel
theorem dX11_drawSample_14 : decode cX11_drawSample 14 = .ok (.iconst 0, 1) := by decide +kernel
theorem dX11_drawSample_15 : decode cX11_drawSample 15 = .ok (.istore_n 3, 1) := by decide +kernel
theorem dX11_drawSample_16 : decode cX11_drawSample 16 = .ok (.iconst 0, 1) := by decide +kernel
theorem dX11_drawSample_17 : decode cX11_drawSample 17 = .ok (.istore 4, 2) := by decide +kernel
theorem dX11_drawSample_19 : decode cX11_drawSample 19 = .ok (.iload 4, 2) := by decide +kernel
theorem dX11_drawSample_21 : decode cX11_drawSample 21 = .ok (.aload_n 0, 1) := by decide +kernel
theorem dX11_drawSample_22 : decode cX11_drawSample 22 = .ok (.getfield 10, 3) := by decide +kernel
theorem dX11_drawSample_25 : decode cX11_drawSample 25 = .ok (.getfield 373, 3) := by decide +kernel
theorem dX11_drawSample_28 : decode cX11_drawSample 28 = .ok (.if_icmp .ge 45, 3) := by decide +kernel
theorem dX11_drawSample_31 : decode cX11_drawSample 31 = .ok (.iconst 1, 1) := by decide +kernel
theorem dX11_drawSample_32 : decode cX11_drawSample 32 = .ok (.iload_n 2, 1) := by decide +kernel
theorem dX11_drawSample_33 : decode cX11_drawSample 33 = .ok (.aload_n 0, 1) := by decide +kernel
theorem dX11_drawSample_34 : decode cX11_drawSample 34 = .ok (.aload_n 0, 1) := by decide +kernel
theorem dX11_drawSample_35 : decode cX11_drawSample 35 = .ok (.getfield 10, 3) := by decide +kernel
theorem dX11_drawSample_38 : decode cX11_drawSample 38 = .ok (.getfield 176, 3) := by decide +kernel
theorem dX11_drawSample_41 : decode cX11_drawSample 41 = .ok (.iconst 1, 1) := by decide +kernel
theorem dX11_drawSample_42 : decode cX11_drawSample 42 = .ok (.isub, 1) := by decide +kernel
theorem dX11_drawSample_43 : decode cX11_drawSample 43 = .ok (.iload 4, 2) := by decide +kernel
theorem dX11_drawSample_45 : decode cX11_drawSample 45 = .ok (.isub, 1) := by decide +kernel
theorem dX11_drawSample_46 : decode cX11_drawSample 46 = .ok (.invokevirtual 178, 3) := by decide +kernel
theorem dX11_drawSample_49 : decode cX11_drawSample 49 = .ok (.invokestatic 313, 3) := by decide +kernel
theorem dX11_drawSample_52 : decode cX11_drawSample 52 = .ok (.ishl, 1) := by decide +kernel
theorem dX11_drawSample_53 : decode cX11_drawSample 53 = .ok (.istore 5, 2) := by decide +kernel
theorem dX11_drawSample_55 : decode cX11_drawSample 55 = .ok (.iload_n 3, 1) := by decide +kernel
theorem dX11_drawSample_56 : decode cX11_drawSample 56 = .ok (.iload 5, 2) := by decide +kernel
theorem dX11_drawSample_58 : decode cX11_drawSample 58 = .ok (.ior, 1) := by decide +kernel
theorem dX11_drawSample_59 : decode cX11_drawSample 59 = .ok (.istore_n 3, 1) := by decide +kernel
theorem dX11_drawSample_60 : decode cX11_drawSample 60 = .ok (.iload_n 2, 1) := by decide +kernel
theorem dX11_drawSample_61 : decode cX11_drawSample 61 = .ok (.iload 5, 2) := by decide +kernel
theorem dX11_drawSample_63 : decode cX11_drawSample 63 = .ok (.iconst (-1), 1) := by decide +kernel
theorem dX11_drawSample_64 : decode cX11_drawSample 64 = .ok (.ixor, 1) := by decide +kernel
theorem dX11_drawSample_65 : decode cX11_drawSample 65 = .ok (.iand, 1) := by decide +kernel
theorem dX11_drawSample_66 : decode cX11_drawSample 66 = .ok (.istore_n 2, 1) := by decide +kernel
theorem dX11_drawSample_67 : decode cX11_drawSample 67 = .ok (.iinc 4 1, 3) := by decide +kernel
theorem dX11_drawSample_70 : decode cX11_drawSample 70 = .ok (.goto (-51), 3) := by decide +kernel
theorem dX11_drawSample_73 : decode cX11_drawSample 73 = .ok (.iload_n 3, 1) := by decide +kernel
theorem dX11_drawSample_74 : decode cX11_drawSample 74 = .ok (.ireturn, 1) := by decide +kernel
theorem dX11_bitAt_0 : decode cX11_bitAt 0 = .ok (.iload_n 1, 1) := by decide +kernel
theorem dX11_bitAt_1 : decode cX11_bitAt 1 = .ok (.istore_n 2, 1) := by decide +kernel
theorem dX11_bitAt_2 : decode cX11_bitAt 2 = .ok (.iconst 0, 1) := by decide +kernel
theorem dX11_bitAt_3 : decode cX11_bitAt 3 = .ok (.istore_n 3, 1) := by decide +kernel
theorem dX11_bitAt_4 : decode cX11_bitAt 4 = .ok (.iload_n 3, 1) := by decide +kernel
theorem dX11_bitAt_5 : decode cX11_bitAt 5 = .ok (.bipush 31, 2) := by decide +kernel
theorem dX11_bitAt_7 : decode cX11_bitAt 7 = .ok (.if_icmp .ge 27, 3) := by decide +kernel
theorem dX11_bitAt_10 : decode cX11_bitAt 10 = .ok (.iload_n 0, 1) := by decide +kernel
theorem dX11_bitAt_11 : decode cX11_bitAt 11 = .ok (.iload_n 3, 1) := by decide +kernel
theorem dX11_bitAt_12 : decode cX11_bitAt 12 = .ok (.ishr, 1) := by decide +kernel
theorem dX11_bitAt_13 : decode cX11_bitAt 13 = .ok (.iconst 1, 1) := by decide +kernel
theorem dX11_bitAt_14 : decode cX11_bitAt 14 = .ok (.iand, 1) := by decide +kernel
theorem dX11_bitAt_15 : decode cX11_bitAt 15 = .ok (.iconst 1, 1) := by decide +kernel
theorem dX11_bitAt_16 : decode cX11_bitAt 16 = .ok (.if_icmp .ne 12, 3) := by decide +kernel
theorem dX11_bitAt_19 : decode cX11_bitAt 19 = .ok (.iload_n 2, 1) := by decide +kernel
theorem dX11_bitAt_20 : decode cX11_bitAt 20 = .ok (.ifCond .ne 5, 3) := by decide +kernel
theorem dX11_bitAt_23 : decode cX11_bitAt 23 = .ok (.iload_n 3, 1) := by decide +kernel
theorem dX11_bitAt_24 : decode cX11_bitAt 24 = .ok (.ireturn, 1) := by decide +kernel
theorem dX11_bitAt_25 : decode cX11_bitAt 25 = .ok (.iinc 2 (-1), 3) := by decide +kernel
theorem dX11_bitAt_28 : decode cX11_bitAt 28 = .ok (.iinc 3 1, 3) := by decide +kernel
theorem dX11_bitAt_31 : decode cX11_bitAt 31 = .ok (.goto (-27), 3) := by decide +kernel
theorem dX11_bitAt_34 : decode cX11_bitAt 34 = .ok (.iconst 0, 1) := by decide +kernel
theorem dX11_bitAt_35 : decode cX11_bitAt 35 = .ok (.ireturn, 1) := by decide +kernel
theorem dX11_isTold_0 : decode cX11_isTold 0 = .ok (.iload_n 0, 1) := by decide +kernel
theorem dX11_isTold_1 : decode cX11_isTold 1 = .ok (.iconst 1, 1) := by decide +kernel
theorem dX11_isTold_2 : decode cX11_isTold 2 = .ok (.if_icmp .lt 13, 3) := by decide +kernel
theorem dX11_isTold_5 : decode cX11_isTold 5 = .ok (.iload_n 0, 1) := by decide +kernel
theorem dX11_isTold_6 : decode cX11_isTold 6 = .ok (.bipush 12, 2) := by decide +kernel
theorem dX11_isTold_8 : decode cX11_isTold 8 = .ok (.if_icmp .gt 7, 3) := by decide +kernel
theorem dX11_isTold_11 : decode cX11_isTold 11 = .ok (.iconst 1, 1) := by decide +kernel
theorem dX11_isTold_12 : decode cX11_isTold 12 = .ok (.goto 4, 3) := by decide +kernel
theorem dX11_isTold_15 : decode cX11_isTold 15 = .ok (.iconst 0, 1) := by decide +kernel
theorem dX11_isTold_16 : decode cX11_isTold 16 = .ok (.ireturn, 1) := by decide +kernel
theorem dX11_bitsOf_0 : decode cX11_bitsOf 0 = .ok (.fload_n 0, 1) := by decide +kernel
theorem dX11_bitsOf_1 : decode cX11_bitsOf 1 = .ok (.fconst 0, 1) := by decide +kernel
theorem dX11_bitsOf_2 : decode cX11_bitsOf 2 = .ok (.fcmp .l, 1) := by decide +kernel
theorem dX11_bitsOf_3 : decode cX11_bitsOf 3 = .ok (.ifCond .gt 5, 3) := by decide +kernel
theorem dX11_bitsOf_6 : decode cX11_bitsOf 6 = .ok (.iconst 0, 1) := by decide +kernel
theorem dX11_bitsOf_7 : decode cX11_bitsOf 7 = .ok (.ireturn, 1) := by decide +kernel
theorem dX11_bitsOf_8 : decode cX11_bitsOf 8 = .ok (.fload_n 0, 1) := by decide +kernel
theorem dX11_bitsOf_9 : decode cX11_bitsOf 9 = .ok (.fstore_n 1, 1) := by decide +kernel
theorem dX11_bitsOf_10 : decode cX11_bitsOf 10 = .ok (.bipush 127, 2) := by decide +kernel
theorem dX11_bitsOf_12 : decode cX11_bitsOf 12 = .ok (.istore_n 2, 1) := by decide +kernel
theorem dX11_bitsOf_13 : decode cX11_bitsOf 13 = .ok (.iload_n 2, 1) := by decide +kernel
theorem dX11_bitsOf_14 : decode cX11_bitsOf 14 = .ok (.iconst 1, 1) := by decide +kernel
theorem dX11_bitsOf_15 : decode cX11_bitsOf 15 = .ok (.if_icmp .le 19, 3) := by decide +kernel
theorem dX11_bitsOf_18 : decode cX11_bitsOf 18 = .ok (.fload_n 1, 1) := by decide +kernel
theorem dX11_bitsOf_19 : decode cX11_bitsOf 19 = .ok (.fconst 1, 1) := by decide +kernel
theorem dX11_bitsOf_20 : decode cX11_bitsOf 20 = .ok (.fcmp .g, 1) := by decide +kernel
theorem dX11_bitsOf_21 : decode cX11_bitsOf 21 = .ok (.ifCond .ge 13, 3) := by decide +kernel
theorem dX11_bitsOf_24 : decode cX11_bitsOf 24 = .ok (.fload_n 1, 1) := by decide +kernel
theorem dX11_bitsOf_25 : decode cX11_bitsOf 25 = .ok (.fconst 2, 1) := by decide +kernel
theorem dX11_bitsOf_26 : decode cX11_bitsOf 26 = .ok (.fmul, 1) := by decide +kernel
theorem dX11_bitsOf_27 : decode cX11_bitsOf 27 = .ok (.fstore_n 1, 1) := by decide +kernel
theorem dX11_bitsOf_28 : decode cX11_bitsOf 28 = .ok (.iinc 2 (-1), 3) := by decide +kernel
theorem dX11_bitsOf_31 : decode cX11_bitsOf 31 = .ok (.goto (-18), 3) := by decide +kernel
theorem dX11_bitsOf_34 : decode cX11_bitsOf 34 = .ok (.iload_n 2, 1) := by decide +kernel
theorem dX11_bitsOf_35 : decode cX11_bitsOf 35 = .ok (.bipush 23, 2) := by decide +kernel
theorem dX11_bitsOf_37 : decode cX11_bitsOf 37 = .ok (.ishl, 1) := by decide +kernel
theorem dX11_bitsOf_38 : decode cX11_bitsOf 38 = .ok (.fload_n 1, 1) := by decide +kernel
theorem dX11_bitsOf_39 : decode cX11_bitsOf 39 = .ok (.fconst 1, 1) := by decide +kernel
theorem dX11_bitsOf_40 : decode cX11_bitsOf 40 = .ok (.fsub, 1) := by decide +kernel
theorem dX11_bitsOf_41 : decode cX11_bitsOf 41 = .ok (.ldc_w 422, 3) := by decide +kernel
theorem dX11_bitsOf_44 : decode cX11_bitsOf 44 = .ok (.fmul, 1) := by decide +kernel
theorem dX11_bitsOf_45 : decode cX11_bitsOf 45 = .ok (.f2i, 1) := by decide +kernel
theorem dX11_bitsOf_46 : decode cX11_bitsOf 46 = .ok (.ior, 1) := by decide +kernel
theorem dX11_bitsOf_47 : decode cX11_bitsOf 47 = .ok (.ireturn, 1) := by decide +kernel
theorem dX12_init_0 : decode cX12_init 0 = .ok (.aload_n 0, 1) := by decide +kernel
theorem dX12_init_1 : decode cX12_init 1 = .ok (.invokespecial 1, 3) := by decide +kernel
theorem dX12_init_4 : decode cX12_init 4 = .ok (.aload_n 0, 1) := by decide +kernel
theorem dX12_init_5 : decode cX12_init 5 = .ok (.sipush 288, 3) := by decide +kernel
theorem dX12_init_8 : decode cX12_init 8 = .ok (.newarray .int, 2) := by decide +kernel
theorem dX12_init_10 : decode cX12_init 10 = .ok (.putfield 7, 3) := by decide +kernel
theorem dX12_init_13 : decode cX12_init 13 = .ok (.aload_n 0, 1) := by decide +kernel
theorem dX12_init_14 : decode cX12_init 14 = .ok (.sipush 2304, 3) := by decide +kernel
theorem dX12_init_17 : decode cX12_init 17 = .ok (.newarray .int, 2) := by decide +kernel
theorem dX12_init_19 : decode cX12_init 19 = .ok (.putfield 13, 3) := by decide +kernel
theorem dX12_init_22 : decode cX12_init 22 = .ok (.aload_n 0, 1) := by decide +kernel
theorem dX12_init_23 : decode cX12_init 23 = .ok (.sipush 288, 3) := by decide +kernel
theorem dX12_init_26 : decode cX12_init 26 = .ok (.newarray .int, 2) := by decide +kernel
theorem dX12_init_28 : decode cX12_init 28 = .ok (.putfield 16, 3) := by decide +kernel
theorem dX12_init_31 : decode cX12_init 31 = .ok (.aload_n 0, 1) := by decide +kernel
theorem dX12_init_32 : decode cX12_init 32 = .ok (.iconst 4, 1) := by decide +kernel
theorem dX12_init_33 : decode cX12_init 33 = .ok (.putfield 19, 3) := by decide +kernel
theorem dX12_init_36 : decode cX12_init 36 = .ok (.aload_n 0, 1) := by decide +kernel
theorem dX12_init_37 : decode cX12_init 37 = .ok (.iconst 2, 1) := by decide +kernel
theorem dX12_init_38 : decode cX12_init 38 = .ok (.putfield 23, 3) := by decide +kernel
theorem dX12_init_41 : decode cX12_init 41 = .ok (.aload_n 0, 1) := by decide +kernel
theorem dX12_init_42 : decode cX12_init 42 = .ok (.iconst 2, 1) := by decide +kernel
theorem dX12_init_43 : decode cX12_init 43 = .ok (.putfield 26, 3) := by decide +kernel
theorem dX12_init_46 : decode cX12_init 46 = .ok (.aload_n 0, 1) := by decide +kernel
theorem dX12_init_47 : decode cX12_init 47 = .ok (.iconst 3, 1) := by decide +kernel
theorem dX12_init_48 : decode cX12_init 48 = .ok (.putfield 29, 3) := by decide +kernel
theorem dX12_init_51 : decode cX12_init 51 = .ok (.aload_n 0, 1) := by decide +kernel
theorem dX12_init_52 : decode cX12_init 52 = .ok (.iconst 2, 1) := by decide +kernel
theorem dX12_init_53 : decode cX12_init 53 = .ok (.putfield 32, 3) := by decide +kernel
theorem dX12_init_56 : decode cX12_init 56 = .ok (.aload_n 0, 1) := by decide +kernel
theorem dX12_init_57 : decode cX12_init 57 = .ok (.iconst 1, 1) := by decide +kernel
theorem dX12_init_58 : decode cX12_init 58 = .ok (.putfield 35, 3) := by decide +kernel
theorem dX12_init_61 : decode cX12_init 61 = .ok (.aload_n 0, 1) := by decide +kernel
theorem dX12_init_62 : decode cX12_init 62 = .ok (.bipush 8, 2) := by decide +kernel
theorem dX12_init_64 : decode cX12_init 64 = .ok (.newarray .int, 2) := by decide +kernel
theorem dX12_init_66 : decode cX12_init 66 = .ok (.putfield 38, 3) := by decide +kernel
theorem dX12_init_69 : decode cX12_init 69 = .ok (.aload_n 0, 1) := by decide +kernel
theorem dX12_init_70 : decode cX12_init 70 = .ok (.bipush 16, 2) := by decide +kernel
theorem dX12_init_72 : decode cX12_init 72 = .ok (.newarray .int, 2) := by decide +kernel
theorem dX12_init_74 : decode cX12_init 74 = .ok (.putfield 41, 3) := by decide +kernel
theorem dX12_init_77 : decode cX12_init 77 = .ok (.aload_n 0, 1) := by decide +kernel
theorem dX12_init_78 : decode cX12_init 78 = .ok (.bipush 16, 2) := by decide +kernel
theorem dX12_init_80 : decode cX12_init 80 = .ok (.newarray .int, 2) := by decide +kernel
theorem dX12_init_82 : decode cX12_init 82 = .ok (.putfield 44, 3) := by decide +kernel
theorem dX12_init_85 : decode cX12_init 85 = .ok (.aload_n 0, 1) := by decide +kernel
theorem dX12_init_86 : decode cX12_init 86 = .ok (.bipush 16, 2) := by decide +kernel
theorem dX12_init_88 : decode cX12_init 88 = .ok (.newarray .int, 2) := by decide +kernel
theorem dX12_init_90 : decode cX12_init 90 = .ok (.putfield 47, 3) := by decide +kernel
theorem dX12_init_93 : decode cX12_init 93 = .ok (.aload_n 0, 1) := by decide +kernel
theorem dX12_init_94 : decode cX12_init 94 = .ok (.bipush 16, 2) := by decide +kernel
theorem dX12_init_96 : decode cX12_init 96 = .ok (.newarray .int, 2) := by decide +kernel
theorem dX12_init_98 : decode cX12_init 98 = .ok (.putfield 50, 3) := by decide +kernel
theorem dX12_init_101 : decode cX12_init 101 = .ok (.aload_n 0, 1) := by decide +kernel
theorem dX12_init_102 : decode cX12_init 102 = .ok (.iconst 2, 1) := by decide +kernel
theorem dX12_init_103 : decode cX12_init 103 = .ok (.anewarray 53, 3) := by decide +kernel
theorem dX12_init_106 : decode cX12_init 106 = .ok (.putfield 54, 3) := by decide +kernel
theorem dX12_init_109 : decode cX12_init 109 = .ok (.aload_n 0, 1) := by decide +kernel
theorem dX12_init_110 : decode cX12_init 110 = .ok (.iconst 2, 1) := by decide +kernel
theorem dX12_init_111 : decode cX12_init 111 = .ok (.newarray .int, 2) := by decide +kernel
theorem dX12_init_113 : decode cX12_init 113 = .ok (.putfield 58, 3) := by decide +kernel
theorem dX12_init_116 : decode cX12_init 116 = .ok (.aload_n 0, 1) := by decide +kernel
theorem dX12_init_117 : decode cX12_init 117 = .ok (.iconst 2, 1) := by decide +kernel
theorem dX12_init_118 : decode cX12_init 118 = .ok (.anewarray 53, 3) := by decide +kernel
theorem dX12_init_121 : decode cX12_init 121 = .ok (.putfield 61, 3) := by decide +kernel
theorem dX12_init_124 : decode cX12_init 124 = .ok (.aload_n 0, 1) := by decide +kernel
theorem dX12_init_125 : decode cX12_init 125 = .ok (.iconst 2, 1) := by decide +kernel
theorem dX12_init_126 : decode cX12_init 126 = .ok (.anewarray 64, 3) := by decide +kernel
theorem dX12_init_129 : decode cX12_init 129 = .ok (.putfield 66, 3) := by decide +kernel
theorem dX12_init_132 : decode cX12_init 132 = .ok (.aload_n 0, 1) := by decide +kernel
theorem dX12_init_133 : decode cX12_init 133 = .ok (.sipush 2001, 3) := by decide +kernel
theorem dX12_init_136 : decode cX12_init 136 = .ok (.newarray .int, 2) := by decide +kernel
theorem dX12_init_138 : decode cX12_init 138 = .ok (.putfield 70, 3) := by decide +kernel
theorem dX12_init_141 : decode cX12_init 141 = .ok (.aload_n 0, 1) := by decide +kernel
theorem dX12_init_142 : decode cX12_init 142 = .ok (.sipush 2001, 3) := by decide +kernel
theorem dX12_init_145 : decode cX12_init 145 = .ok (.newarray .int, 2) := by decide +kernel
theorem dX12_init_147 : decode cX12_init 147 = .ok (.putfield 73, 3) := by decide +kernel
theorem dX12_init_150 : decode cX12_init 150 = .ok (.aload_n 0, 1) := by decide +kernel
theorem dX12_init_151 : decode cX12_init 151 = .ok (.sipush 2001, 3) := by decide +kernel
theorem dX12_init_154 : decode cX12_init 154 = .ok (.newarray .int, 2) := by decide +kernel
theorem dX12_init_156 : decode cX12_init 156 = .ok (.putfield 76, 3) := by decide +kernel
theorem dX12_init_159 : decode cX12_init 159 = .ok (.aload_n 0, 1) := by decide +kernel
theorem dX12_init_160 : decode cX12_init 160 = .ok (.sipush 2001, 3) := by decide +kernel
theorem dX12_init_163 : decode cX12_init 163 = .ok (.newarray .int, 2) := by decide +kernel
theorem dX12_init_165 : decode cX12_init 165 = .ok (.putfield 79, 3) := by decide +kernel
theorem dX12_init_168 : decode cX12_init 168 = .ok (.aload_n 0, 1) := by decide +kernel
theorem dX12_init_169 : decode cX12_init 169 = .ok (.bipush 9, 2) := by decide +kernel
theorem dX12_init_171 : decode cX12_init 171 = .ok (.newarray .long, 2) := by decide +kernel
theorem dX12_init_173 : decode cX12_init 173 = .ok (.putfield 82, 3) := by decide +kernel
theorem dX12_init_176 : decode cX12_init 176 = .ok (.aload_n 0, 1) := by decide +kernel
theorem dX12_init_177 : decode cX12_init 177 = .ok (.bipush 9, 2) := by decide +kernel
theorem dX12_init_179 : decode cX12_init 179 = .ok (.newarray .long, 2) := by decide +kernel
theorem dX12_init_181 : decode cX12_init 181 = .ok (.putfield 85, 3) := by decide +kernel
theorem dX12_init_184 : decode cX12_init 184 = .ok (.aload_n 0, 1) := by decide +kernel
theorem dX12_init_185 : decode cX12_init 185 = .ok (.bipush 9, 2) := by decide +kernel
theorem dX12_init_187 : decode cX12_init 187 = .ok (.newarray .long, 2) := by decide +kernel
theorem dX12_init_189 : decode cX12_init 189 = .ok (.putfield 88, 3) := by decide +kernel
theorem dX12_init_192 : decode cX12_init 192 = .ok (.aload_n 0, 1) := by decide +kernel
theorem dX12_init_193 : decode cX12_init 193 = .ok (.bipush 9, 2) := by decide +kernel
theorem dX12_init_195 : decode cX12_init 195 = .ok (.newarray .long, 2) := by decide +kernel
theorem dX12_init_197 : decode cX12_init 197 = .ok (.putfield 91, 3) := by decide +kernel
theorem dX12_init_200 : decode cX12_init 200 = .ok (.aload_n 0, 1) := by decide +kernel
theorem dX12_init_201 : decode cX12_init 201 = .ok (.invokevirtual 94, 3) := by decide +kernel
theorem dX12_init_204 : decode cX12_init 204 = .ok (.return_, 1) := by decide +kernel
theorem dX12_within_0 : decode cX12_within 0 = .ok (.iload_n 0, 1) := by decide +kernel
theorem dX12_within_1 : decode cX12_within 1 = .ok (.iload_n 1, 1) := by decide +kernel
theorem dX12_within_2 : decode cX12_within 2 = .ok (.if_icmp .lt 12, 3) := by decide +kernel
theorem dX12_within_5 : decode cX12_within 5 = .ok (.iload_n 0, 1) := by decide +kernel
theorem dX12_within_6 : decode cX12_within 6 = .ok (.iload_n 2, 1) := by decide +kernel
theorem dX12_within_7 : decode cX12_within 7 = .ok (.if_icmp .gt 7, 3) := by decide +kernel
theorem dX12_within_10 : decode cX12_within 10 = .ok (.iconst 1, 1) := by decide +kernel
theorem dX12_within_11 : decode cX12_within 11 = .ok (.goto 4, 3) := by decide +kernel
theorem dX12_within_14 : decode cX12_within 14 = .ok (.iconst 0, 1) := by decide +kernel
theorem dX12_within_15 : decode cX12_within 15 = .ok (.ireturn, 1) := by decide +kernel
theorem dX12_has_0 : decode cX12_has 0 = .ok (.iload_n 0, 1) := by decide +kernel
theorem dX12_has_1 : decode cX12_has 1 = .ok (.iload_n 1, 1) := by decide +kernel
theorem dX12_has_2 : decode cX12_has 2 = .ok (.ishr, 1) := by decide +kernel
theorem dX12_has_3 : decode cX12_has 3 = .ok (.iconst 1, 1) := by decide +kernel
theorem dX12_has_4 : decode cX12_has 4 = .ok (.iand, 1) := by decide +kernel
theorem dX12_has_5 : decode cX12_has 5 = .ok (.iconst 1, 1) := by decide +kernel
theorem dX12_has_6 : decode cX12_has 6 = .ok (.if_icmp .ne 7, 3) := by decide +kernel
theorem dX12_has_9 : decode cX12_has 9 = .ok (.iconst 1, 1) := by decide +kernel
theorem dX12_has_10 : decode cX12_has 10 = .ok (.goto 4, 3) := by decide +kernel
theorem dX12_has_13 : decode cX12_has 13 = .ok (.iconst 0, 1) := by decide +kernel
theorem dX12_has_14 : decode cX12_has 14 = .ok (.ireturn, 1) := by decide +kernel
theorem dX12_many_0 : decode cX12_many 0 = .ok (.iconst 0, 1) := by decide +kernel
theorem dX12_many_1 : decode cX12_many 1 = .ok (.istore_n 1, 1) := by decide +kernel
theorem dX12_many_2 : decode cX12_many 2 = .ok (.iconst 0, 1) := by decide +kernel
theorem dX12_many_3 : decode cX12_many 3 = .ok (.istore_n 2, 1) := by decide +kernel
theorem dX12_many_4 : decode cX12_many 4 = .ok (.iload_n 2, 1) := by decide +kernel
theorem dX12_many_5 : decode cX12_many 5 = .ok (.bipush 16, 2) := by decide +kernel
theorem dX12_many_7 : decode cX12_many 7 = .ok (.if_icmp .ge 20, 3) := by decide +kernel
theorem dX12_many_10 : decode cX12_many 10 = .ok (.iload_n 0, 1) := by decide +kernel
theorem dX12_many_11 : decode cX12_many 11 = .ok (.iload_n 2, 1) := by decide +kernel
theorem dX12_many_12 : decode cX12_many 12 = .ok (.invokestatic 100, 3) := by decide +kernel
theorem dX12_many_15 : decode cX12_many 15 = .ok (.ifCond .eq 6, 3) := by decide +kernel
theorem dX12_many_18 : decode cX12_many 18 = .ok (.iinc 1 1, 3) := by decide +kernel
theorem dX12_many_21 : decode cX12_many 21 = .ok (.iinc 2 1, 3) := by decide +kernel
theorem dX12_many_24 : decode cX12_many 24 = .ok (.goto (-20), 3) := by decide +kernel
theorem dX12_many_27 : decode cX12_many 27 = .ok (.iload_n 1, 1) := by decide +kernel
theorem dX12_many_28 : decode cX12_many 28 = .ok (.ireturn, 1) := by decide +kernel
theorem dX12_begins_0 : decode cX12_begins 0 = .ok (.iconst 0, 1) := by decide +kernel
theorem dX12_begins_1 : decode cX12_begins 1 = .ok (.istore_n 1, 1) := by decide +kernel
theorem dX12_begins_2 : decode cX12_begins 2 = .ok (.iload_n 1, 1) := by decide +kernel
theorem dX12_begins_3 : decode cX12_begins 3 = .ok (.sipush 288, 3) := by decide +kernel
theorem dX12_begins_6 : decode cX12_begins 6 = .ok (.if_icmp .ge 16, 3) := by decide +kernel
theorem dX12_begins_9 : decode cX12_begins 9 = .ok (.aload_n 0, 1) := by decide +kernel
theorem dX12_begins_10 : decode cX12_begins 10 = .ok (.getfield 7, 3) := by decide +kernel
theorem dX12_begins_13 : decode cX12_begins 13 = .ok (.iload_n 1, 1) := by decide +kernel
theorem dX12_begins_14 : decode cX12_begins 14 = .ok (.iconst 0, 1) := by decide +kernel
theorem dX12_begins_15 : decode cX12_begins 15 = .ok (.iastore, 1) := by decide +kernel
theorem dX12_begins_16 : decode cX12_begins 16 = .ok (.iinc 1 1, 3) := by decide +kernel
theorem dX12_begins_19 : decode cX12_begins 19 = .ok (.goto (-17), 3) := by decide +kernel
theorem dX12_begins_22 : decode cX12_begins 22 = .ok (.iconst 0, 1) := by decide +kernel
theorem dX12_begins_23 : decode cX12_begins 23 = .ok (.istore_n 1, 1) := by decide +kernel
theorem dX12_begins_24 : decode cX12_begins 24 = .ok (.iload_n 1, 1) := by decide +kernel
theorem dX12_begins_25 : decode cX12_begins 25 = .ok (.bipush 8, 2) := by decide +kernel
theorem dX12_begins_27 : decode cX12_begins 27 = .ok (.if_icmp .ge 92, 3) := by decide +kernel
theorem dX12_begins_30 : decode cX12_begins 30 = .ok (.aload_n 0, 1) := by decide +kernel
theorem dX12_begins_31 : decode cX12_begins 31 = .ok (.getfield 7, 3) := by decide +kernel
theorem dX12_begins_34 : decode cX12_begins 34 = .ok (.iconst 0, 1) := by decide +kernel
theorem dX12_begins_35 : decode cX12_begins 35 = .ok (.iload_n 1, 1) := by decide +kernel
theorem dX12_begins_36 : decode cX12_begins 36 = .ok (.iadd, 1) := by decide +kernel
theorem dX12_begins_37 : decode cX12_begins 37 = .ok (.iconst (-1), 1) := by decide +kernel
theorem dX12_begins_38 : decode cX12_begins 38 = .ok (.iastore, 1) := by decide +kernel
theorem dX12_begins_39 : decode cX12_begins 39 = .ok (.aload_n 0, 1) := by decide +kernel
theorem dX12_begins_40 : decode cX12_begins 40 = .ok (.getfield 7, 3) := by decide +kernel
theorem dX12_begins_43 : decode cX12_begins 43 = .ok (.bipush 8, 2) := by decide +kernel
theorem dX12_begins_45 : decode cX12_begins 45 = .ok (.iload_n 1, 1) := by decide +kernel
theorem dX12_begins_46 : decode cX12_begins 46 = .ok (.iadd, 1) := by decide +kernel
theorem dX12_begins_47 : decode cX12_begins 47 = .ok (.iconst (-1), 1) := by decide +kernel
theorem dX12_begins_48 : decode cX12_begins 48 = .ok (.iastore, 1) := by decide +kernel
theorem dX12_begins_49 : decode cX12_begins 49 = .ok (.aload_n 0, 1) := by decide +kernel
theorem dX12_begins_50 : decode cX12_begins 50 = .ok (.getfield 7, 3) := by decide +kernel
theorem dX12_begins_53 : decode cX12_begins 53 = .ok (.bipush 56, 2) := by decide +kernel
theorem dX12_begins_55 : decode cX12_begins 55 = .ok (.iload_n 1, 1) := by decide +kernel
theorem dX12_begins_56 : decode cX12_begins 56 = .ok (.iadd, 1) := by decide +kernel
theorem dX12_begins_57 : decode cX12_begins 57 = .ok (.sipush 255, 3) := by decide +kernel
theorem dX12_begins_60 : decode cX12_begins 60 = .ok (.iastore, 1) := by decide +kernel
theorem dX12_begins_61 : decode cX12_begins 61 = .ok (.aload_n 0, 1) := by decide +kernel
theorem dX12_begins_62 : decode cX12_begins 62 = .ok (.getfield 38, 3) := by decide +kernel
theorem dX12_begins_65 : decode cX12_begins 65 = .ok (.iload_n 1, 1) := by decide +kernel
theorem dX12_begins_66 : decode cX12_begins 66 = .ok (.iconst 0, 1) := by decide +kernel
theorem dX12_begins_67 : decode cX12_begins 67 = .ok (.iastore, 1) := by decide +kernel
theorem dX12_begins_68 : decode cX12_begins 68 = .ok (.iconst 0, 1) := by decide +kernel
theorem dX12_begins_69 : decode cX12_begins 69 = .ok (.istore_n 2, 1) := by decide +kernel
theorem dX12_begins_70 : decode cX12_begins 70 = .ok (.iload_n 2, 1) := by decide +kernel
theorem dX12_begins_71 : decode cX12_begins 71 = .ok (.bipush 8, 2) := by decide +kernel
theorem dX12_begins_73 : decode cX12_begins 73 = .ok (.if_icmp .ge 40, 3) := by decide +kernel
theorem dX12_begins_76 : decode cX12_begins 76 = .ok (.aload_n 0, 1) := by decide +kernel
theorem dX12_begins_77 : decode cX12_begins 77 = .ok (.getfield 7, 3) := by decide +kernel
theorem dX12_begins_80 : decode cX12_begins 80 = .ok (.bipush 96, 2) := by decide +kernel
theorem dX12_begins_82 : decode cX12_begins 82 = .ok (.bipush 8, 2) := by decide +kernel
theorem dX12_begins_84 : decode cX12_begins 84 = .ok (.iload_n 1, 1) := by decide +kernel
theorem dX12_begins_85 : decode cX12_begins 85 = .ok (.imul, 1) := by decide +kernel
theorem dX12_begins_86 : decode cX12_begins 86 = .ok (.iadd, 1) := by decide +kernel
theorem dX12_begins_87 : decode cX12_begins 87 = .ok (.iload_n 2, 1) := by decide +kernel
theorem dX12_begins_88 : decode cX12_begins 88 = .ok (.iadd, 1) := by decide +kernel
theorem dX12_begins_89 : decode cX12_begins 89 = .ok (.iconst (-1), 1) := by decide +kernel
theorem dX12_begins_90 : decode cX12_begins 90 = .ok (.iastore, 1) := by decide +kernel
theorem dX12_begins_91 : decode cX12_begins 91 = .ok (.aload_n 0, 1) := by decide +kernel
theorem dX12_begins_92 : decode cX12_begins 92 = .ok (.getfield 7, 3) := by decide +kernel
theorem dX12_begins_95 : decode cX12_begins 95 = .ok (.sipush 160, 3) := by decide +kernel
theorem dX12_begins_98 : decode cX12_begins 98 = .ok (.bipush 8, 2) := by decide +kernel
theorem dX12_begins_100 : decode cX12_begins 100 = .ok (.iload_n 1, 1) := by decide +kernel
theorem dX12_begins_101 : decode cX12_begins 101 = .ok (.imul, 1) := by decide +kernel
theorem dX12_begins_102 : decode cX12_begins 102 = .ok (.iadd, 1) := by decide +kernel
theorem dX12_begins_103 : decode cX12_begins 103 = .ok (.iload_n 2, 1) := by decide +kernel
theorem dX12_begins_104 : decode cX12_begins 104 = .ok (.iadd, 1) := by decide +kernel
theorem dX12_begins_105 : decode cX12_begins 105 = .ok (.iconst (-1), 1) := by decide +kernel
theorem dX12_begins_106 : decode cX12_begins 106 = .ok (.iastore, 1) := by decide +kernel
theorem dX12_begins_107 : decode cX12_begins 107 = .ok (.iinc 2 1, 3) := by decide +kernel
theorem dX12_begins_110 : decode cX12_begins 110 = .ok (.goto (-40), 3) := by decide +kernel
theorem dX12_begins_113 : decode cX12_begins 113 = .ok (.iinc 1 1, 3) := by decide +kernel
theorem dX12_begins_116 : decode cX12_begins 116 = .ok (.goto (-92), 3) := by decide +kernel
theorem dX12_begins_119 : decode cX12_begins 119 = .ok (.aload_n 0, 1) := by decide +kernel
theorem dX12_begins_120 : decode cX12_begins 120 = .ok (.iconst 0, 1) := by decide +kernel
theorem dX12_begins_121 : decode cX12_begins 121 = .ok (.putfield 104, 3) := by decide +kernel
theorem dX12_begins_124 : decode cX12_begins 124 = .ok (.aload_n 0, 1) := by decide +kernel
theorem dX12_begins_125 : decode cX12_begins 125 = .ok (.iconst 0, 1) := by decide +kernel
theorem dX12_begins_126 : decode cX12_begins 126 = .ok (.putfield 107, 3) := by decide +kernel
theorem dX12_begins_129 : decode cX12_begins 129 = .ok (.aload_n 0, 1) := by decide +kernel
theorem dX12_begins_130 : decode cX12_begins 130 = .ok (.iconst 0, 1) := by decide +kernel
theorem dX12_begins_131 : decode cX12_begins 131 = .ok (.putfield 110, 3) := by decide +kernel
theorem dX12_begins_134 : decode cX12_begins 134 = .ok (.aload_n 0, 1) := by decide +kernel
theorem dX12_begins_135 : decode cX12_begins 135 = .ok (.iconst 0, 1) := by decide +kernel
theorem dX12_begins_136 : decode cX12_begins 136 = .ok (.putfield 113, 3) := by decide +kernel
theorem dX12_begins_139 : decode cX12_begins 139 = .ok (.return_, 1) := by decide +kernel
theorem dX12_group_0 : decode cX12_group 0 = .ok (.aload_n 0, 1) := by decide +kernel
theorem dX12_group_1 : decode cX12_group 1 = .ok (.iconst 0, 1) := by decide +kernel
theorem dX12_group_2 : decode cX12_group 2 = .ok (.putfield 97, 3) := by decide +kernel
theorem dX12_group_5 : decode cX12_group 5 = .ok (.iload_n 1, 1) := by decide +kernel
theorem dX12_group_6 : decode cX12_group 6 = .ok (.iconst 2, 1) := by decide +kernel
theorem dX12_group_7 : decode cX12_group 7 = .ok (.bipush 8, 2) := by decide +kernel
theorem dX12_group_9 : decode cX12_group 9 = .ok (.invokestatic 116, 3) := by decide +kernel
theorem dX12_group_12 : decode cX12_group 12 = .ok (.ifCond .eq 41, 3) := by decide +kernel
theorem dX12_group_15 : decode cX12_group 15 = .ok (.iload_n 2, 1) := by decide +kernel
theorem dX12_group_16 : decode cX12_group 16 = .ok (.iconst 1, 1) := by decide +kernel
theorem dX12_group_17 : decode cX12_group 17 = .ok (.iload_n 1, 1) := by decide +kernel
theorem dX12_group_18 : decode cX12_group 18 = .ok (.iconst 1, 1) := by decide +kernel
theorem dX12_group_19 : decode cX12_group 19 = .ok (.isub, 1) := by decide +kernel
theorem dX12_group_20 : decode cX12_group 20 = .ok (.invokestatic 116, 3) := by decide +kernel
theorem dX12_group_23 : decode cX12_group 23 = .ok (.ifCond .eq 30, 3) := by decide +kernel
theorem dX12_group_26 : decode cX12_group 26 = .ok (.iload_n 3, 1) := by decide +kernel
theorem dX12_group_27 : decode cX12_group 27 = .ok (.iconst 1, 1) := by decide +kernel
theorem dX12_group_28 : decode cX12_group 28 = .ok (.iload_n 2, 1) := by decide +kernel
theorem dX12_group_29 : decode cX12_group 29 = .ok (.invokestatic 116, 3) := by decide +kernel
theorem dX12_group_32 : decode cX12_group 32 = .ok (.ifCond .eq 21, 3) := by decide +kernel
theorem dX12_group_35 : decode cX12_group 35 = .ok (.iconst 2, 1) := by decide +kernel
theorem dX12_group_36 : decode cX12_group 36 = .ok (.iload_n 3, 1) := by decide +kernel
theorem dX12_group_37 : decode cX12_group 37 = .ok (.imul, 1) := by decide +kernel
theorem dX12_group_38 : decode cX12_group 38 = .ok (.iload_n 2, 1) := by decide +kernel
theorem dX12_group_39 : decode cX12_group 39 = .ok (.if_icmp .le 14, 3) := by decide +kernel
theorem dX12_group_42 : decode cX12_group 42 = .ok (.iload 4, 2) := by decide +kernel
theorem dX12_group_44 : decode cX12_group 44 = .ok (.iconst 1, 1) := by decide +kernel
theorem dX12_group_45 : decode cX12_group 45 = .ok (.bipush 15, 2) := by decide +kernel
theorem dX12_group_47 : decode cX12_group 47 = .ok (.invokestatic 116, 3) := by decide +kernel
theorem dX12_group_50 : decode cX12_group 50 = .ok (.ifCond .ne 5, 3) := by decide +kernel
theorem dX12_group_53 : decode cX12_group 53 = .ok (.iconst 0, 1) := by decide +kernel
theorem dX12_group_54 : decode cX12_group 54 = .ok (.ireturn, 1) := by decide +kernel
theorem dX12_group_55 : decode cX12_group 55 = .ok (.aload_n 0, 1) := by decide +kernel
theorem dX12_group_56 : decode cX12_group 56 = .ok (.iload_n 1, 1) := by decide +kernel
theorem dX12_group_57 : decode cX12_group 57 = .ok (.putfield 19, 3) := by decide +kernel
theorem dX12_group_60 : decode cX12_group 60 = .ok (.aload_n 0, 1) := by decide +kernel
theorem dX12_group_61 : decode cX12_group 61 = .ok (.iload_n 2, 1) := by decide +kernel
theorem dX12_group_62 : decode cX12_group 62 = .ok (.putfield 23, 3) := by decide +kernel
theorem dX12_group_65 : decode cX12_group 65 = .ok (.aload_n 0, 1) := by decide +kernel
theorem dX12_group_66 : decode cX12_group 66 = .ok (.iload_n 3, 1) := by decide +kernel
theorem dX12_group_67 : decode cX12_group 67 = .ok (.putfield 26, 3) := by decide +kernel
theorem dX12_group_70 : decode cX12_group 70 = .ok (.aload_n 0, 1) := by decide +kernel
theorem dX12_group_71 : decode cX12_group 71 = .ok (.iload 4, 2) := by decide +kernel
theorem dX12_group_73 : decode cX12_group 73 = .ok (.putfield 29, 3) := by decide +kernel
theorem dX12_group_76 : decode cX12_group 76 = .ok (.aload_n 0, 1) := by decide +kernel
theorem dX12_group_77 : decode cX12_group 77 = .ok (.getfield 32, 3) := by decide +kernel
theorem dX12_group_80 : decode cX12_group 80 = .ok (.iload 4, 2) := by decide +kernel
theorem dX12_group_82 : decode cX12_group 82 = .ok (.if_icmp .le 9, 3) := by decide +kernel
theorem dX12_group_85 : decode cX12_group 85 = .ok (.aload_n 0, 1) := by decide +kernel
theorem dX12_group_86 : decode cX12_group 86 = .ok (.iload 4, 2) := by decide +kernel
theorem dX12_group_88 : decode cX12_group 88 = .ok (.putfield 32, 3) := by decide +kernel
theorem dX12_group_91 : decode cX12_group 91 = .ok (.aload_n 0, 1) := by decide +kernel
theorem dX12_group_92 : decode cX12_group 92 = .ok (.invokevirtual 94, 3) := by decide +kernel
theorem dX12_group_95 : decode cX12_group 95 = .ok (.iconst 1, 1) := by decide +kernel
theorem dX12_group_96 : decode cX12_group 96 = .ok (.ireturn, 1) := by decide +kernel
theorem dX12_protocol_0 : decode cX12_protocol 0 = .ok (.aload_n 0, 1) := by decide +kernel
theorem dX12_protocol_1 : decode cX12_protocol 1 = .ok (.iconst 0, 1) := by decide +kernel
theorem dX12_protocol_2 : decode cX12_protocol 2 = .ok (.putfield 97, 3) := by decide +kernel
theorem dX12_protocol_5 : decode cX12_protocol 5 = .ok (.iload_n 1, 1) := by decide +kernel
theorem dX12_protocol_6 : decode cX12_protocol 6 = .ok (.iconst 0, 1) := by decide +kernel
theorem dX12_protocol_7 : decode cX12_protocol 7 = .ok (.iconst 2, 1) := by decide +kernel
theorem dX12_protocol_8 : decode cX12_protocol 8 = .ok (.invokestatic 116, 3) := by decide +kernel
theorem dX12_protocol_11 : decode cX12_protocol 11 = .ok (.ifCond .ne 5, 3) := by decide +kernel
theorem dX12_protocol_14 : decode cX12_protocol 14 = .ok (.iconst (-1), 1) := by decide +kernel
theorem dX12_protocol_15 : decode cX12_protocol 15 = .ok (.ireturn, 1) := by decide +kernel
theorem dX12_protocol_16 : decode cX12_protocol 16 = .ok (.aload_n 0, 1) := by decide +kernel
theorem dX12_protocol_17 : decode cX12_protocol 17 = .ok (.getfield 35, 3) := by decide +kernel
theorem dX12_protocol_20 : decode cX12_protocol 20 = .ok (.istore_n 2, 1) := by decide +kernel
theorem dX12_protocol_21 : decode cX12_protocol 21 = .ok (.aload_n 0, 1) := by decide +kernel
theorem dX12_protocol_22 : decode cX12_protocol 22 = .ok (.iload_n 1, 1) := by decide +kernel
theorem dX12_protocol_23 : decode cX12_protocol 23 = .ok (.putfield 35, 3) := by decide +kernel
theorem dX12_protocol_26 : decode cX12_protocol 26 = .ok (.iload_n 2, 1) := by decide +kernel
theorem dX12_protocol_27 : decode cX12_protocol 27 = .ok (.ireturn, 1) := by decide +kernel
theorem dX12_early_0 : decode cX12_early 0 = .ok (.aload_n 0, 1) := by decide +kernel
theorem dX12_early_1 : decode cX12_early 1 = .ok (.iconst 0, 1) := by decide +kernel
theorem dX12_early_2 : decode cX12_early 2 = .ok (.putfield 97, 3) := by decide +kernel
theorem dX12_early_5 : decode cX12_early 5 = .ok (.iload_n 1, 1) := by decide +kernel
theorem dX12_early_6 : decode cX12_early 6 = .ok (.iconst 1, 1) := by decide +kernel
theorem dX12_early_7 : decode cX12_early 7 = .ok (.aload_n 0, 1) := by decide +kernel
theorem dX12_early_8 : decode cX12_early 8 = .ok (.getfield 29, 3) := by decide +kernel
theorem dX12_early_11 : decode cX12_early 11 = .ok (.invokestatic 116, 3) := by decide +kernel
theorem dX12_early_14 : decode cX12_early 14 = .ok (.ifCond .ne 5, 3) := by decide +kernel
theorem dX12_early_17 : decode cX12_early 17 = .ok (.iconst (-1), 1) := by decide +kernel
theorem dX12_early_18 : decode cX12_early 18 = .ok (.ireturn, 1) := by decide +kernel
theorem dX12_early_19 : decode cX12_early 19 = .ok (.aload_n 0, 1) := by decide +kernel
theorem dX12_early_20 : decode cX12_early 20 = .ok (.getfield 32, 3) := by decide +kernel
theorem dX12_early_23 : decode cX12_early 23 = .ok (.istore_n 2, 1) := by decide +kernel
theorem dX12_early_24 : decode cX12_early 24 = .ok (.aload_n 0, 1) := by decide +kernel
theorem dX12_early_25 : decode cX12_early 25 = .ok (.iload_n 1, 1) := by decide +kernel
theorem dX12_early_26 : decode cX12_early 26 = .ok (.putfield 32, 3) := by decide +kernel
theorem dX12_early_29 : decode cX12_early 29 = .ok (.iload_n 2, 1) := by decide +kernel
theorem dX12_early_30 : decode cX12_early 30 = .ok (.ireturn, 1) := by decide +kernel
theorem dX12_isNode_0 : decode cX12_isNode 0 = .ok (.iload_n 1, 1) := by decide +kernel
theorem dX12_isNode_1 : decode cX12_isNode 1 = .ok (.iconst 0, 1) := by decide +kernel
theorem dX12_isNode_2 : decode cX12_isNode 2 = .ok (.aload_n 0, 1) := by decide +kernel
theorem dX12_isNode_3 : decode cX12_isNode 3 = .ok (.getfield 19, 3) := by decide +kernel
theorem dX12_isNode_6 : decode cX12_isNode 6 = .ok (.iconst 1, 1) := by decide +kernel
theorem dX12_isNode_7 : decode cX12_isNode 7 = .ok (.isub, 1) := by decide +kernel
theorem dX12_isNode_8 : decode cX12_isNode 8 = .ok (.invokestatic 116, 3) := by decide +kernel
theorem dX12_isNode_11 : decode cX12_isNode 11 = .ok (.ireturn, 1) := by decide +kernel
theorem dX12_keeps_0 : decode cX12_keeps 0 = .ok (.aload_n 0, 1) := by decide +kernel
theorem dX12_keeps_1 : decode cX12_keeps 1 = .ok (.getfield 104, 3) := by decide +kernel
theorem dX12_keeps_4 : decode cX12_keeps 4 = .ok (.bipush 8, 2) := by decide +kernel
theorem dX12_keeps_6 : decode cX12_keeps 6 = .ok (.if_icmp .ne 44, 3) := by decide +kernel
theorem dX12_keeps_9 : decode cX12_keeps 9 = .ok (.iconst 0, 1) := by decide +kernel
theorem dX12_keeps_10 : decode cX12_keeps 10 = .ok (.istore_n 1, 1) := by decide +kernel
theorem dX12_keeps_11 : decode cX12_keeps 11 = .ok (.iload_n 1, 1) := by decide +kernel
theorem dX12_keeps_12 : decode cX12_keeps 12 = .ok (.sipush 2016, 3) := by decide +kernel
theorem dX12_keeps_15 : decode cX12_keeps 15 = .ok (.if_icmp .ge 25, 3) := by decide +kernel
theorem dX12_keeps_18 : decode cX12_keeps 18 = .ok (.aload_n 0, 1) := by decide +kernel
theorem dX12_keeps_19 : decode cX12_keeps 19 = .ok (.getfield 13, 3) := by decide +kernel
theorem dX12_keeps_22 : decode cX12_keeps 22 = .ok (.iload_n 1, 1) := by decide +kernel
theorem dX12_keeps_23 : decode cX12_keeps 23 = .ok (.aload_n 0, 1) := by decide +kernel
theorem dX12_keeps_24 : decode cX12_keeps 24 = .ok (.getfield 13, 3) := by decide +kernel
theorem dX12_keeps_27 : decode cX12_keeps 27 = .ok (.iload_n 1, 1) := by decide +kernel
theorem dX12_keeps_28 : decode cX12_keeps 28 = .ok (.sipush 288, 3) := by decide +kernel
theorem dX12_keeps_31 : decode cX12_keeps 31 = .ok (.iadd, 1) := by decide +kernel
theorem dX12_keeps_32 : decode cX12_keeps 32 = .ok (.iaload, 1) := by decide +kernel
theorem dX12_keeps_33 : decode cX12_keeps 33 = .ok (.iastore, 1) := by decide +kernel
theorem dX12_keeps_34 : decode cX12_keeps 34 = .ok (.iinc 1 1, 3) := by decide +kernel
theorem dX12_keeps_37 : decode cX12_keeps 37 = .ok (.goto (-26), 3) := by decide +kernel
theorem dX12_keeps_40 : decode cX12_keeps 40 = .ok (.aload_n 0, 1) := by decide +kernel
theorem dX12_keeps_41 : decode cX12_keeps 41 = .ok (.dup, 1) := by decide +kernel
theorem dX12_keeps_42 : decode cX12_keeps 42 = .ok (.getfield 104, 3) := by decide +kernel
theorem dX12_keeps_45 : decode cX12_keeps 45 = .ok (.iconst 1, 1) := by decide +kernel
theorem dX12_keeps_46 : decode cX12_keeps 46 = .ok (.isub, 1) := by decide +kernel
theorem dX12_keeps_47 : decode cX12_keeps 47 = .ok (.putfield 104, 3) := by decide +kernel
theorem dX12_keeps_50 : decode cX12_keeps 50 = .ok (.iconst 0, 1) := by decide +kernel
theorem dX12_keeps_51 : decode cX12_keeps 51 = .ok (.istore_n 1, 1) := by decide +kernel
theorem dX12_keeps_52 : decode cX12_keeps 52 = .ok (.iload_n 1, 1) := by decide +kernel
theorem dX12_keeps_53 : decode cX12_keeps 53 = .ok (.sipush 288, 3) := by decide +kernel
theorem dX12_keeps_56 : decode cX12_keeps 56 = .ok (.if_icmp .ge 30, 3) := by decide +kernel
theorem dX12_keeps_59 : decode cX12_keeps 59 = .ok (.aload_n 0, 1) := by decide +kernel
theorem dX12_keeps_60 : decode cX12_keeps 60 = .ok (.getfield 13, 3) := by decide +kernel
theorem dX12_keeps_63 : decode cX12_keeps 63 = .ok (.sipush 288, 3) := by decide +kernel
theorem dX12_keeps_66 : decode cX12_keeps 66 = .ok (.aload_n 0, 1) := by decide +kernel
theorem dX12_keeps_67 : decode cX12_keeps 67 = .ok (.getfield 104, 3) := by decide +kernel
theorem dX12_keeps_70 : decode cX12_keeps 70 = .ok (.imul, 1) := by decide +kernel
theorem dX12_keeps_71 : decode cX12_keeps 71 = .ok (.iload_n 1, 1) := by decide +kernel
theorem dX12_keeps_72 : decode cX12_keeps 72 = .ok (.iadd, 1) := by decide +kernel
theorem dX12_keeps_73 : decode cX12_keeps 73 = .ok (.aload_n 0, 1) := by decide +kernel
theorem dX12_keeps_74 : decode cX12_keeps 74 = .ok (.getfield 7, 3) := by decide +kernel
theorem dX12_keeps_77 : decode cX12_keeps 77 = .ok (.iload_n 1, 1) := by decide +kernel
theorem dX12_keeps_78 : decode cX12_keeps 78 = .ok (.iaload, 1) := by decide +kernel
theorem dX12_keeps_79 : decode cX12_keeps 79 = .ok (.iastore, 1) := by decide +kernel
theorem dX12_keeps_80 : decode cX12_keeps 80 = .ok (.iinc 1 1, 3) := by decide +kernel
theorem dX12_keeps_83 : decode cX12_keeps 83 = .ok (.goto (-31), 3) := by decide +kernel
theorem dX12_keeps_86 : decode cX12_keeps 86 = .ok (.aload_n 0, 1) := by decide +kernel
theorem dX12_keeps_87 : decode cX12_keeps 87 = .ok (.dup, 1) := by decide +kernel
theorem dX12_keeps_88 : decode cX12_keeps 88 = .ok (.getfield 104, 3) := by decide +kernel
theorem dX12_keeps_91 : decode cX12_keeps 91 = .ok (.iconst 1, 1) := by decide +kernel
theorem dX12_keeps_92 : decode cX12_keeps 92 = .ok (.iadd, 1) := by decide +kernel
theorem dX12_keeps_93 : decode cX12_keeps 93 = .ok (.putfield 104, 3) := by decide +kernel
theorem dX12_keeps_96 : decode cX12_keeps 96 = .ok (.return_, 1) := by decide +kernel
theorem dX12_back_0 : decode cX12_back 0 = .ok (.aload_n 0, 1) := by decide +kernel
theorem dX12_back_1 : decode cX12_back 1 = .ok (.iconst 0, 1) := by decide +kernel
theorem dX12_back_2 : decode cX12_back 2 = .ok (.putfield 97, 3) := by decide +kernel
theorem dX12_back_5 : decode cX12_back 5 = .ok (.aload_n 0, 1) := by decide +kernel
theorem dX12_back_6 : decode cX12_back 6 = .ok (.getfield 104, 3) := by decide +kernel
theorem dX12_back_9 : decode cX12_back 9 = .ok (.ifCond .ne 5, 3) := by decide +kernel
theorem dX12_back_12 : decode cX12_back 12 = .ok (.iconst 0, 1) := by decide +kernel
theorem dX12_back_13 : decode cX12_back 13 = .ok (.ireturn, 1) := by decide +kernel
theorem dX12_back_14 : decode cX12_back 14 = .ok (.aload_n 0, 1) := by decide +kernel
theorem dX12_back_15 : decode cX12_back 15 = .ok (.dup, 1) := by decide +kernel
theorem dX12_back_16 : decode cX12_back 16 = .ok (.getfield 104, 3) := by decide +kernel
theorem dX12_back_19 : decode cX12_back 19 = .ok (.iconst 1, 1) := by decide +kernel
theorem dX12_back_20 : decode cX12_back 20 = .ok (.isub, 1) := by decide +kernel
theorem dX12_back_21 : decode cX12_back 21 = .ok (.putfield 104, 3) := by decide +kernel
theorem dX12_back_24 : decode cX12_back 24 = .ok (.iconst 0, 1) := by decide +kernel
theorem dX12_back_25 : decode cX12_back 25 = .ok (.istore_n 1, 1) := by decide +kernel
theorem dX12_back_26 : decode cX12_back 26 = .ok (.iload_n 1, 1) := by decide +kernel
theorem dX12_back_27 : decode cX12_back 27 = .ok (.sipush 288, 3) := by decide +kernel
theorem dX12_back_30 : decode cX12_back 30 = .ok (.if_icmp .ge 30, 3) := by decide +kernel
theorem dX12_back_33 : decode cX12_back 33 = .ok (.aload_n 0, 1) := by decide +kernel
theorem dX12_back_34 : decode cX12_back 34 = .ok (.getfield 7, 3) := by decide +kernel
theorem dX12_back_37 : decode cX12_back 37 = .ok (.iload_n 1, 1) := by decide +kernel
theorem dX12_back_38 : decode cX12_back 38 = .ok (.aload_n 0, 1) := by decide +kernel
theorem dX12_back_39 : decode cX12_back 39 = .ok (.getfield 13, 3) := by decide +kernel
theorem dX12_back_42 : decode cX12_back 42 = .ok (.sipush 288, 3) := by decide +kernel
theorem dX12_back_45 : decode cX12_back 45 = .ok (.aload_n 0, 1) := by decide +kernel
theorem dX12_back_46 : decode cX12_back 46 = .ok (.getfield 104, 3) := by decide +kernel
theorem dX12_back_49 : decode cX12_back 49 = .ok (.imul, 1) := by decide +kernel
theorem dX12_back_50 : decode cX12_back 50 = .ok (.iload_n 1, 1) := by decide +kernel
theorem dX12_back_51 : decode cX12_back 51 = .ok (.iadd, 1) := by decide +kernel
theorem dX12_back_52 : decode cX12_back 52 = .ok (.iaload, 1) := by decide +kernel
theorem dX12_back_53 : decode cX12_back 53 = .ok (.iastore, 1) := by decide +kernel
theorem dX12_back_54 : decode cX12_back 54 = .ok (.iinc 1 1, 3) := by decide +kernel
theorem dX12_back_57 : decode cX12_back 57 = .ok (.goto (-31), 3) := by decide +kernel
theorem dX12_back_60 : decode cX12_back 60 = .ok (.iconst 1, 1) := by decide +kernel
theorem dX12_back_61 : decode cX12_back 61 = .ok (.ireturn, 1) := by decide +kernel
theorem dX12_kind_0 : decode cX12_kind 0 = .ok (.aload_n 0, 1) := by decide +kernel
theorem dX12_kind_1 : decode cX12_kind 1 = .ok (.iconst 0, 1) := by decide +kernel
theorem dX12_kind_2 : decode cX12_kind 2 = .ok (.putfield 97, 3) := by decide +kernel
theorem dX12_kind_5 : decode cX12_kind 5 = .ok (.aload_n 0, 1) := by decide +kernel
theorem dX12_kind_6 : decode cX12_kind 6 = .ok (.iload_n 1, 1) := by decide +kernel
theorem dX12_kind_7 : decode cX12_kind 7 = .ok (.invokevirtual 120, 3) := by decide +kernel
theorem dX12_kind_10 : decode cX12_kind 10 = .ok (.ifCond .eq 12, 3) := by decide +kernel
theorem dX12_kind_13 : decode cX12_kind 13 = .ok (.iload_n 2, 1) := by decide +kernel
theorem dX12_kind_14 : decode cX12_kind 14 = .ok (.iconst 0, 1) := by decide +kernel
theorem dX12_kind_15 : decode cX12_kind 15 = .ok (.iconst 4, 1) := by decide +kernel
theorem dX12_kind_16 : decode cX12_kind 16 = .ok (.invokestatic 116, 3) := by decide +kernel
theorem dX12_kind_19 : decode cX12_kind 19 = .ok (.ifCond .ne 5, 3) := by decide +kernel
theorem dX12_kind_22 : decode cX12_kind 22 = .ok (.iconst (-1), 1) := by decide +kernel
theorem dX12_kind_23 : decode cX12_kind 23 = .ok (.ireturn, 1) := by decide +kernel
theorem dX12_kind_24 : decode cX12_kind 24 = .ok (.aload_n 0, 1) := by decide +kernel
theorem dX12_kind_25 : decode cX12_kind 25 = .ok (.invokevirtual 124, 3) := by decide +kernel
theorem dX12_kind_28 : decode cX12_kind 28 = .ok (.aload_n 0, 1) := by decide +kernel
theorem dX12_kind_29 : decode cX12_kind 29 = .ok (.getfield 7, 3) := by decide +kernel
theorem dX12_kind_32 : decode cX12_kind 32 = .ok (.bipush 48, 2) := by decide +kernel
theorem dX12_kind_34 : decode cX12_kind 34 = .ok (.iload_n 1, 1) := by decide +kernel
theorem dX12_kind_35 : decode cX12_kind 35 = .ok (.iadd, 1) := by decide +kernel
theorem dX12_kind_36 : decode cX12_kind 36 = .ok (.iaload, 1) := by decide +kernel
theorem dX12_kind_37 : decode cX12_kind 37 = .ok (.istore_n 3, 1) := by decide +kernel
theorem dX12_kind_38 : decode cX12_kind 38 = .ok (.aload_n 0, 1) := by decide +kernel
theorem dX12_kind_39 : decode cX12_kind 39 = .ok (.getfield 7, 3) := by decide +kernel
theorem dX12_kind_42 : decode cX12_kind 42 = .ok (.bipush 48, 2) := by decide +kernel
theorem dX12_kind_44 : decode cX12_kind 44 = .ok (.iload_n 1, 1) := by decide +kernel
theorem dX12_kind_45 : decode cX12_kind 45 = .ok (.iadd, 1) := by decide +kernel
theorem dX12_kind_46 : decode cX12_kind 46 = .ok (.iload_n 2, 1) := by decide +kernel
theorem dX12_kind_47 : decode cX12_kind 47 = .ok (.iastore, 1) := by decide +kernel
theorem dX12_kind_48 : decode cX12_kind 48 = .ok (.iload_n 3, 1) := by decide +kernel
theorem dX12_kind_49 : decode cX12_kind 49 = .ok (.ireturn, 1) := by decide +kernel
theorem dX12_link_0 : decode cX12_link 0 = .ok (.aload_n 0, 1) := by decide +kernel
theorem dX12_link_1 : decode cX12_link 1 = .ok (.iconst 0, 1) := by decide +kernel
theorem dX12_link_2 : decode cX12_link 2 = .ok (.putfield 97, 3) := by decide +kernel
theorem dX12_link_5 : decode cX12_link 5 = .ok (.aload_n 0, 1) := by decide +kernel
theorem dX12_link_6 : decode cX12_link 6 = .ok (.iload_n 1, 1) := by decide +kernel
theorem dX12_link_7 : decode cX12_link 7 = .ok (.invokevirtual 120, 3) := by decide +kernel
theorem dX12_link_10 : decode cX12_link 10 = .ok (.ifCond .eq 33, 3) := by decide +kernel
theorem dX12_link_13 : decode cX12_link 13 = .ok (.aload_n 0, 1) := by decide +kernel
theorem dX12_link_14 : decode cX12_link 14 = .ok (.iload_n 2, 1) := by decide +kernel
theorem dX12_link_15 : decode cX12_link 15 = .ok (.invokevirtual 120, 3) := by decide +kernel
theorem dX12_link_18 : decode cX12_link 18 = .ok (.ifCond .eq 25, 3) := by decide +kernel
theorem dX12_link_21 : decode cX12_link 21 = .ok (.iload_n 1, 1) := by decide +kernel
theorem dX12_link_22 : decode cX12_link 22 = .ok (.iload_n 2, 1) := by decide +kernel
theorem dX12_link_23 : decode cX12_link 23 = .ok (.if_icmp .eq 20, 3) := by decide +kernel
theorem dX12_link_26 : decode cX12_link 26 = .ok (.aload_n 0, 1) := by decide +kernel
theorem dX12_link_27 : decode cX12_link 27 = .ok (.getfield 7, 3) := by decide +kernel
theorem dX12_link_30 : decode cX12_link 30 = .ok (.bipush 56, 2) := by decide +kernel
theorem dX12_link_32 : decode cX12_link 32 = .ok (.iload_n 1, 1) := by decide +kernel
theorem dX12_link_33 : decode cX12_link 33 = .ok (.iadd, 1) := by decide +kernel
theorem dX12_link_34 : decode cX12_link 34 = .ok (.iaload, 1) := by decide +kernel
theorem dX12_link_35 : decode cX12_link 35 = .ok (.iload_n 2, 1) := by decide +kernel
theorem dX12_link_36 : decode cX12_link 36 = .ok (.invokestatic 100, 3) := by decide +kernel
theorem dX12_link_39 : decode cX12_link 39 = .ok (.iload_n 3, 1) := by decide +kernel
theorem dX12_link_40 : decode cX12_link 40 = .ok (.if_icmp .ne 5, 3) := by decide +kernel
theorem dX12_link_43 : decode cX12_link 43 = .ok (.iconst 0, 1) := by decide +kernel
theorem dX12_link_44 : decode cX12_link 44 = .ok (.ireturn, 1) := by decide +kernel
theorem dX12_link_45 : decode cX12_link 45 = .ok (.aload_n 0, 1) := by decide +kernel
theorem dX12_link_46 : decode cX12_link 46 = .ok (.invokevirtual 124, 3) := by decide +kernel
theorem dX12_link_49 : decode cX12_link 49 = .ok (.aload_n 0, 1) := by decide +kernel
theorem dX12_link_50 : decode cX12_link 50 = .ok (.getfield 7, 3) := by decide +kernel
theorem dX12_link_53 : decode cX12_link 53 = .ok (.bipush 56, 2) := by decide +kernel
theorem dX12_link_55 : decode cX12_link 55 = .ok (.iload_n 1, 1) := by decide +kernel
theorem dX12_link_56 : decode cX12_link 56 = .ok (.iadd, 1) := by decide +kernel
theorem dX12_link_57 : decode cX12_link 57 = .ok (.dup2, 1) := by decide +kernel
theorem dX12_link_58 : decode cX12_link 58 = .ok (.iaload, 1) := by decide +kernel
theorem dX12_link_59 : decode cX12_link 59 = .ok (.iconst 1, 1) := by decide +kernel
theorem dX12_link_60 : decode cX12_link 60 = .ok (.iload_n 2, 1) := by decide +kernel
theorem dX12_link_61 : decode cX12_link 61 = .ok (.ishl, 1) := by decide +kernel
theorem dX12_link_62 : decode cX12_link 62 = .ok (.ixor, 1) := by decide +kernel
theorem dX12_link_63 : decode cX12_link 63 = .ok (.iastore, 1) := by decide +kernel
theorem dX12_link_64 : decode cX12_link 64 = .ok (.aload_n 0, 1) := by decide +kernel
theorem dX12_link_65 : decode cX12_link 65 = .ok (.getfield 7, 3) := by decide +kernel
theorem dX12_link_68 : decode cX12_link 68 = .ok (.bipush 56, 2) := by decide +kernel
theorem dX12_link_70 : decode cX12_link 70 = .ok (.iload_n 2, 1) := by decide +kernel
theorem dX12_link_71 : decode cX12_link 71 = .ok (.iadd, 1) := by decide +kernel
theorem dX12_link_72 : decode cX12_link 72 = .ok (.dup2, 1) := by decide +kernel
theorem dX12_link_73 : decode cX12_link 73 = .ok (.iaload, 1) := by decide +kernel
theorem dX12_link_74 : decode cX12_link 74 = .ok (.iconst 1, 1) := by decide +kernel
theorem dX12_link_75 : decode cX12_link 75 = .ok (.iload_n 1, 1) := by decide +kernel
theorem dX12_link_76 : decode cX12_link 76 = .ok (.ishl, 1) := by decide +kernel
theorem dX12_link_77 : decode cX12_link 77 = .ok (.ixor, 1) := by decide +kernel
theorem dX12_link_78 : decode cX12_link 78 = .ok (.iastore, 1) := by decide +kernel
theorem dX12_link_79 : decode cX12_link 79 = .ok (.iconst 1, 1) := by decide +kernel
theorem dX12_link_80 : decode cX12_link 80 = .ok (.ireturn, 1) := by decide +kernel
theorem dX12_colour_0 : decode cX12_colour 0 = .ok (.aload_n 0, 1) := by decide +kernel
theorem dX12_colour_1 : decode cX12_colour 1 = .ok (.iconst 0, 1) := by decide +kernel
theorem dX12_colour_2 : decode cX12_colour 2 = .ok (.putfield 97, 3) := by decide +kernel
theorem dX12_colour_5 : decode cX12_colour 5 = .ok (.aload_n 0, 1) := by decide +kernel
theorem dX12_colour_6 : decode cX12_colour 6 = .ok (.iload_n 1, 1) := by decide +kernel
theorem dX12_colour_7 : decode cX12_colour 7 = .ok (.invokevirtual 120, 3) := by decide +kernel
theorem dX12_colour_10 : decode cX12_colour 10 = .ok (.ifCond .eq 12, 3) := by decide +kernel
theorem dX12_colour_13 : decode cX12_colour 13 = .ok (.iload_n 2, 1) := by decide +kernel
theorem dX12_colour_14 : decode cX12_colour 14 = .ok (.iconst (-1), 1) := by decide +kernel
theorem dX12_colour_15 : decode cX12_colour 15 = .ok (.iconst 1, 1) := by decide +kernel
theorem dX12_colour_16 : decode cX12_colour 16 = .ok (.invokestatic 116, 3) := by decide +kernel
theorem dX12_colour_19 : decode cX12_colour 19 = .ok (.ifCond .ne 5, 3) := by decide +kernel
theorem dX12_colour_22 : decode cX12_colour 22 = .ok (.iconst 0, 1) := by decide +kernel
theorem dX12_colour_23 : decode cX12_colour 23 = .ok (.ireturn, 1) := by decide +kernel
theorem dX12_colour_24 : decode cX12_colour 24 = .ok (.aload_n 0, 1) := by decide +kernel
theorem dX12_colour_25 : decode cX12_colour 25 = .ok (.invokevirtual 124, 3) := by decide +kernel
theorem dX12_colour_28 : decode cX12_colour 28 = .ok (.aload_n 0, 1) := by decide +kernel
theorem dX12_colour_29 : decode cX12_colour 29 = .ok (.getfield 7, 3) := by decide +kernel
theorem dX12_colour_32 : decode cX12_colour 32 = .ok (.iconst 0, 1) := by decide +kernel
theorem dX12_colour_33 : decode cX12_colour 33 = .ok (.iload_n 1, 1) := by decide +kernel
theorem dX12_colour_34 : decode cX12_colour 34 = .ok (.iadd, 1) := by decide +kernel
theorem dX12_colour_35 : decode cX12_colour 35 = .ok (.iload_n 2, 1) := by decide +kernel
theorem dX12_colour_36 : decode cX12_colour 36 = .ok (.iastore, 1) := by decide +kernel
theorem dX12_colour_37 : decode cX12_colour 37 = .ok (.aload_n 0, 1) := by decide +kernel
theorem dX12_colour_38 : decode cX12_colour 38 = .ok (.getfield 7, 3) := by decide +kernel
theorem dX12_colour_41 : decode cX12_colour 41 = .ok (.bipush 8, 2) := by decide +kernel
theorem dX12_colour_43 : decode cX12_colour 43 = .ok (.iload_n 1, 1) := by decide +kernel
theorem dX12_colour_44 : decode cX12_colour 44 = .ok (.iadd, 1) := by decide +kernel
theorem dX12_colour_45 : decode cX12_colour 45 = .ok (.iconst (-1), 1) := by decide +kernel
theorem dX12_colour_46 : decode cX12_colour 46 = .ok (.iastore, 1) := by decide +kernel
theorem dX12_colour_47 : decode cX12_colour 47 = .ok (.aload_n 0, 1) := by decide +kernel
theorem dX12_colour_48 : decode cX12_colour 48 = .ok (.getfield 7, 3) := by decide +kernel
theorem dX12_colour_51 : decode cX12_colour 51 = .ok (.bipush 16, 2) := by decide +kernel
theorem dX12_colour_53 : decode cX12_colour 53 = .ok (.iload_n 1, 1) := by decide +kernel
theorem dX12_colour_54 : decode cX12_colour 54 = .ok (.iadd, 1) := by decide +kernel
theorem dX12_colour_55 : decode cX12_colour 55 = .ok (.iconst 0, 1) := by decide +kernel
theorem dX12_colour_56 : decode cX12_colour 56 = .ok (.iastore, 1) := by decide +kernel
theorem dX12_colour_57 : decode cX12_colour 57 = .ok (.aload_n 0, 1) := by decide +kernel
theorem dX12_colour_58 : decode cX12_colour 58 = .ok (.getfield 7, 3) := by decide +kernel
theorem dX12_colour_61 : decode cX12_colour 61 = .ok (.bipush 24, 2) := by decide +kernel
theorem dX12_colour_63 : decode cX12_colour 63 = .ok (.iload_n 1, 1) := by decide +kernel
theorem dX12_colour_64 : decode cX12_colour 64 = .ok (.iadd, 1) := by decide +kernel
theorem dX12_colour_65 : decode cX12_colour 65 = .ok (.iconst 0, 1) := by decide +kernel
theorem dX12_colour_66 : decode cX12_colour 66 = .ok (.iastore, 1) := by decide +kernel
theorem dX12_colour_67 : decode cX12_colour 67 = .ok (.aload_n 0, 1) := by decide +kernel
theorem dX12_colour_68 : decode cX12_colour 68 = .ok (.getfield 7, 3) := by decide +kernel
theorem dX12_colour_71 : decode cX12_colour 71 = .ok (.bipush 32, 2) := by decide +kernel
theorem dX12_colour_73 : decode cX12_colour 73 = .ok (.iload_n 1, 1) := by decide +kernel
theorem dX12_colour_74 : decode cX12_colour 74 = .ok (.iadd, 1) := by decide +kernel
theorem dX12_colour_75 : decode cX12_colour 75 = .ok (.iconst 0, 1) := by decide +kernel
theorem dX12_colour_76 : decode cX12_colour 76 = .ok (.iastore, 1) := by decide +kernel
theorem dX12_colour_77 : decode cX12_colour 77 = .ok (.aload_n 0, 1) := by decide +kernel
theorem dX12_colour_78 : decode cX12_colour 78 = .ok (.getfield 7, 3) := by decide +kernel
theorem dX12_colour_81 : decode cX12_colour 81 = .ok (.bipush 40, 2) := by decide +kernel
theorem dX12_colour_83 : decode cX12_colour 83 = .ok (.iload_n 1, 1) := by decide +kernel
theorem dX12_colour_84 : decode cX12_colour 84 = .ok (.iadd, 1) := by decide +kernel
theorem dX12_colour_85 : decode cX12_colour 85 = .ok (.iconst 0, 1) := by decide +kernel
theorem dX12_colour_86 : decode cX12_colour 86 = .ok (.iastore, 1) := by decide +kernel
theorem dX12_colour_87 : decode cX12_colour 87 = .ok (.iconst 1, 1) := by decide +kernel
theorem dX12_colour_88 : decode cX12_colour 88 = .ok (.ireturn, 1) := by decide +kernel
theorem dX12_isSample_0 : decode cX12_isSample 0 = .ok (.iload_n 2, 1) := by decide +kernel
theorem dX12_isSample_1 : decode cX12_isSample 1 = .ok (.ifCond .lt 36, 3) := by decide +kernel
theorem dX12_isSample_4 : decode cX12_isSample 4 = .ok (.iload_n 2, 1) := by decide +kernel
theorem dX12_isSample_5 : decode cX12_isSample 5 = .ok (.iconst 1, 1) := by decide +kernel
theorem dX12_isSample_6 : decode cX12_isSample 6 = .ok (.aload_n 0, 1) := by decide +kernel
theorem dX12_isSample_7 : decode cX12_isSample 7 = .ok (.getfield 19, 3) := by decide +kernel
theorem dX12_isSample_10 : decode cX12_isSample 10 = .ok (.ishl, 1) := by decide +kernel
theorem dX12_isSample_11 : decode cX12_isSample 11 = .ok (.if_icmp .ge 26, 3) := by decide +kernel
theorem dX12_isSample_14 : decode cX12_isSample 14 = .ok (.iload_n 2, 1) := by decide +kernel
theorem dX12_isSample_15 : decode cX12_isSample 15 = .ok (.iload_n 1, 1) := by decide +kernel
theorem dX12_isSample_16 : decode cX12_isSample 16 = .ok (.invokestatic 100, 3) := by decide +kernel
theorem dX12_isSample_19 : decode cX12_isSample 19 = .ok (.ifCond .ne 18, 3) := by decide +kernel
theorem dX12_isSample_22 : decode cX12_isSample 22 = .ok (.iload_n 2, 1) := by decide +kernel
theorem dX12_isSample_23 : decode cX12_isSample 23 = .ok (.invokestatic 127, 3) := by decide +kernel
theorem dX12_isSample_26 : decode cX12_isSample 26 = .ok (.aload_n 0, 1) := by decide +kernel
theorem dX12_isSample_27 : decode cX12_isSample 27 = .ok (.getfield 23, 3) := by decide +kernel
theorem dX12_isSample_30 : decode cX12_isSample 30 = .ok (.if_icmp .ne 7, 3) := by decide +kernel
theorem dX12_isSample_33 : decode cX12_isSample 33 = .ok (.iconst 1, 1) := by decide +kernel
theorem dX12_isSample_34 : decode cX12_isSample 34 = .ok (.goto 4, 3) := by decide +kernel
theorem dX12_isSample_37 : decode cX12_isSample 37 = .ok (.iconst 0, 1) := by decide +kernel
theorem dX12_isSample_38 : decode cX12_isSample 38 = .ok (.ireturn, 1) := by decide +kernel
theorem dX12_canAsk_0 : decode cX12_canAsk 0 = .ok (.aload_n 0, 1) := by decide +kernel
theorem dX12_canAsk_1 : decode cX12_canAsk 1 = .ok (.getfield 7, 3) := by decide +kernel
theorem dX12_canAsk_4 : decode cX12_canAsk 4 = .ok (.bipush 48, 2) := by decide +kernel
theorem dX12_canAsk_6 : decode cX12_canAsk 6 = .ok (.iload_n 1, 1) := by decide +kernel
theorem dX12_canAsk_7 : decode cX12_canAsk 7 = .ok (.iadd, 1) := by decide +kernel
theorem dX12_canAsk_8 : decode cX12_canAsk 8 = .ok (.iaload, 1) := by decide +kernel
theorem dX12_canAsk_9 : decode cX12_canAsk 9 = .ok (.ifCond .ne 30, 3) := by decide +kernel
theorem dX12_canAsk_12 : decode cX12_canAsk 12 = .ok (.aload_n 0, 1) := by decide +kernel
theorem dX12_canAsk_13 : decode cX12_canAsk 13 = .ok (.getfield 7, 3) := by decide +kernel
theorem dX12_canAsk_16 : decode cX12_canAsk 16 = .ok (.bipush 40, 2) := by decide +kernel
theorem dX12_canAsk_18 : decode cX12_canAsk 18 = .ok (.iload_n 1, 1) := by decide +kernel
theorem dX12_canAsk_19 : decode cX12_canAsk 19 = .ok (.iadd, 1) := by decide +kernel
theorem dX12_canAsk_20 : decode cX12_canAsk 20 = .ok (.iaload, 1) := by decide +kernel
theorem dX12_canAsk_21 : decode cX12_canAsk 21 = .ok (.ifCond .ne 18, 3) := by decide +kernel
theorem dX12_canAsk_24 : decode cX12_canAsk 24 = .ok (.aload_n 0, 1) := by decide +kernel
theorem dX12_canAsk_25 : decode cX12_canAsk 25 = .ok (.getfield 7, 3) := by decide +kernel
theorem dX12_canAsk_28 : decode cX12_canAsk 28 = .ok (.iconst 0, 1) := by decide +kernel
theorem dX12_canAsk_29 : decode cX12_canAsk 29 = .ok (.iload_n 1, 1) := by decide +kernel
theorem dX12_canAsk_30 : decode cX12_canAsk 30 = .ok (.iadd, 1) := by decide +kernel
theorem dX12_canAsk_31 : decode cX12_canAsk 31 = .ok (.iaload, 1) := by decide +kernel
theorem dX12_canAsk_32 : decode cX12_canAsk 32 = .ok (.ifCond .lt 7, 3) := by decide +kernel
theorem dX12_canAsk_35 : decode cX12_canAsk 35 = .ok (.iconst 1, 1) := by decide +kernel
theorem dX12_canAsk_36 : decode cX12_canAsk 36 = .ok (.goto 4, 3) := by decide +kernel
theorem dX12_canAsk_39 : decode cX12_canAsk 39 = .ok (.iconst 0, 1) := by decide +kernel
theorem dX12_canAsk_40 : decode cX12_canAsk 40 = .ok (.ireturn, 1) := by decide +kernel
theorem dX12_says_0 : decode cX12_says 0 = .ok (.aload_n 0, 1) := by decide +kernel
theorem dX12_says_1 : decode cX12_says 1 = .ok (.getfield 7, 3) := by decide +kernel
theorem dX12_says_4 : decode cX12_says 4 = .ok (.bipush 56, 2) := by decide +kernel
theorem dX12_says_6 : decode cX12_says 6 = .ok (.iload_n 2, 1) := by decide +kernel
theorem dX12_says_7 : decode cX12_says 7 = .ok (.iadd, 1) := by decide +kernel
theorem dX12_says_8 : decode cX12_says 8 = .ok (.iaload, 1) := by decide +kernel
theorem dX12_says_9 : decode cX12_says 9 = .ok (.iload_n 1, 1) := by decide +kernel
theorem dX12_says_10 : decode cX12_says 10 = .ok (.invokestatic 100, 3) := by decide +kernel
theorem dX12_says_13 : decode cX12_says 13 = .ok (.ifCond .ne 5, 3) := by decide +kernel
theorem dX12_says_16 : decode cX12_says 16 = .ok (.iconst (-1), 1) := by decide +kernel
theorem dX12_says_17 : decode cX12_says 17 = .ok (.ireturn, 1) := by decide +kernel
theorem dX12_says_18 : decode cX12_says 18 = .ok (.aload_n 0, 1) := by decide +kernel
theorem dX12_says_19 : decode cX12_says 19 = .ok (.getfield 7, 3) := by decide +kernel
theorem dX12_says_22 : decode cX12_says 22 = .ok (.iconst 0, 1) := by decide +kernel
theorem dX12_says_23 : decode cX12_says 23 = .ok (.iload_n 2, 1) := by decide +kernel
theorem dX12_says_24 : decode cX12_says 24 = .ok (.iadd, 1) := by decide +kernel
theorem dX12_says_25 : decode cX12_says 25 = .ok (.iaload, 1) := by decide +kernel
theorem dX12_says_26 : decode cX12_says 26 = .ok (.istore_n 3, 1) := by decide +kernel
theorem dX12_says_27 : decode cX12_says 27 = .ok (.aload_n 0, 1) := by decide +kernel
theorem dX12_says_28 : decode cX12_says 28 = .ok (.getfield 7, 3) := by decide +kernel
theorem dX12_says_31 : decode cX12_says 31 = .ok (.bipush 48, 2) := by decide +kernel
theorem dX12_says_33 : decode cX12_says 33 = .ok (.iload_n 1, 1) := by decide +kernel
theorem dX12_says_34 : decode cX12_says 34 = .ok (.iadd, 1) := by decide +kernel
theorem dX12_says_35 : decode cX12_says 35 = .ok (.iaload, 1) := by decide +kernel
theorem dX12_says_36 : decode cX12_says 36 = .ok (.istore 4, 2) := by decide +kernel
theorem dX12_says_38 : decode cX12_says 38 = .ok (.iload 4, 2) := by decide +kernel
theorem dX12_says_40 : decode cX12_says 40 = .ok (.ifCond .ne 32, 3) := by decide +kernel
theorem dX12_says_43 : decode cX12_says 43 = .ok (.aload_n 0, 1) := by decide +kernel
theorem dX12_says_44 : decode cX12_says 44 = .ok (.getfield 7, 3) := by decide +kernel
theorem dX12_says_47 : decode cX12_says 47 = .ok (.iconst 0, 1) := by decide +kernel
theorem dX12_says_48 : decode cX12_says 48 = .ok (.iload_n 1, 1) := by decide +kernel
theorem dX12_says_49 : decode cX12_says 49 = .ok (.iadd, 1) := by decide +kernel
theorem dX12_says_50 : decode cX12_says 50 = .ok (.iaload, 1) := by decide +kernel
theorem dX12_says_51 : decode cX12_says 51 = .ok (.ifCond .ge 12, 3) := by decide +kernel
theorem dX12_says_54 : decode cX12_says 54 = .ok (.aload_n 0, 1) := by decide +kernel
theorem dX12_says_55 : decode cX12_says 55 = .ok (.getfield 7, 3) := by decide +kernel
theorem dX12_says_58 : decode cX12_says 58 = .ok (.iconst 0, 1) := by decide +kernel
theorem dX12_says_59 : decode cX12_says 59 = .ok (.iload_n 1, 1) := by decide +kernel
theorem dX12_says_60 : decode cX12_says 60 = .ok (.iadd, 1) := by decide +kernel
theorem dX12_says_61 : decode cX12_says 61 = .ok (.iload_n 3, 1) := by decide +kernel
theorem dX12_says_62 : decode cX12_says 62 = .ok (.iastore, 1) := by decide +kernel
theorem dX12_says_63 : decode cX12_says 63 = .ok (.aload_n 0, 1) := by decide +kernel
theorem dX12_says_64 : decode cX12_says 64 = .ok (.getfield 7, 3) := by decide +kernel
theorem dX12_says_67 : decode cX12_says 67 = .ok (.iconst 0, 1) := by decide +kernel
theorem dX12_says_68 : decode cX12_says 68 = .ok (.iload_n 1, 1) := by decide +kernel
theorem dX12_says_69 : decode cX12_says 69 = .ok (.iadd, 1) := by decide +kernel
theorem dX12_says_70 : decode cX12_says 70 = .ok (.iaload, 1) := by decide +kernel
theorem dX12_says_71 : decode cX12_says 71 = .ok (.ireturn, 1) := by decide +kernel
theorem dX12_says_72 : decode cX12_says 72 = .ok (.iload 4, 2) := by decide +kernel
theorem dX12_says_74 : decode cX12_says 74 = .ok (.iconst 1, 1) := by decide +kernel
theorem dX12_says_75 : decode cX12_says 75 = .ok (.if_icmp .ne 7, 3) := by decide +kernel
theorem dX12_says_78 : decode cX12_says 78 = .ok (.iconst 0, 1) := by decide +kernel
theorem dX12_says_79 : decode cX12_says 79 = .ok (.goto 26, 3) := by decide +kernel
theorem dX12_says_82 : decode cX12_says 82 = .ok (.iload 4, 2) := by decide +kernel
theorem dX12_says_84 : decode cX12_says 84 = .ok (.iconst 2, 1) := by decide +kernel
theorem dX12_says_85 : decode cX12_says 85 = .ok (.if_icmp .ne 7, 3) := by decide +kernel
theorem dX12_says_88 : decode cX12_says 88 = .ok (.iconst 1, 1) := by decide +kernel
theorem dX12_says_89 : decode cX12_says 89 = .ok (.goto 16, 3) := by decide +kernel
theorem dX12_says_92 : decode cX12_says 92 = .ok (.iload 4, 2) := by decide +kernel
theorem dX12_says_94 : decode cX12_says 94 = .ok (.iconst 3, 1) := by decide +kernel
theorem dX12_says_95 : decode cX12_says 95 = .ok (.if_icmp .ne 9, 3) := by decide +kernel
theorem dX12_says_98 : decode cX12_says 98 = .ok (.iconst 1, 1) := by decide +kernel
theorem dX12_says_99 : decode cX12_says 99 = .ok (.iload_n 3, 1) := by decide +kernel
theorem dX12_says_100 : decode cX12_says 100 = .ok (.isub, 1) := by decide +kernel
theorem dX12_says_101 : decode cX12_says 101 = .ok (.goto 4, 3) := by decide +kernel
theorem dX12_says_104 : decode cX12_says 104 = .ok (.iconst (-1), 1) := by decide +kernel
theorem dX12_says_105 : decode cX12_says 105 = .ok (.ireturn, 1) := by decide +kernel
theorem dX12_asks_0 : decode cX12_asks 0 = .ok (.iconst 0, 1) := by decide +kernel
theorem dX12_asks_1 : decode cX12_asks 1 = .ok (.istore_n 3, 1) := by decide +kernel
theorem dX12_asks_2 : decode cX12_asks 2 = .ok (.iconst 0, 1) := by decide +kernel
theorem dX12_asks_3 : decode cX12_asks 3 = .ok (.istore 4, 2) := by decide +kernel
theorem dX12_asks_5 : decode cX12_asks 5 = .ok (.iconst 0, 1) := by decide +kernel
theorem dX12_asks_6 : decode cX12_asks 6 = .ok (.istore 5, 2) := by decide +kernel
theorem dX12_asks_8 : decode cX12_asks 8 = .ok (.iload 5, 2) := by decide +kernel
theorem dX12_asks_10 : decode cX12_asks 10 = .ok (.aload_n 0, 1) := by decide +kernel
theorem dX12_asks_11 : decode cX12_asks 11 = .ok (.getfield 19, 3) := by decide +kernel
theorem dX12_asks_14 : decode cX12_asks 14 = .ok (.if_icmp .ge 47, 3) := by decide +kernel
theorem dX12_asks_17 : decode cX12_asks 17 = .ok (.iload_n 2, 1) := by decide +kernel
theorem dX12_asks_18 : decode cX12_asks 18 = .ok (.iload 5, 2) := by decide +kernel
theorem dX12_asks_20 : decode cX12_asks 20 = .ok (.invokestatic 100, 3) := by decide +kernel
theorem dX12_asks_23 : decode cX12_asks 23 = .ok (.ifCond .ne 6, 3) := by decide +kernel
theorem dX12_asks_26 : decode cX12_asks 26 = .ok (.goto 29, 3) := by decide +kernel
theorem dX12_asks_29 : decode cX12_asks 29 = .ok (.aload_n 0, 1) := by decide +kernel
theorem dX12_asks_30 : decode cX12_asks 30 = .ok (.iload 5, 2) := by decide +kernel
theorem dX12_asks_32 : decode cX12_asks 32 = .ok (.iload_n 1, 1) := by decide +kernel
theorem dX12_asks_33 : decode cX12_asks 33 = .ok (.invokevirtual 131, 3) := by decide +kernel
theorem dX12_asks_36 : decode cX12_asks 36 = .ok (.istore 6, 2) := by decide +kernel
theorem dX12_asks_38 : decode cX12_asks 38 = .ok (.iload 6, 2) := by decide +kernel
theorem dX12_asks_40 : decode cX12_asks 40 = .ok (.ifCond .ne 6, 3) := by decide +kernel
theorem dX12_asks_43 : decode cX12_asks 43 = .ok (.iinc 3 1, 3) := by decide +kernel
theorem dX12_asks_46 : decode cX12_asks 46 = .ok (.iload 6, 2) := by decide +kernel
theorem dX12_asks_48 : decode cX12_asks 48 = .ok (.iconst 1, 1) := by decide +kernel
theorem dX12_asks_49 : decode cX12_asks 49 = .ok (.if_icmp .ne 6, 3) := by decide +kernel
theorem dX12_asks_52 : decode cX12_asks 52 = .ok (.iinc 4 1, 3) := by decide +kernel
theorem dX12_asks_55 : decode cX12_asks 55 = .ok (.iinc 5 1, 3) := by decide +kernel
theorem dX12_asks_58 : decode cX12_asks 58 = .ok (.goto (-50), 3) := by decide +kernel
theorem dX12_asks_61 : decode cX12_asks 61 = .ok (.iload_n 3, 1) := by decide +kernel
theorem dX12_asks_62 : decode cX12_asks 62 = .ok (.aload_n 0, 1) := by decide +kernel
theorem dX12_asks_63 : decode cX12_asks 63 = .ok (.getfield 26, 3) := by decide +kernel
theorem dX12_asks_66 : decode cX12_asks 66 = .ok (.if_icmp .lt 7, 3) := by decide +kernel
theorem dX12_asks_69 : decode cX12_asks 69 = .ok (.iconst 0, 1) := by decide +kernel
theorem dX12_asks_70 : decode cX12_asks 70 = .ok (.goto 17, 3) := by decide +kernel
theorem dX12_asks_73 : decode cX12_asks 73 = .ok (.iload 4, 2) := by decide +kernel
theorem dX12_asks_75 : decode cX12_asks 75 = .ok (.aload_n 0, 1) := by decide +kernel
theorem dX12_asks_76 : decode cX12_asks 76 = .ok (.getfield 26, 3) := by decide +kernel
theorem dX12_asks_79 : decode cX12_asks 79 = .ok (.if_icmp .lt 7, 3) := by decide +kernel
theorem dX12_asks_82 : decode cX12_asks 82 = .ok (.iconst 1, 1) := by decide +kernel
theorem dX12_asks_83 : decode cX12_asks 83 = .ok (.goto 4, 3) := by decide +kernel
theorem dX12_asks_86 : decode cX12_asks 86 = .ok (.iconst (-1), 1) := by decide +kernel
theorem dX12_asks_87 : decode cX12_asks 87 = .ok (.istore 5, 2) := by decide +kernel
theorem dX12_asks_89 : decode cX12_asks 89 = .ok (.aload_n 0, 1) := by decide +kernel
theorem dX12_asks_90 : decode cX12_asks 90 = .ok (.getfield 7, 3) := by decide +kernel
theorem dX12_asks_93 : decode cX12_asks 93 = .ok (.iconst 0, 1) := by decide +kernel
theorem dX12_asks_94 : decode cX12_asks 94 = .ok (.iload_n 1, 1) := by decide +kernel
theorem dX12_asks_95 : decode cX12_asks 95 = .ok (.iadd, 1) := by decide +kernel
theorem dX12_asks_96 : decode cX12_asks 96 = .ok (.iaload, 1) := by decide +kernel
theorem dX12_asks_97 : decode cX12_asks 97 = .ok (.istore 6, 2) := by decide +kernel
theorem dX12_asks_99 : decode cX12_asks 99 = .ok (.aload_n 0, 1) := by decide +kernel
theorem dX12_asks_100 : decode cX12_asks 100 = .ok (.getfield 35, 3) := by decide +kernel
theorem dX12_asks_103 : decode cX12_asks 103 = .ok (.ifCond .ne 21, 3) := by decide +kernel
theorem dX12_asks_106 : decode cX12_asks 106 = .ok (.iload 5, 2) := by decide +kernel
theorem dX12_asks_108 : decode cX12_asks 108 = .ok (.ifCond .lt 49, 3) := by decide +kernel
theorem dX12_asks_111 : decode cX12_asks 111 = .ok (.aload_n 0, 1) := by decide +kernel
theorem dX12_asks_112 : decode cX12_asks 112 = .ok (.getfield 7, 3) := by decide +kernel
theorem dX12_asks_115 : decode cX12_asks 115 = .ok (.iconst 0, 1) := by decide +kernel
theorem dX12_asks_116 : decode cX12_asks 116 = .ok (.iload_n 1, 1) := by decide +kernel
theorem dX12_asks_117 : decode cX12_asks 117 = .ok (.iadd, 1) := by decide +kernel
theorem dX12_asks_118 : decode cX12_asks 118 = .ok (.iload 5, 2) := by decide +kernel
theorem dX12_asks_120 : decode cX12_asks 120 = .ok (.iastore, 1) := by decide +kernel
theorem dX12_asks_121 : decode cX12_asks 121 = .ok (.goto 36, 3) := by decide +kernel
theorem dX12_asks_124 : decode cX12_asks 124 = .ok (.aload_n 0, 1) := by decide +kernel
theorem dX12_asks_125 : decode cX12_asks 125 = .ok (.iload_n 1, 1) := by decide +kernel
theorem dX12_asks_126 : decode cX12_asks 126 = .ok (.iload 5, 2) := by decide +kernel
theorem dX12_asks_128 : decode cX12_asks 128 = .ok (.invokevirtual 135, 3) := by decide +kernel
theorem dX12_asks_131 : decode cX12_asks 131 = .ok (.aload_n 0, 1) := by decide +kernel
theorem dX12_asks_132 : decode cX12_asks 132 = .ok (.getfield 7, 3) := by decide +kernel
theorem dX12_asks_135 : decode cX12_asks 135 = .ok (.bipush 16, 2) := by decide +kernel
theorem dX12_asks_137 : decode cX12_asks 137 = .ok (.iload_n 1, 1) := by decide +kernel
theorem dX12_asks_138 : decode cX12_asks 138 = .ok (.iadd, 1) := by decide +kernel
theorem dX12_asks_139 : decode cX12_asks 139 = .ok (.iaload, 1) := by decide +kernel
theorem dX12_asks_140 : decode cX12_asks 140 = .ok (.aload_n 0, 1) := by decide +kernel
theorem dX12_asks_141 : decode cX12_asks 141 = .ok (.getfield 29, 3) := by decide +kernel
theorem dX12_asks_144 : decode cX12_asks 144 = .ok (.if_icmp .lt 13, 3) := by decide +kernel
theorem dX12_asks_147 : decode cX12_asks 147 = .ok (.aload_n 0, 1) := by decide +kernel
theorem dX12_asks_148 : decode cX12_asks 148 = .ok (.getfield 7, 3) := by decide +kernel
theorem dX12_asks_151 : decode cX12_asks 151 = .ok (.bipush 40, 2) := by decide +kernel
theorem dX12_asks_153 : decode cX12_asks 153 = .ok (.iload_n 1, 1) := by decide +kernel
theorem dX12_asks_154 : decode cX12_asks 154 = .ok (.iadd, 1) := by decide +kernel
theorem dX12_asks_155 : decode cX12_asks 155 = .ok (.iconst 1, 1) := by decide +kernel
theorem dX12_asks_156 : decode cX12_asks 156 = .ok (.iastore, 1) := by decide +kernel
theorem dX12_asks_157 : decode cX12_asks 157 = .ok (.aload_n 0, 1) := by decide +kernel
theorem dX12_asks_158 : decode cX12_asks 158 = .ok (.getfield 7, 3) := by decide +kernel
theorem dX12_asks_161 : decode cX12_asks 161 = .ok (.bipush 40, 2) := by decide +kernel
theorem dX12_asks_163 : decode cX12_asks 163 = .ok (.iload_n 1, 1) := by decide +kernel
theorem dX12_asks_164 : decode cX12_asks 164 = .ok (.iadd, 1) := by decide +kernel
theorem dX12_asks_165 : decode cX12_asks 165 = .ok (.iaload, 1) := by decide +kernel
theorem dX12_asks_166 : decode cX12_asks 166 = .ok (.iconst 1, 1) := by decide +kernel
theorem dX12_asks_167 : decode cX12_asks 167 = .ok (.if_icmp .ne 7, 3) := by decide +kernel
theorem dX12_asks_170 : decode cX12_asks 170 = .ok (.iconst 2, 1) := by decide +kernel
theorem dX12_asks_171 : decode cX12_asks 171 = .ok (.goto 21, 3) := by decide +kernel
theorem dX12_asks_174 : decode cX12_asks 174 = .ok (.aload_n 0, 1) := by decide +kernel
theorem dX12_asks_175 : decode cX12_asks 175 = .ok (.getfield 7, 3) := by decide +kernel
theorem dX12_asks_178 : decode cX12_asks 178 = .ok (.iconst 0, 1) := by decide +kernel
theorem dX12_asks_179 : decode cX12_asks 179 = .ok (.iload_n 1, 1) := by decide +kernel
theorem dX12_asks_180 : decode cX12_asks 180 = .ok (.iadd, 1) := by decide +kernel
theorem dX12_asks_181 : decode cX12_asks 181 = .ok (.iaload, 1) := by decide +kernel
theorem dX12_asks_182 : decode cX12_asks 182 = .ok (.iload 6, 2) := by decide +kernel
theorem dX12_asks_184 : decode cX12_asks 184 = .ok (.if_icmp .eq 7, 3) := by decide +kernel
theorem dX12_asks_187 : decode cX12_asks 187 = .ok (.iconst 1, 1) := by decide +kernel
theorem dX12_asks_188 : decode cX12_asks 188 = .ok (.goto 4, 3) := by decide +kernel
theorem dX12_asks_191 : decode cX12_asks 191 = .ok (.iconst 0, 1) := by decide +kernel
theorem dX12_asks_192 : decode cX12_asks 192 = .ok (.ireturn, 1) := by decide +kernel
theorem dX12_counts_0 : decode cX12_counts 0 = .ok (.iload_n 2, 1) := by decide +kernel
theorem dX12_counts_1 : decode cX12_counts 1 = .ok (.ifCond .ge 14, 3) := by decide +kernel
theorem dX12_counts_4 : decode cX12_counts 4 = .ok (.aload_n 0, 1) := by decide +kernel
theorem dX12_counts_5 : decode cX12_counts 5 = .ok (.getfield 7, 3) := by decide +kernel
theorem dX12_counts_8 : decode cX12_counts 8 = .ok (.bipush 16, 2) := by decide +kernel
theorem dX12_counts_10 : decode cX12_counts 10 = .ok (.iload_n 1, 1) := by decide +kernel
theorem dX12_counts_11 : decode cX12_counts 11 = .ok (.iadd, 1) := by decide +kernel
theorem dX12_counts_12 : decode cX12_counts 12 = .ok (.iconst 0, 1) := by decide +kernel
theorem dX12_counts_13 : decode cX12_counts 13 = .ok (.iastore, 1) := by decide +kernel
theorem dX12_counts_14 : decode cX12_counts 14 = .ok (.return_, 1) := by decide +kernel
theorem dX12_counts_15 : decode cX12_counts 15 = .ok (.aload_n 0, 1) := by decide +kernel
theorem dX12_counts_16 : decode cX12_counts 16 = .ok (.getfield 35, 3) := by decide +kernel
theorem dX12_counts_19 : decode cX12_counts 19 = .ok (.iconst 2, 1) := by decide +kernel
theorem dX12_counts_20 : decode cX12_counts 20 = .ok (.if_icmp .ne 10, 3) := by decide +kernel
theorem dX12_counts_23 : decode cX12_counts 23 = .ok (.bipush 8, 2) := by decide +kernel
theorem dX12_counts_25 : decode cX12_counts 25 = .ok (.iload_n 1, 1) := by decide +kernel
theorem dX12_counts_26 : decode cX12_counts 26 = .ok (.iadd, 1) := by decide +kernel
