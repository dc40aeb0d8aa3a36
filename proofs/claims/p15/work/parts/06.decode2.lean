theorem dX7_down_0 : decode cX7_down 0 = .ok (.iload_n 1, 1) := by decide +kernel
theorem dX7_down_1 : decode cX7_down 1 = .ok (.aload_n 0, 1) := by decide +kernel
theorem dX7_down_2 : decode cX7_down 2 = .ok (.aload_n 0, 1) := by decide +kernel
theorem dX7_down_3 : decode cX7_down 3 = .ok (.getfield 31, 3) := by decide +kernel
theorem dX7_down_6 : decode cX7_down 6 = .ok (.iload_n 1, 1) := by decide +kernel
theorem dX7_down_7 : decode cX7_down 7 = .ok (.isub, 1) := by decide +kernel
theorem dX7_down_8 : decode cX7_down 8 = .ok (.invokevirtual 88, 3) := by decide +kernel
theorem dX7_down_11 : decode cX7_down 11 = .ok (.imul, 1) := by decide +kernel
theorem dX7_down_12 : decode cX7_down 12 = .ok (.ireturn, 1) := by decide +kernel
theorem dX8_init_0 : decode cX8_init 0 = .ok (.aload_n 0, 1) := by decide +kernel
theorem dX8_init_1 : decode cX8_init 1 = .ok (.invokespecial 3, 3) := by decide +kernel
theorem dX8_init_4 : decode cX8_init 4 = .ok (.aload_n 0, 1) := by decide +kernel
theorem dX8_init_5 : decode cX8_init 5 = .ok (.bipush 8, 2) := by decide +kernel
theorem dX8_init_7 : decode cX8_init 7 = .ok (.newarray .int, 2) := by decide +kernel
theorem dX8_init_9 : decode cX8_init 9 = .ok (.putfield 9, 3) := by decide +kernel
theorem dX8_init_12 : decode cX8_init 12 = .ok (.aload_n 0, 1) := by decide +kernel
theorem dX8_init_13 : decode cX8_init 13 = .ok (.aload_n 1, 1) := by decide +kernel
theorem dX8_init_14 : decode cX8_init 14 = .ok (.putfield 15, 3) := by decide +kernel
theorem dX8_init_17 : decode cX8_init 17 = .ok (.aload_n 0, 1) := by decide +kernel
theorem dX8_init_18 : decode cX8_init 18 = .ok (.aload_n 2, 1) := by decide +kernel
theorem dX8_init_19 : decode cX8_init 19 = .ok (.putfield 19, 3) := by decide +kernel
theorem dX8_init_22 : decode cX8_init 22 = .ok (.return_, 1) := by decide +kernel
theorem dX8_find_0 : decode cX8_find 0 = .ok (.aload_n 0, 1) := by decide +kernel
theorem dX8_find_1 : decode cX8_find 1 = .ok (.getfield 23, 3) := by decide +kernel
theorem dX8_find_4 : decode cX8_find 4 = .ok (.ifnull 12, 3) := by decide +kernel
theorem dX8_find_7 : decode cX8_find 7 = .ok (.aload_n 0, 1) := by decide +kernel
theorem dX8_find_8 : decode cX8_find 8 = .ok (.getfield 27, 3) := by decide +kernel
theorem dX8_find_11 : decode cX8_find 11 = .ok (.iload_n 2, 1) := by decide +kernel
theorem dX8_find_12 : decode cX8_find 12 = .ok (.if_icmp .ne 4, 3) := by decide +kernel
theorem dX8_find_15 : decode cX8_find 15 = .ok (.return_, 1) := by decide +kernel
theorem dX8_find_16 : decode cX8_find 16 = .ok (.aload_n 0, 1) := by decide +kernel
theorem dX8_find_17 : decode cX8_find 17 = .ok (.aload_n 1, 1) := by decide +kernel
theorem dX8_find_18 : decode cX8_find 18 = .ok (.invokevirtual 31, 3) := by decide +kernel
theorem dX8_find_21 : decode cX8_find 21 = .ok (.aload_n 0, 1) := by decide +kernel
theorem dX8_find_22 : decode cX8_find 22 = .ok (.iload_n 2, 1) := by decide +kernel
theorem dX8_find_23 : decode cX8_find 23 = .ok (.putfield 27, 3) := by decide +kernel
theorem dX8_find_26 : decode cX8_find 26 = .ok (.aload_n 0, 1) := by decide +kernel
theorem dX8_find_27 : decode cX8_find 27 = .ok (.getfield 19, 3) := by decide +kernel
theorem dX8_find_30 : decode cX8_find 30 = .ok (.aload_n 1, 1) := by decide +kernel
theorem dX8_find_31 : decode cX8_find 31 = .ok (.iconst 0, 1) := by decide +kernel
theorem dX8_find_32 : decode cX8_find 32 = .ok (.invokevirtual 35, 3) := by decide +kernel
theorem dX8_find_35 : decode cX8_find 35 = .ok (.istore_n 3, 1) := by decide +kernel
theorem dX8_find_36 : decode cX8_find 36 = .ok (.aload_n 0, 1) := by decide +kernel
theorem dX8_find_37 : decode cX8_find 37 = .ok (.iload_n 3, 1) := by decide +kernel
theorem dX8_find_38 : decode cX8_find 38 = .ok (.ifCond .eq 7, 3) := by decide +kernel
theorem dX8_find_41 : decode cX8_find 41 = .ok (.iconst 0, 1) := by decide +kernel
theorem dX8_find_42 : decode cX8_find 42 = .ok (.goto 4, 3) := by decide +kernel
theorem dX8_find_45 : decode cX8_find 45 = .ok (.iconst (-1), 1) := by decide +kernel
theorem dX8_find_46 : decode cX8_find 46 = .ok (.putfield 41, 3) := by decide +kernel
theorem dX8_find_49 : decode cX8_find 49 = .ok (.iconst 0, 1) := by decide +kernel
theorem dX8_find_50 : decode cX8_find 50 = .ok (.istore 4, 2) := by decide +kernel
theorem dX8_find_52 : decode cX8_find 52 = .ok (.iload 4, 2) := by decide +kernel
theorem dX8_find_54 : decode cX8_find 54 = .ok (.sipush 2000, 3) := by decide +kernel
theorem dX8_find_57 : decode cX8_find 57 = .ok (.if_icmp .ge 91, 3) := by decide +kernel
theorem dX8_find_60 : decode cX8_find 60 = .ok (.iload 4, 2) := by decide +kernel
theorem dX8_find_62 : decode cX8_find 62 = .ok (.aload_n 0, 1) := by decide +kernel
theorem dX8_find_63 : decode cX8_find 63 = .ok (.getfield 23, 3) := by decide +kernel
theorem dX8_find_66 : decode cX8_find 66 = .ok (.getfield 44, 3) := by decide +kernel
theorem dX8_find_69 : decode cX8_find 69 = .ok (.if_icmp .ge 79, 3) := by decide +kernel
theorem dX8_find_72 : decode cX8_find 72 = .ok (.iload_n 3, 1) := by decide +kernel
theorem dX8_find_73 : decode cX8_find 73 = .ok (.ifCond .ne 75, 3) := by decide +kernel
theorem dX8_find_76 : decode cX8_find 76 = .ok (.iconst 0, 1) := by decide +kernel
theorem dX8_find_77 : decode cX8_find 77 = .ok (.istore 5, 2) := by decide +kernel
theorem dX8_find_79 : decode cX8_find 79 = .ok (.iload 5, 2) := by decide +kernel
theorem dX8_find_81 : decode cX8_find 81 = .ok (.aload_n 0, 1) := by decide +kernel
theorem dX8_find_82 : decode cX8_find 82 = .ok (.getfield 15, 3) := by decide +kernel
theorem dX8_find_85 : decode cX8_find 85 = .ok (.getfield 49, 3) := by decide +kernel
theorem dX8_find_88 : decode cX8_find 88 = .ok (.if_icmp .ge 54, 3) := by decide +kernel
theorem dX8_find_91 : decode cX8_find 91 = .ok (.iload_n 3, 1) := by decide +kernel
theorem dX8_find_92 : decode cX8_find 92 = .ok (.ifCond .ne 50, 3) := by decide +kernel
theorem dX8_find_95 : decode cX8_find 95 = .ok (.aload_n 0, 1) := by decide +kernel
theorem dX8_find_96 : decode cX8_find 96 = .ok (.getfield 19, 3) := by decide +kernel
theorem dX8_find_99 : decode cX8_find 99 = .ok (.aload_n 0, 1) := by decide +kernel
theorem dX8_find_100 : decode cX8_find 100 = .ok (.getfield 23, 3) := by decide +kernel
theorem dX8_find_103 : decode cX8_find 103 = .ok (.getfield 54, 3) := by decide +kernel
theorem dX8_find_106 : decode cX8_find 106 = .ok (.iload 4, 2) := by decide +kernel
theorem dX8_find_108 : decode cX8_find 108 = .ok (.bipush 8, 2) := by decide +kernel
theorem dX8_find_110 : decode cX8_find 110 = .ok (.imul, 1) := by decide +kernel
theorem dX8_find_111 : decode cX8_find 111 = .ok (.iload 5, 2) := by decide +kernel
theorem dX8_find_113 : decode cX8_find 113 = .ok (.invokevirtual 57, 3) := by decide +kernel
theorem dX8_find_116 : decode cX8_find 116 = .ok (.ifCond .eq 18, 3) := by decide +kernel
theorem dX8_find_119 : decode cX8_find 119 = .ok (.aload_n 0, 1) := by decide +kernel
theorem dX8_find_120 : decode cX8_find 120 = .ok (.iload 4, 2) := by decide +kernel
theorem dX8_find_122 : decode cX8_find 122 = .ok (.iload 5, 2) := by decide +kernel
theorem dX8_find_124 : decode cX8_find 124 = .ok (.invokevirtual 61, 3) := by decide +kernel
theorem dX8_find_127 : decode cX8_find 127 = .ok (.ifCond .eq 7, 3) := by decide +kernel
theorem dX8_find_130 : decode cX8_find 130 = .ok (.iconst 1, 1) := by decide +kernel
theorem dX8_find_131 : decode cX8_find 131 = .ok (.goto 4, 3) := by decide +kernel
theorem dX8_find_134 : decode cX8_find 134 = .ok (.iconst 0, 1) := by decide +kernel
theorem dX8_find_135 : decode cX8_find 135 = .ok (.istore_n 3, 1) := by decide +kernel
theorem dX8_find_136 : decode cX8_find 136 = .ok (.iinc 5 1, 3) := by decide +kernel
theorem dX8_find_139 : decode cX8_find 139 = .ok (.goto (-60), 3) := by decide +kernel
theorem dX8_find_142 : decode cX8_find 142 = .ok (.iinc 4 1, 3) := by decide +kernel
theorem dX8_find_145 : decode cX8_find 145 = .ok (.goto (-93), 3) := by decide +kernel
theorem dX8_find_148 : decode cX8_find 148 = .ok (.return_, 1) := by decide +kernel
theorem dX8_begin_0 : decode cX8_begin 0 = .ok (.aload_n 0, 1) := by decide +kernel
theorem dX8_begin_1 : decode cX8_begin 1 = .ok (.getfield 23, 3) := by decide +kernel
theorem dX8_begin_4 : decode cX8_begin 4 = .ok (.ifnonnull 41, 3) := by decide +kernel
theorem dX8_begin_7 : decode cX8_begin 7 = .ok (.aload_n 0, 1) := by decide +kernel
theorem dX8_begin_8 : decode cX8_begin 8 = .ok (.new 45, 3) := by decide +kernel
theorem dX8_begin_11 : decode cX8_begin 11 = .ok (.dup, 1) := by decide +kernel
theorem dX8_begin_12 : decode cX8_begin 12 = .ok (.invokespecial 65, 3) := by decide +kernel
theorem dX8_begin_15 : decode cX8_begin 15 = .ok (.putfield 23, 3) := by decide +kernel
theorem dX8_begin_18 : decode cX8_begin 18 = .ok (.aload_n 0, 1) := by decide +kernel
theorem dX8_begin_19 : decode cX8_begin 19 = .ok (.sipush 2001, 3) := by decide +kernel
theorem dX8_begin_22 : decode cX8_begin 22 = .ok (.newarray .int, 2) := by decide +kernel
theorem dX8_begin_24 : decode cX8_begin 24 = .ok (.putfield 66, 3) := by decide +kernel
theorem dX8_begin_27 : decode cX8_begin 27 = .ok (.aload_n 0, 1) := by decide +kernel
theorem dX8_begin_28 : decode cX8_begin 28 = .ok (.sipush 2001, 3) := by decide +kernel
theorem dX8_begin_31 : decode cX8_begin 31 = .ok (.newarray .int, 2) := by decide +kernel
theorem dX8_begin_33 : decode cX8_begin 33 = .ok (.putfield 69, 3) := by decide +kernel
theorem dX8_begin_36 : decode cX8_begin 36 = .ok (.aload_n 0, 1) := by decide +kernel
theorem dX8_begin_37 : decode cX8_begin 37 = .ok (.sipush 2001, 3) := by decide +kernel
theorem dX8_begin_40 : decode cX8_begin 40 = .ok (.newarray .int, 2) := by decide +kernel
theorem dX8_begin_42 : decode cX8_begin 42 = .ok (.putfield 72, 3) := by decide +kernel
theorem dX8_begin_45 : decode cX8_begin 45 = .ok (.aload_n 0, 1) := by decide +kernel
theorem dX8_begin_46 : decode cX8_begin 46 = .ok (.getfield 23, 3) := by decide +kernel
theorem dX8_begin_49 : decode cX8_begin 49 = .ok (.invokevirtual 75, 3) := by decide +kernel
theorem dX8_begin_52 : decode cX8_begin 52 = .ok (.aload_n 0, 1) := by decide +kernel
theorem dX8_begin_53 : decode cX8_begin 53 = .ok (.getfield 23, 3) := by decide +kernel
theorem dX8_begin_56 : decode cX8_begin 56 = .ok (.aload_n 0, 1) := by decide +kernel
theorem dX8_begin_57 : decode cX8_begin 57 = .ok (.getfield 23, 3) := by decide +kernel
theorem dX8_begin_60 : decode cX8_begin 60 = .ok (.aload_n 1, 1) := by decide +kernel
theorem dX8_begin_61 : decode cX8_begin 61 = .ok (.invokevirtual 78, 3) := by decide +kernel
theorem dX8_begin_64 : decode cX8_begin 64 = .ok (.aload_n 1, 1) := by decide +kernel
theorem dX8_begin_65 : decode cX8_begin 65 = .ok (.invokevirtual 82, 3) := by decide +kernel
theorem dX8_begin_68 : decode cX8_begin 68 = .ok (.pop, 1) := by decide +kernel
theorem dX8_begin_69 : decode cX8_begin 69 = .ok (.aload_n 0, 1) := by decide +kernel
theorem dX8_begin_70 : decode cX8_begin 70 = .ok (.iconst 0, 1) := by decide +kernel
theorem dX8_begin_71 : decode cX8_begin 71 = .ok (.putfield 86, 3) := by decide +kernel
theorem dX8_begin_74 : decode cX8_begin 74 = .ok (.return_, 1) := by decide +kernel
theorem dX8_open_0 : decode cX8_open 0 = .ok (.iconst 0, 1) := by decide +kernel
theorem dX8_open_1 : decode cX8_open 1 = .ok (.istore_n 3, 1) := by decide +kernel
theorem dX8_open_2 : decode cX8_open 2 = .ok (.iconst 0, 1) := by decide +kernel
theorem dX8_open_3 : decode cX8_open 3 = .ok (.istore 4, 2) := by decide +kernel
theorem dX8_open_5 : decode cX8_open 5 = .ok (.iload 4, 2) := by decide +kernel
theorem dX8_open_7 : decode cX8_open 7 = .ok (.aload_n 0, 1) := by decide +kernel
theorem dX8_open_8 : decode cX8_open 8 = .ok (.getfield 15, 3) := by decide +kernel
theorem dX8_open_11 : decode cX8_open 11 = .ok (.getfield 89, 3) := by decide +kernel
theorem dX8_open_14 : decode cX8_open 14 = .ok (.if_icmp .ge 105, 3) := by decide +kernel
theorem dX8_open_17 : decode cX8_open 17 = .ok (.aload_n 0, 1) := by decide +kernel
theorem dX8_open_18 : decode cX8_open 18 = .ok (.getfield 15, 3) := by decide +kernel
theorem dX8_open_21 : decode cX8_open 21 = .ok (.getfield 92, 3) := by decide +kernel
theorem dX8_open_24 : decode cX8_open 24 = .ok (.iload_n 2, 1) := by decide +kernel
theorem dX8_open_25 : decode cX8_open 25 = .ok (.aaload, 1) := by decide +kernel
theorem dX8_open_26 : decode cX8_open 26 = .ok (.iload 4, 2) := by decide +kernel
theorem dX8_open_28 : decode cX8_open 28 = .ok (.iaload, 1) := by decide +kernel
theorem dX8_open_29 : decode cX8_open 29 = .ok (.istore 5, 2) := by decide +kernel
theorem dX8_open_31 : decode cX8_open 31 = .ok (.aload_n 0, 1) := by decide +kernel
theorem dX8_open_32 : decode cX8_open 32 = .ok (.getfield 19, 3) := by decide +kernel
theorem dX8_open_35 : decode cX8_open 35 = .ok (.iload 5, 2) := by decide +kernel
theorem dX8_open_37 : decode cX8_open 37 = .ok (.invokevirtual 96, 3) := by decide +kernel
theorem dX8_open_40 : decode cX8_open 40 = .ok (.istore 6, 2) := by decide +kernel
theorem dX8_open_42 : decode cX8_open 42 = .ok (.iconst 1, 1) := by decide +kernel
theorem dX8_open_43 : decode cX8_open 43 = .ok (.iload 6, 2) := by decide +kernel
theorem dX8_open_45 : decode cX8_open 45 = .ok (.iconst 1, 1) := by decide +kernel
theorem dX8_open_46 : decode cX8_open 46 = .ok (.iadd, 1) := by decide +kernel
theorem dX8_open_47 : decode cX8_open 47 = .ok (.ishl, 1) := by decide +kernel
theorem dX8_open_48 : decode cX8_open 48 = .ok (.istore 7, 2) := by decide +kernel
theorem dX8_open_50 : decode cX8_open 50 = .ok (.aload_n 0, 1) := by decide +kernel
theorem dX8_open_51 : decode cX8_open 51 = .ok (.getfield 19, 3) := by decide +kernel
theorem dX8_open_54 : decode cX8_open 54 = .ok (.getfield 100, 3) := by decide +kernel
theorem dX8_open_57 : decode cX8_open 57 = .ok (.ifCond .ne 10, 3) := by decide +kernel
theorem dX8_open_60 : decode cX8_open 60 = .ok (.iload_n 3, 1) := by decide +kernel
theorem dX8_open_61 : decode cX8_open 61 = .ok (.iload 7, 2) := by decide +kernel
theorem dX8_open_63 : decode cX8_open 63 = .ok (.iand, 1) := by decide +kernel
theorem dX8_open_64 : decode cX8_open 64 = .ok (.ifCond .ne 49, 3) := by decide +kernel
theorem dX8_open_67 : decode cX8_open 67 = .ok (.iload_n 3, 1) := by decide +kernel
theorem dX8_open_68 : decode cX8_open 68 = .ok (.iload 7, 2) := by decide +kernel
theorem dX8_open_70 : decode cX8_open 70 = .ok (.ior, 1) := by decide +kernel
theorem dX8_open_71 : decode cX8_open 71 = .ok (.istore_n 3, 1) := by decide +kernel
theorem dX8_open_72 : decode cX8_open 72 = .ok (.aload_n 0, 1) := by decide +kernel
theorem dX8_open_73 : decode cX8_open 73 = .ok (.getfield 23, 3) := by decide +kernel
theorem dX8_open_76 : decode cX8_open 76 = .ok (.aload_n 0, 1) := by decide +kernel
theorem dX8_open_77 : decode cX8_open 77 = .ok (.getfield 9, 3) := by decide +kernel
theorem dX8_open_80 : decode cX8_open 80 = .ok (.iload_n 1, 1) := by decide +kernel
theorem dX8_open_81 : decode cX8_open 81 = .ok (.invokevirtual 103, 3) := by decide +kernel
theorem dX8_open_84 : decode cX8_open 84 = .ok (.aload_n 0, 1) := by decide +kernel
theorem dX8_open_85 : decode cX8_open 85 = .ok (.getfield 19, 3) := by decide +kernel
theorem dX8_open_88 : decode cX8_open 88 = .ok (.aload_n 0, 1) := by decide +kernel
theorem dX8_open_89 : decode cX8_open 89 = .ok (.getfield 9, 3) := by decide +kernel
theorem dX8_open_92 : decode cX8_open 92 = .ok (.iload_n 2, 1) := by decide +kernel
theorem dX8_open_93 : decode cX8_open 93 = .ok (.iload 6, 2) := by decide +kernel
theorem dX8_open_95 : decode cX8_open 95 = .ok (.iload 5, 2) := by decide +kernel
theorem dX8_open_97 : decode cX8_open 97 = .ok (.invokevirtual 107, 3) := by decide +kernel
theorem dX8_open_100 : decode cX8_open 100 = .ok (.aload_n 0, 1) := by decide +kernel
theorem dX8_open_101 : decode cX8_open 101 = .ok (.iload_n 1, 1) := by decide +kernel
theorem dX8_open_102 : decode cX8_open 102 = .ok (.iload_n 2, 1) := by decide +kernel
theorem dX8_open_103 : decode cX8_open 103 = .ok (.iload 5, 2) := by decide +kernel
theorem dX8_open_105 : decode cX8_open 105 = .ok (.invokevirtual 111, 3) := by decide +kernel
theorem dX8_open_108 : decode cX8_open 108 = .ok (.ifCond .eq 5, 3) := by decide +kernel
theorem dX8_open_111 : decode cX8_open 111 = .ok (.iconst 1, 1) := by decide +kernel
theorem dX8_open_112 : decode cX8_open 112 = .ok (.ireturn, 1) := by decide +kernel
theorem dX8_open_113 : decode cX8_open 113 = .ok (.iinc 4 1, 3) := by decide +kernel
theorem dX8_open_116 : decode cX8_open 116 = .ok (.goto (-111), 3) := by decide +kernel
theorem dX8_open_119 : decode cX8_open 119 = .ok (.iconst 0, 1) := by decide +kernel
theorem dX8_open_120 : decode cX8_open 120 = .ok (.ireturn, 1) := by decide +kernel
theorem dX8_comes_0 : decode cX8_comes 0 = .ok (.aload_n 0, 1) := by decide +kernel
theorem dX8_comes_1 : decode cX8_comes 1 = .ok (.getfield 23, 3) := by decide +kernel
theorem dX8_comes_4 : decode cX8_comes 4 = .ok (.aload_n 0, 1) := by decide +kernel
theorem dX8_comes_5 : decode cX8_comes 5 = .ok (.getfield 9, 3) := by decide +kernel
theorem dX8_comes_8 : decode cX8_comes 8 = .ok (.invokevirtual 78, 3) := by decide +kernel
theorem dX8_comes_11 : decode cX8_comes 11 = .ok (.istore 4, 2) := by decide +kernel
theorem dX8_comes_13 : decode cX8_comes 13 = .ok (.aload_n 0, 1) := by decide +kernel
theorem dX8_comes_14 : decode cX8_comes 14 = .ok (.getfield 23, 3) := by decide +kernel
theorem dX8_comes_17 : decode cX8_comes 17 = .ok (.iload 4, 2) := by decide +kernel
theorem dX8_comes_19 : decode cX8_comes 19 = .ok (.invokevirtual 115, 3) := by decide +kernel
theorem dX8_comes_22 : decode cX8_comes 22 = .ok (.iconst (-1), 1) := by decide +kernel
theorem dX8_comes_23 : decode cX8_comes 23 = .ok (.if_icmp .eq 5, 3) := by decide +kernel
theorem dX8_comes_26 : decode cX8_comes 26 = .ok (.iconst 0, 1) := by decide +kernel
theorem dX8_comes_27 : decode cX8_comes 27 = .ok (.ireturn, 1) := by decide +kernel
theorem dX8_comes_28 : decode cX8_comes 28 = .ok (.aload_n 0, 1) := by decide +kernel
theorem dX8_comes_29 : decode cX8_comes 29 = .ok (.getfield 19, 3) := by decide +kernel
theorem dX8_comes_32 : decode cX8_comes 32 = .ok (.aload_n 0, 1) := by decide +kernel
theorem dX8_comes_33 : decode cX8_comes 33 = .ok (.getfield 9, 3) := by decide +kernel
theorem dX8_comes_36 : decode cX8_comes 36 = .ok (.iconst 0, 1) := by decide +kernel
theorem dX8_comes_37 : decode cX8_comes 37 = .ok (.invokevirtual 35, 3) := by decide +kernel
theorem dX8_comes_40 : decode cX8_comes 40 = .ok (.istore 5, 2) := by decide +kernel
theorem dX8_comes_42 : decode cX8_comes 42 = .ok (.iload 5, 2) := by decide +kernel
theorem dX8_comes_44 : decode cX8_comes 44 = .ok (.ifCond .ne 13, 3) := by decide +kernel
theorem dX8_comes_47 : decode cX8_comes 47 = .ok (.aload_n 0, 1) := by decide +kernel
theorem dX8_comes_48 : decode cX8_comes 48 = .ok (.getfield 23, 3) := by decide +kernel
theorem dX8_comes_51 : decode cX8_comes 51 = .ok (.invokevirtual 118, 3) := by decide +kernel
theorem dX8_comes_54 : decode cX8_comes 54 = .ok (.ifCond .ne 19, 3) := by decide +kernel
theorem dX8_comes_57 : decode cX8_comes 57 = .ok (.aload_n 0, 1) := by decide +kernel
theorem dX8_comes_58 : decode cX8_comes 58 = .ok (.getfield 23, 3) := by decide +kernel
theorem dX8_comes_61 : decode cX8_comes 61 = .ok (.iload 4, 2) := by decide +kernel
theorem dX8_comes_63 : decode cX8_comes 63 = .ok (.aload_n 0, 1) := by decide +kernel
theorem dX8_comes_64 : decode cX8_comes 64 = .ok (.getfield 9, 3) := by decide +kernel
theorem dX8_comes_67 : decode cX8_comes 67 = .ok (.invokevirtual 82, 3) := by decide +kernel
theorem dX8_comes_70 : decode cX8_comes 70 = .ok (.goto 4, 3) := by decide +kernel
theorem dX8_comes_73 : decode cX8_comes 73 = .ok (.iconst (-1), 1) := by decide +kernel
theorem dX8_comes_74 : decode cX8_comes 74 = .ok (.istore 6, 2) := by decide +kernel
theorem dX8_comes_76 : decode cX8_comes 76 = .ok (.iload 6, 2) := by decide +kernel
theorem dX8_comes_78 : decode cX8_comes 78 = .ok (.iconst (-1), 1) := by decide +kernel
theorem dX8_comes_79 : decode cX8_comes 79 = .ok (.if_icmp .ne 11, 3) := by decide +kernel
theorem dX8_comes_82 : decode cX8_comes 82 = .ok (.aload_n 0, 1) := by decide +kernel
theorem dX8_comes_83 : decode cX8_comes 83 = .ok (.bipush (-3), 2) := by decide +kernel
theorem dX8_comes_85 : decode cX8_comes 85 = .ok (.putfield 41, 3) := by decide +kernel
theorem dX8_comes_88 : decode cX8_comes 88 = .ok (.iconst 1, 1) := by decide +kernel
theorem dX8_comes_89 : decode cX8_comes 89 = .ok (.ireturn, 1) := by decide +kernel
theorem dX8_comes_90 : decode cX8_comes 90 = .ok (.aload_n 0, 1) := by decide +kernel
theorem dX8_comes_91 : decode cX8_comes 91 = .ok (.getfield 66, 3) := by decide +kernel
theorem dX8_comes_94 : decode cX8_comes 94 = .ok (.iload 6, 2) := by decide +kernel
theorem dX8_comes_96 : decode cX8_comes 96 = .ok (.iload_n 1, 1) := by decide +kernel
theorem dX8_comes_97 : decode cX8_comes 97 = .ok (.iastore, 1) := by decide +kernel
theorem dX8_comes_98 : decode cX8_comes 98 = .ok (.aload_n 0, 1) := by decide +kernel
theorem dX8_comes_99 : decode cX8_comes 99 = .ok (.getfield 69, 3) := by decide +kernel
theorem dX8_comes_102 : decode cX8_comes 102 = .ok (.iload 6, 2) := by decide +kernel
theorem dX8_comes_104 : decode cX8_comes 104 = .ok (.iload_n 2, 1) := by decide +kernel
theorem dX8_comes_105 : decode cX8_comes 105 = .ok (.iastore, 1) := by decide +kernel
theorem dX8_comes_106 : decode cX8_comes 106 = .ok (.aload_n 0, 1) := by decide +kernel
theorem dX8_comes_107 : decode cX8_comes 107 = .ok (.getfield 72, 3) := by decide +kernel
theorem dX8_comes_110 : decode cX8_comes 110 = .ok (.iload 6, 2) := by decide +kernel
theorem dX8_comes_112 : decode cX8_comes 112 = .ok (.iload_n 3, 1) := by decide +kernel
theorem dX8_comes_113 : decode cX8_comes 113 = .ok (.iastore, 1) := by decide +kernel
theorem dX8_comes_114 : decode cX8_comes 114 = .ok (.iload 5, 2) := by decide +kernel
theorem dX8_comes_116 : decode cX8_comes 116 = .ok (.ifCond .eq 19, 3) := by decide +kernel
theorem dX8_comes_119 : decode cX8_comes 119 = .ok (.aload_n 0, 1) := by decide +kernel
theorem dX8_comes_120 : decode cX8_comes 120 = .ok (.iload 6, 2) := by decide +kernel
theorem dX8_comes_122 : decode cX8_comes 122 = .ok (.putfield 86, 3) := by decide +kernel
theorem dX8_comes_125 : decode cX8_comes 125 = .ok (.aload_n 0, 1) := by decide +kernel
theorem dX8_comes_126 : decode cX8_comes 126 = .ok (.aload_n 0, 1) := by decide +kernel
theorem dX8_comes_127 : decode cX8_comes 127 = .ok (.iload 6, 2) := by decide +kernel
theorem dX8_comes_129 : decode cX8_comes 129 = .ok (.invokevirtual 122, 3) := by decide +kernel
theorem dX8_comes_132 : decode cX8_comes 132 = .ok (.putfield 41, 3) := by decide +kernel
theorem dX8_comes_135 : decode cX8_comes 135 = .ok (.iload 5, 2) := by decide +kernel
theorem dX8_comes_137 : decode cX8_comes 137 = .ok (.ireturn, 1) := by decide +kernel
theorem dX8_depth_0 : decode cX8_depth 0 = .ok (.iconst 0, 1) := by decide +kernel
theorem dX8_depth_1 : decode cX8_depth 1 = .ok (.istore_n 2, 1) := by decide +kernel
theorem dX8_depth_2 : decode cX8_depth 2 = .ok (.iload_n 1, 1) := by decide +kernel
theorem dX8_depth_3 : decode cX8_depth 3 = .ok (.istore_n 3, 1) := by decide +kernel
theorem dX8_depth_4 : decode cX8_depth 4 = .ok (.iload_n 3, 1) := by decide +kernel
theorem dX8_depth_5 : decode cX8_depth 5 = .ok (.ifCond .le 23, 3) := by decide +kernel
theorem dX8_depth_8 : decode cX8_depth 8 = .ok (.iload_n 2, 1) := by decide +kernel
theorem dX8_depth_9 : decode cX8_depth 9 = .ok (.sipush 2000, 3) := by decide +kernel
theorem dX8_depth_12 : decode cX8_depth 12 = .ok (.if_icmp .ge 16, 3) := by decide +kernel
theorem dX8_depth_15 : decode cX8_depth 15 = .ok (.iinc 2 1, 3) := by decide +kernel
theorem dX8_depth_18 : decode cX8_depth 18 = .ok (.aload_n 0, 1) := by decide +kernel
theorem dX8_depth_19 : decode cX8_depth 19 = .ok (.getfield 66, 3) := by decide +kernel
theorem dX8_depth_22 : decode cX8_depth 22 = .ok (.iload_n 3, 1) := by decide +kernel
theorem dX8_depth_23 : decode cX8_depth 23 = .ok (.iaload, 1) := by decide +kernel
theorem dX8_depth_24 : decode cX8_depth 24 = .ok (.istore_n 3, 1) := by decide +kernel
theorem dX8_depth_25 : decode cX8_depth 25 = .ok (.goto (-21), 3) := by decide +kernel
theorem dX8_depth_28 : decode cX8_depth 28 = .ok (.iload_n 2, 1) := by decide +kernel
theorem dX8_depth_29 : decode cX8_depth 29 = .ok (.ireturn, 1) := by decide +kernel
theorem dX8_behind_0 : decode cX8_behind 0 = .ok (.aload_n 0, 1) := by decide +kernel
theorem dX8_behind_1 : decode cX8_behind 1 = .ok (.getfield 86, 3) := by decide +kernel
theorem dX8_behind_4 : decode cX8_behind 4 = .ok (.istore_n 2, 1) := by decide +kernel
theorem dX8_behind_5 : decode cX8_behind 5 = .ok (.aload_n 0, 1) := by decide +kernel
theorem dX8_behind_6 : decode cX8_behind 6 = .ok (.getfield 41, 3) := by decide +kernel
theorem dX8_behind_9 : decode cX8_behind 9 = .ok (.iconst 1, 1) := by decide +kernel
theorem dX8_behind_10 : decode cX8_behind 10 = .ok (.isub, 1) := by decide +kernel
theorem dX8_behind_11 : decode cX8_behind 11 = .ok (.istore_n 3, 1) := by decide +kernel
theorem dX8_behind_12 : decode cX8_behind 12 = .ok (.iload_n 3, 1) := by decide +kernel
theorem dX8_behind_13 : decode cX8_behind 13 = .ok (.iload_n 1, 1) := by decide +kernel
theorem dX8_behind_14 : decode cX8_behind 14 = .ok (.if_icmp .le 16, 3) := by decide +kernel
theorem dX8_behind_17 : decode cX8_behind 17 = .ok (.aload_n 0, 1) := by decide +kernel
theorem dX8_behind_18 : decode cX8_behind 18 = .ok (.getfield 66, 3) := by decide +kernel
theorem dX8_behind_21 : decode cX8_behind 21 = .ok (.iload_n 2, 1) := by decide +kernel
theorem dX8_behind_22 : decode cX8_behind 22 = .ok (.iaload, 1) := by decide +kernel
theorem dX8_behind_23 : decode cX8_behind 23 = .ok (.istore_n 2, 1) := by decide +kernel
theorem dX8_behind_24 : decode cX8_behind 24 = .ok (.iinc 3 (-1), 3) := by decide +kernel
theorem dX8_behind_27 : decode cX8_behind 27 = .ok (.goto (-15), 3) := by decide +kernel
theorem dX8_behind_30 : decode cX8_behind 30 = .ok (.iload_n 2, 1) := by decide +kernel
theorem dX8_behind_31 : decode cX8_behind 31 = .ok (.ireturn, 1) := by decide +kernel
theorem dX9_init_0 : decode cX9_init 0 = .ok (.aload_n 0, 1) := by decide +kernel
theorem dX9_init_1 : decode cX9_init 1 = .ok (.invokespecial 3, 3) := by decide +kernel
theorem dX9_init_4 : decode cX9_init 4 = .ok (.aload_n 0, 1) := by decide +kernel
theorem dX9_init_5 : decode cX9_init 5 = .ok (.sipush 16008, 3) := by decide +kernel
theorem dX9_init_8 : decode cX9_init 8 = .ok (.newarray .int, 2) := by decide +kernel
theorem dX9_init_10 : decode cX9_init 10 = .ok (.putfield 9, 3) := by decide +kernel
theorem dX9_init_13 : decode cX9_init 13 = .ok (.aload_n 0, 1) := by decide +kernel
theorem dX9_init_14 : decode cX9_init 14 = .ok (.sipush 4096, 3) := by decide +kernel
theorem dX9_init_17 : decode cX9_init 17 = .ok (.newarray .int, 2) := by decide +kernel
theorem dX9_init_19 : decode cX9_init 19 = .ok (.putfield 15, 3) := by decide +kernel
theorem dX9_init_22 : decode cX9_init 22 = .ok (.return_, 1) := by decide +kernel
theorem dX9_clear_0 : decode cX9_clear 0 = .ok (.aload_n 0, 1) := by decide +kernel
theorem dX9_clear_1 : decode cX9_clear 1 = .ok (.getfield 15, 3) := by decide +kernel
theorem dX9_clear_4 : decode cX9_clear 4 = .ok (.iconst 0, 1) := by decide +kernel
theorem dX9_clear_5 : decode cX9_clear 5 = .ok (.invokestatic 18, 3) := by decide +kernel
theorem dX9_clear_8 : decode cX9_clear 8 = .ok (.aload_n 0, 1) := by decide +kernel
theorem dX9_clear_9 : decode cX9_clear 9 = .ok (.iconst 0, 1) := by decide +kernel
theorem dX9_clear_10 : decode cX9_clear 10 = .ok (.putfield 24, 3) := by decide +kernel
theorem dX9_clear_13 : decode cX9_clear 13 = .ok (.return_, 1) := by decide +kernel
theorem dX9_slotOf_0 : decode cX9_slotOf 0 = .ok (.aload_n 1, 1) := by decide +kernel
theorem dX9_slotOf_1 : decode cX9_slotOf 1 = .ok (.invokestatic 28, 3) := by decide +kernel
theorem dX9_slotOf_4 : decode cX9_slotOf 4 = .ok (.istore_n 2, 1) := by decide +kernel
theorem dX9_slotOf_5 : decode cX9_slotOf 5 = .ok (.iconst 0, 1) := by decide +kernel
theorem dX9_slotOf_6 : decode cX9_slotOf 6 = .ok (.istore_n 3, 1) := by decide +kernel
theorem dX9_slotOf_7 : decode cX9_slotOf 7 = .ok (.iload_n 3, 1) := by decide +kernel
theorem dX9_slotOf_8 : decode cX9_slotOf 8 = .ok (.sipush 4096, 3) := by decide +kernel
theorem dX9_slotOf_11 : decode cX9_slotOf 11 = .ok (.if_icmp .ge 42, 3) := by decide +kernel
theorem dX9_slotOf_14 : decode cX9_slotOf 14 = .ok (.aload_n 0, 1) := by decide +kernel
theorem dX9_slotOf_15 : decode cX9_slotOf 15 = .ok (.getfield 15, 3) := by decide +kernel
theorem dX9_slotOf_18 : decode cX9_slotOf 18 = .ok (.iload_n 2, 1) := by decide +kernel
theorem dX9_slotOf_19 : decode cX9_slotOf 19 = .ok (.iaload, 1) := by decide +kernel
theorem dX9_slotOf_20 : decode cX9_slotOf 20 = .ok (.ifCond .eq 33, 3) := by decide +kernel
theorem dX9_slotOf_23 : decode cX9_slotOf 23 = .ok (.aload_n 0, 1) := by decide +kernel
theorem dX9_slotOf_24 : decode cX9_slotOf 24 = .ok (.aload_n 0, 1) := by decide +kernel
theorem dX9_slotOf_25 : decode cX9_slotOf 25 = .ok (.getfield 15, 3) := by decide +kernel
theorem dX9_slotOf_28 : decode cX9_slotOf 28 = .ok (.iload_n 2, 1) := by decide +kernel
theorem dX9_slotOf_29 : decode cX9_slotOf 29 = .ok (.iaload, 1) := by decide +kernel
theorem dX9_slotOf_30 : decode cX9_slotOf 30 = .ok (.iconst 1, 1) := by decide +kernel
theorem dX9_slotOf_31 : decode cX9_slotOf 31 = .ok (.isub, 1) := by decide +kernel
theorem dX9_slotOf_32 : decode cX9_slotOf 32 = .ok (.aload_n 1, 1) := by decide +kernel
theorem dX9_slotOf_33 : decode cX9_slotOf 33 = .ok (.invokevirtual 32, 3) := by decide +kernel
theorem dX9_slotOf_36 : decode cX9_slotOf 36 = .ok (.ifCond .ne 17, 3) := by decide +kernel
theorem dX9_slotOf_39 : decode cX9_slotOf 39 = .ok (.iload_n 2, 1) := by decide +kernel
theorem dX9_slotOf_40 : decode cX9_slotOf 40 = .ok (.iconst 1, 1) := by decide +kernel
theorem dX9_slotOf_41 : decode cX9_slotOf 41 = .ok (.iadd, 1) := by decide +kernel
theorem dX9_slotOf_42 : decode cX9_slotOf 42 = .ok (.sipush 4096, 3) := by decide +kernel
theorem dX9_slotOf_45 : decode cX9_slotOf 45 = .ok (.irem, 1) := by decide +kernel
theorem dX9_slotOf_46 : decode cX9_slotOf 46 = .ok (.istore_n 2, 1) := by decide +kernel
theorem dX9_slotOf_47 : decode cX9_slotOf 47 = .ok (.iinc 3 1, 3) := by decide +kernel
theorem dX9_slotOf_50 : decode cX9_slotOf 50 = .ok (.goto (-43), 3) := by decide +kernel
theorem dX9_slotOf_53 : decode cX9_slotOf 53 = .ok (.iload_n 2, 1) := by decide +kernel
theorem dX9_slotOf_54 : decode cX9_slotOf 54 = .ok (.ireturn, 1) := by decide +kernel
theorem dX9_at_0 : decode cX9_at 0 = .ok (.aload_n 0, 1) := by decide +kernel
theorem dX9_at_1 : decode cX9_at 1 = .ok (.getfield 15, 3) := by decide +kernel
theorem dX9_at_4 : decode cX9_at 4 = .ok (.iload_n 1, 1) := by decide +kernel
theorem dX9_at_5 : decode cX9_at 5 = .ok (.iaload, 1) := by decide +kernel
theorem dX9_at_6 : decode cX9_at 6 = .ok (.iconst 1, 1) := by decide +kernel
theorem dX9_at_7 : decode cX9_at 7 = .ok (.isub, 1) := by decide +kernel
theorem dX9_at_8 : decode cX9_at 8 = .ok (.ireturn, 1) := by decide +kernel
theorem dX9_isFull_0 : decode cX9_isFull 0 = .ok (.aload_n 0, 1) := by decide +kernel
theorem dX9_isFull_1 : decode cX9_isFull 1 = .ok (.getfield 24, 3) := by decide +kernel
theorem dX9_isFull_4 : decode cX9_isFull 4 = .ok (.sipush 2000, 3) := by decide +kernel
theorem dX9_isFull_7 : decode cX9_isFull 7 = .ok (.if_icmp .lt 7, 3) := by decide +kernel
theorem dX9_isFull_10 : decode cX9_isFull 10 = .ok (.iconst 1, 1) := by decide +kernel
theorem dX9_isFull_11 : decode cX9_isFull 11 = .ok (.goto 4, 3) := by decide +kernel
theorem dX9_isFull_14 : decode cX9_isFull 14 = .ok (.iconst 0, 1) := by decide +kernel
theorem dX9_isFull_15 : decode cX9_isFull 15 = .ok (.ireturn, 1) := by decide +kernel
theorem dX9_add_0 : decode cX9_add 0 = .ok (.aload_n 0, 1) := by decide +kernel
theorem dX9_add_1 : decode cX9_add 1 = .ok (.getfield 24, 3) := by decide +kernel
theorem dX9_add_4 : decode cX9_add 4 = .ok (.sipush 2000, 3) := by decide +kernel
theorem dX9_add_7 : decode cX9_add 7 = .ok (.if_icmp .le 5, 3) := by decide +kernel
theorem dX9_add_10 : decode cX9_add 10 = .ok (.iconst (-1), 1) := by decide +kernel
theorem dX9_add_11 : decode cX9_add 11 = .ok (.ireturn, 1) := by decide +kernel
theorem dX9_add_12 : decode cX9_add 12 = .ok (.aload_n 2, 1) := by decide +kernel
theorem dX9_add_13 : decode cX9_add 13 = .ok (.iconst 0, 1) := by decide +kernel
theorem dX9_add_14 : decode cX9_add 14 = .ok (.aload_n 0, 1) := by decide +kernel
theorem dX9_add_15 : decode cX9_add 15 = .ok (.getfield 9, 3) := by decide +kernel
theorem dX9_add_18 : decode cX9_add 18 = .ok (.aload_n 0, 1) := by decide +kernel
theorem dX9_add_19 : decode cX9_add 19 = .ok (.getfield 24, 3) := by decide +kernel
theorem dX9_add_22 : decode cX9_add 22 = .ok (.bipush 8, 2) := by decide +kernel
theorem dX9_add_24 : decode cX9_add 24 = .ok (.imul, 1) := by decide +kernel
theorem dX9_add_25 : decode cX9_add 25 = .ok (.bipush 8, 2) := by decide +kernel
theorem dX9_add_27 : decode cX9_add 27 = .ok (.invokestatic 36, 3) := by decide +kernel
theorem dX9_add_30 : decode cX9_add 30 = .ok (.aload_n 0, 1) := by decide +kernel
theorem dX9_add_31 : decode cX9_add 31 = .ok (.getfield 15, 3) := by decide +kernel
theorem dX9_add_34 : decode cX9_add 34 = .ok (.iload_n 1, 1) := by decide +kernel
theorem dX9_add_35 : decode cX9_add 35 = .ok (.aload_n 0, 1) := by decide +kernel
theorem dX9_add_36 : decode cX9_add 36 = .ok (.getfield 24, 3) := by decide +kernel
theorem dX9_add_39 : decode cX9_add 39 = .ok (.iconst 1, 1) := by decide +kernel
theorem dX9_add_40 : decode cX9_add 40 = .ok (.iadd, 1) := by decide +kernel
theorem dX9_add_41 : decode cX9_add 41 = .ok (.iastore, 1) := by decide +kernel
theorem dX9_add_42 : decode cX9_add 42 = .ok (.aload_n 0, 1) := by decide +kernel
theorem dX9_add_43 : decode cX9_add 43 = .ok (.dup, 1) := by decide +kernel
theorem dX9_add_44 : decode cX9_add 44 = .ok (.getfield 24, 3) := by decide +kernel
theorem dX9_add_47 : decode cX9_add 47 = .ok (.iconst 1, 1) := by decide +kernel
theorem dX9_add_48 : decode cX9_add 48 = .ok (.iadd, 1) := by decide +kernel
theorem dX9_add_49 : decode cX9_add 49 = .ok (.putfield 24, 3) := by decide +kernel
theorem dX9_add_52 : decode cX9_add 52 = .ok (.aload_n 0, 1) := by decide +kernel
theorem dX9_add_53 : decode cX9_add 53 = .ok (.getfield 24, 3) := by decide +kernel
theorem dX9_add_56 : decode cX9_add 56 = .ok (.iconst 1, 1) := by decide +kernel
theorem dX9_add_57 : decode cX9_add 57 = .ok (.isub, 1) := by decide +kernel
theorem dX9_add_58 : decode cX9_add 58 = .ok (.ireturn, 1) := by decide +kernel
theorem dX9_copyTo_0 : decode cX9_copyTo 0 = .ok (.aload_n 0, 1) := by decide +kernel
theorem dX9_copyTo_1 : decode cX9_copyTo 1 = .ok (.getfield 9, 3) := by decide +kernel
theorem dX9_copyTo_4 : decode cX9_copyTo 4 = .ok (.iload_n 2, 1) := by decide +kernel
theorem dX9_copyTo_5 : decode cX9_copyTo 5 = .ok (.bipush 8, 2) := by decide +kernel
theorem dX9_copyTo_7 : decode cX9_copyTo 7 = .ok (.imul, 1) := by decide +kernel
theorem dX9_copyTo_8 : decode cX9_copyTo 8 = .ok (.aload_n 1, 1) := by decide +kernel
theorem dX9_copyTo_9 : decode cX9_copyTo 9 = .ok (.iconst 0, 1) := by decide +kernel
theorem dX9_copyTo_10 : decode cX9_copyTo 10 = .ok (.bipush 8, 2) := by decide +kernel
theorem dX9_copyTo_12 : decode cX9_copyTo 12 = .ok (.invokestatic 36, 3) := by decide +kernel
theorem dX9_copyTo_15 : decode cX9_copyTo 15 = .ok (.return_, 1) := by decide +kernel
theorem dX9_isAt_0 : decode cX9_isAt 0 = .ok (.iload_n 1, 1) := by decide +kernel
theorem dX9_isAt_1 : decode cX9_isAt 1 = .ok (.bipush 8, 2) := by decide +kernel
theorem dX9_isAt_3 : decode cX9_isAt 3 = .ok (.imul, 1) := by decide +kernel
theorem dX9_isAt_4 : decode cX9_isAt 4 = .ok (.istore_n 3, 1) := by decide +kernel
theorem dX9_isAt_5 : decode cX9_isAt 5 = .ok (.iconst 0, 1) := by decide +kernel
theorem dX9_isAt_6 : decode cX9_isAt 6 = .ok (.istore 4, 2) := by decide +kernel
theorem dX9_isAt_8 : decode cX9_isAt 8 = .ok (.iload 4, 2) := by decide +kernel
theorem dX9_isAt_10 : decode cX9_isAt 10 = .ok (.bipush 8, 2) := by decide +kernel
theorem dX9_isAt_12 : decode cX9_isAt 12 = .ok (.if_icmp .ge 27, 3) := by decide +kernel
theorem dX9_isAt_15 : decode cX9_isAt 15 = .ok (.aload_n 0, 1) := by decide +kernel
theorem dX9_isAt_16 : decode cX9_isAt 16 = .ok (.getfield 9, 3) := by decide +kernel
theorem dX9_isAt_19 : decode cX9_isAt 19 = .ok (.iload_n 3, 1) := by decide +kernel
theorem dX9_isAt_20 : decode cX9_isAt 20 = .ok (.iload 4, 2) := by decide +kernel
theorem dX9_isAt_22 : decode cX9_isAt 22 = .ok (.iadd, 1) := by decide +kernel
theorem dX9_isAt_23 : decode cX9_isAt 23 = .ok (.iaload, 1) := by decide +kernel
theorem dX9_isAt_24 : decode cX9_isAt 24 = .ok (.aload_n 2, 1) := by decide +kernel
theorem dX9_isAt_25 : decode cX9_isAt 25 = .ok (.iload 4, 2) := by decide +kernel
theorem dX9_isAt_27 : decode cX9_isAt 27 = .ok (.iaload, 1) := by decide +kernel
theorem dX9_isAt_28 : decode cX9_isAt 28 = .ok (.if_icmp .eq 5, 3) := by decide +kernel
theorem dX9_isAt_31 : decode cX9_isAt 31 = .ok (.iconst 0, 1) := by decide +kernel
theorem dX9_isAt_32 : decode cX9_isAt 32 = .ok (.ireturn, 1) := by decide +kernel
theorem dX9_isAt_33 : decode cX9_isAt 33 = .ok (.iinc 4 1, 3) := by decide +kernel
theorem dX9_isAt_36 : decode cX9_isAt 36 = .ok (.goto (-28), 3) := by decide +kernel
theorem dX9_isAt_39 : decode cX9_isAt 39 = .ok (.iconst 1, 1) := by decide +kernel
theorem dX9_isAt_40 : decode cX9_isAt 40 = .ok (.ireturn, 1) := by decide +kernel
theorem dX9_hash_0 : decode cX9_hash 0 = .ok (.iconst 0, 1) := by decide +kernel
theorem dX9_hash_1 : decode cX9_hash 1 = .ok (.istore_n 1, 1) := by decide +kernel
theorem dX9_hash_2 : decode cX9_hash 2 = .ok (.iconst 0, 1) := by decide +kernel
theorem dX9_hash_3 : decode cX9_hash 3 = .ok (.istore_n 2, 1) := by decide +kernel
theorem dX9_hash_4 : decode cX9_hash 4 = .ok (.iload_n 2, 1) := by decide +kernel
theorem dX9_hash_5 : decode cX9_hash 5 = .ok (.bipush 8, 2) := by decide +kernel
theorem dX9_hash_7 : decode cX9_hash 7 = .ok (.if_icmp .ge 25, 3) := by decide +kernel
theorem dX9_hash_10 : decode cX9_hash 10 = .ok (.iload_n 1, 1) := by decide +kernel
theorem dX9_hash_11 : decode cX9_hash 11 = .ok (.aload_n 0, 1) := by decide +kernel
theorem dX9_hash_12 : decode cX9_hash 12 = .ok (.iload_n 2, 1) := by decide +kernel
theorem dX9_hash_13 : decode cX9_hash 13 = .ok (.iaload, 1) := by decide +kernel
theorem dX9_hash_14 : decode cX9_hash 14 = .ok (.ixor, 1) := by decide +kernel
theorem dX9_hash_15 : decode cX9_hash 15 = .ok (.ldc 42, 2) := by decide +kernel
theorem dX9_hash_17 : decode cX9_hash 17 = .ok (.imul, 1) := by decide +kernel
theorem dX9_hash_18 : decode cX9_hash 18 = .ok (.istore_n 1, 1) := by decide +kernel
theorem dX9_hash_19 : decode cX9_hash 19 = .ok (.iload_n 1, 1) := by decide +kernel
theorem dX9_hash_20 : decode cX9_hash 20 = .ok (.iload_n 1, 1) := by decide +kernel
theorem dX9_hash_21 : decode cX9_hash 21 = .ok (.bipush 15, 2) := by decide +kernel
theorem dX9_hash_23 : decode cX9_hash 23 = .ok (.iushr, 1) := by decide +kernel
theorem dX9_hash_24 : decode cX9_hash 24 = .ok (.ixor, 1) := by decide +kernel
theorem dX9_hash_25 : decode cX9_hash 25 = .ok (.istore_n 1, 1) := by decide +kernel
theorem dX9_hash_26 : decode cX9_hash 26 = .ok (.iinc 2 1, 3) := by decide +kernel
theorem dX9_hash_29 : decode cX9_hash 29 = .ok (.goto (-25), 3) := by decide +kernel
theorem dX9_hash_32 : decode cX9_hash 32 = .ok (.iload_n 1, 1) := by decide +kernel
theorem dX9_hash_33 : decode cX9_hash 33 = .ok (.sipush 4095, 3) := by decide +kernel
theorem dX9_hash_36 : decode cX9_hash 36 = .ok (.iand, 1) := by decide +kernel
theorem dX9_hash_37 : decode cX9_hash 37 = .ok (.ireturn, 1) := by decide +kernel
theorem dX10_init_0 : decode cX10_init 0 = .ok (.aload_n 0, 1) := by decide +kernel
theorem dX10_init_1 : decode cX10_init 1 = .ok (.invokespecial 3, 3) := by decide +kernel
theorem dX10_init_4 : decode cX10_init 4 = .ok (.aload_n 0, 1) := by decide +kernel
theorem dX10_init_5 : decode cX10_init 5 = .ok (.bipush 32, 2) := by decide +kernel
theorem dX10_init_7 : decode cX10_init 7 = .ok (.newarray .int, 2) := by decide +kernel
theorem dX10_init_9 : decode cX10_init 9 = .ok (.putfield 11, 3) := by decide +kernel
theorem dX10_init_12 : decode cX10_init 12 = .ok (.return_, 1) := by decide +kernel
theorem dX10_begin_0 : decode cX10_begin 0 = .ok (.aload_n 0, 1) := by decide +kernel
theorem dX10_begin_1 : decode cX10_begin 1 = .ok (.iconst 0, 1) := by decide +kernel
theorem dX10_begin_2 : decode cX10_begin 2 = .ok (.putfield 15, 3) := by decide +kernel
theorem dX10_begin_5 : decode cX10_begin 5 = .ok (.aload_n 0, 1) := by decide +kernel
theorem dX10_begin_6 : decode cX10_begin 6 = .ok (.iconst 0, 1) := by decide +kernel
theorem dX10_begin_7 : decode cX10_begin 7 = .ok (.putfield 19, 3) := by decide +kernel
theorem dX10_begin_10 : decode cX10_begin 10 = .ok (.iconst 0, 1) := by decide +kernel
theorem dX10_begin_11 : decode cX10_begin 11 = .ok (.istore_n 1, 1) := by decide +kernel
theorem dX10_begin_12 : decode cX10_begin 12 = .ok (.iload_n 1, 1) := by decide +kernel
theorem dX10_begin_13 : decode cX10_begin 13 = .ok (.bipush 8, 2) := by decide +kernel
theorem dX10_begin_15 : decode cX10_begin 15 = .ok (.if_icmp .ge 37, 3) := by decide +kernel
theorem dX10_begin_18 : decode cX10_begin 18 = .ok (.aload_n 0, 1) := by decide +kernel
theorem dX10_begin_19 : decode cX10_begin 19 = .ok (.iload_n 1, 1) := by decide +kernel
theorem dX10_begin_20 : decode cX10_begin 20 = .ok (.iconst 0, 1) := by decide +kernel
theorem dX10_begin_21 : decode cX10_begin 21 = .ok (.iconst (-1), 1) := by decide +kernel
theorem dX10_begin_22 : decode cX10_begin 22 = .ok (.invokevirtual 22, 3) := by decide +kernel
theorem dX10_begin_25 : decode cX10_begin 25 = .ok (.aload_n 0, 1) := by decide +kernel
theorem dX10_begin_26 : decode cX10_begin 26 = .ok (.iload_n 1, 1) := by decide +kernel
theorem dX10_begin_27 : decode cX10_begin 27 = .ok (.iconst 1, 1) := by decide +kernel
theorem dX10_begin_28 : decode cX10_begin 28 = .ok (.iconst (-1), 1) := by decide +kernel
theorem dX10_begin_29 : decode cX10_begin 29 = .ok (.invokevirtual 22, 3) := by decide +kernel
theorem dX10_begin_32 : decode cX10_begin 32 = .ok (.aload_n 0, 1) := by decide +kernel
theorem dX10_begin_33 : decode cX10_begin 33 = .ok (.iload_n 1, 1) := by decide +kernel
theorem dX10_begin_34 : decode cX10_begin 34 = .ok (.iconst 2, 1) := by decide +kernel
theorem dX10_begin_35 : decode cX10_begin 35 = .ok (.iconst 0, 1) := by decide +kernel
theorem dX10_begin_36 : decode cX10_begin 36 = .ok (.invokevirtual 22, 3) := by decide +kernel
theorem dX10_begin_39 : decode cX10_begin 39 = .ok (.aload_n 0, 1) := by decide +kernel
theorem dX10_begin_40 : decode cX10_begin 40 = .ok (.iload_n 1, 1) := by decide +kernel
theorem dX10_begin_41 : decode cX10_begin 41 = .ok (.iconst 3, 1) := by decide +kernel
theorem dX10_begin_42 : decode cX10_begin 42 = .ok (.iconst (-1), 1) := by decide +kernel
theorem dX10_begin_43 : decode cX10_begin 43 = .ok (.invokevirtual 22, 3) := by decide +kernel
theorem dX10_begin_46 : decode cX10_begin 46 = .ok (.iinc 1 1, 3) := by decide +kernel
theorem dX10_begin_49 : decode cX10_begin 49 = .ok (.goto (-37), 3) := by decide +kernel
theorem dX10_begin_52 : decode cX10_begin 52 = .ok (.return_, 1) := by decide +kernel
theorem dX10_takeFrom_0 : decode cX10_takeFrom 0 = .ok (.aload_n 0, 1) := by decide +kernel
theorem dX10_takeFrom_1 : decode cX10_takeFrom 1 = .ok (.aload_n 1, 1) := by decide +kernel
theorem dX10_takeFrom_2 : decode cX10_takeFrom 2 = .ok (.getfield 15, 3) := by decide +kernel
theorem dX10_takeFrom_5 : decode cX10_takeFrom 5 = .ok (.putfield 15, 3) := by decide +kernel
theorem dX10_takeFrom_8 : decode cX10_takeFrom 8 = .ok (.aload_n 0, 1) := by decide +kernel
theorem dX10_takeFrom_9 : decode cX10_takeFrom 9 = .ok (.aload_n 1, 1) := by decide +kernel
theorem dX10_takeFrom_10 : decode cX10_takeFrom 10 = .ok (.getfield 19, 3) := by decide +kernel
theorem dX10_takeFrom_13 : decode cX10_takeFrom 13 = .ok (.putfield 19, 3) := by decide +kernel
theorem dX10_takeFrom_16 : decode cX10_takeFrom 16 = .ok (.aload_n 1, 1) := by decide +kernel
theorem dX10_takeFrom_17 : decode cX10_takeFrom 17 = .ok (.getfield 11, 3) := by decide +kernel
theorem dX10_takeFrom_20 : decode cX10_takeFrom 20 = .ok (.iconst 0, 1) := by decide +kernel
theorem dX10_takeFrom_21 : decode cX10_takeFrom 21 = .ok (.aload_n 0, 1) := by decide +kernel
theorem dX10_takeFrom_22 : decode cX10_takeFrom 22 = .ok (.getfield 11, 3) := by decide +kernel
theorem dX10_takeFrom_25 : decode cX10_takeFrom 25 = .ok (.iconst 0, 1) := by decide +kernel
theorem dX10_takeFrom_26 : decode cX10_takeFrom 26 = .ok (.bipush 32, 2) := by decide +kernel
theorem dX10_takeFrom_28 : decode cX10_takeFrom 28 = .ok (.invokestatic 26, 3) := by decide +kernel
theorem dX10_takeFrom_31 : decode cX10_takeFrom 31 = .ok (.return_, 1) := by decide +kernel
theorem dX10_get_0 : decode cX10_get 0 = .ok (.aload_n 0, 1) := by decide +kernel
theorem dX10_get_1 : decode cX10_get 1 = .ok (.getfield 11, 3) := by decide +kernel
theorem dX10_get_4 : decode cX10_get 4 = .ok (.iload_n 1, 1) := by decide +kernel
theorem dX10_get_5 : decode cX10_get 5 = .ok (.iconst 4, 1) := by decide +kernel
theorem dX10_get_6 : decode cX10_get 6 = .ok (.imul, 1) := by decide +kernel
theorem dX10_get_7 : decode cX10_get 7 = .ok (.iload_n 2, 1) := by decide +kernel
theorem dX10_get_8 : decode cX10_get 8 = .ok (.iadd, 1) := by decide +kernel
theorem dX10_get_9 : decode cX10_get 9 = .ok (.iaload, 1) := by decide +kernel
theorem dX10_get_10 : decode cX10_get 10 = .ok (.ireturn, 1) := by decide +kernel
theorem dX10_put_0 : decode cX10_put 0 = .ok (.aload_n 0, 1) := by decide +kernel
theorem dX10_put_1 : decode cX10_put 1 = .ok (.getfield 11, 3) := by decide +kernel
theorem dX10_put_4 : decode cX10_put 4 = .ok (.iload_n 1, 1) := by decide +kernel
theorem dX10_put_5 : decode cX10_put 5 = .ok (.iconst 4, 1) := by decide +kernel
theorem dX10_put_6 : decode cX10_put 6 = .ok (.imul, 1) := by decide +kernel
theorem dX10_put_7 : decode cX10_put 7 = .ok (.iload_n 2, 1) := by decide +kernel
theorem dX10_put_8 : decode cX10_put 8 = .ok (.iadd, 1) := by decide +kernel
theorem dX10_put_9 : decode cX10_put 9 = .ok (.iload_n 3, 1) := by decide +kernel
theorem dX10_put_10 : decode cX10_put 10 = .ok (.iastore, 1) := by decide +kernel
theorem dX10_put_11 : decode cX10_put 11 = .ok (.return_, 1) := by decide +kernel
theorem dX10_isOpen_0 : decode cX10_isOpen 0 = .ok (.aload_n 0, 1) := by decide +kernel
theorem dX10_isOpen_1 : decode cX10_isOpen 1 = .ok (.iload_n 1, 1) := by decide +kernel
theorem dX10_isOpen_2 : decode cX10_isOpen 2 = .ok (.iconst 3, 1) := by decide +kernel
theorem dX10_isOpen_3 : decode cX10_isOpen 3 = .ok (.invokevirtual 32, 3) := by decide +kernel
theorem dX10_isOpen_6 : decode cX10_isOpen 6 = .ok (.iconst (-1), 1) := by decide +kernel
theorem dX10_isOpen_7 : decode cX10_isOpen 7 = .ok (.if_icmp .ne 7, 3) := by decide +kernel
theorem dX10_isOpen_10 : decode cX10_isOpen 10 = .ok (.iconst 1, 1) := by decide +kernel
theorem dX10_isOpen_11 : decode cX10_isOpen 11 = .ok (.goto 4, 3) := by decide +kernel
theorem dX10_isOpen_14 : decode cX10_isOpen 14 = .ok (.iconst 0, 1) := by decide +kernel
theorem dX10_isOpen_15 : decode cX10_isOpen 15 = .ok (.ireturn, 1) := by decide +kernel
theorem dX11_init_0 : decode cX11_init 0 = .ok (.aload_n 0, 1) := by decide +kernel
theorem dX11_init_1 : decode cX11_init 1 = .ok (.invokespecial 1, 3) := by decide +kernel
theorem dX11_init_4 : decode cX11_init 4 = .ok (.aload_n 0, 1) := by decide +kernel
theorem dX11_init_5 : decode cX11_init 5 = .ok (.new 7, 3) := by decide +kernel
theorem dX11_init_8 : decode cX11_init 8 = .ok (.dup, 1) := by decide +kernel
theorem dX11_init_9 : decode cX11_init 9 = .ok (.invokespecial 9, 3) := by decide +kernel
theorem dX11_init_12 : decode cX11_init 12 = .ok (.putfield 10, 3) := by decide +kernel
theorem dX11_init_15 : decode cX11_init 15 = .ok (.aload_n 0, 1) := by decide +kernel
theorem dX11_init_16 : decode cX11_init 16 = .ok (.new 16, 3) := by decide +kernel
theorem dX11_init_19 : decode cX11_init 19 = .ok (.dup, 1) := by decide +kernel
theorem dX11_init_20 : decode cX11_init 20 = .ok (.invokespecial 18, 3) := by decide +kernel
theorem dX11_init_23 : decode cX11_init 23 = .ok (.putfield 19, 3) := by decide +kernel
theorem dX11_init_26 : decode cX11_init 26 = .ok (.aload_n 0, 1) := by decide +kernel
theorem dX11_init_27 : decode cX11_init 27 = .ok (.new 23, 3) := by decide +kernel
theorem dX11_init_30 : decode cX11_init 30 = .ok (.dup, 1) := by decide +kernel
theorem dX11_init_31 : decode cX11_init 31 = .ok (.invokespecial 25, 3) := by decide +kernel
theorem dX11_init_34 : decode cX11_init 34 = .ok (.putfield 26, 3) := by decide +kernel
theorem dX11_init_37 : decode cX11_init 37 = .ok (.aload_n 0, 1) := by decide +kernel
theorem dX11_init_38 : decode cX11_init 38 = .ok (.new 30, 3) := by decide +kernel
theorem dX11_init_41 : decode cX11_init 41 = .ok (.dup, 1) := by decide +kernel
theorem dX11_init_42 : decode cX11_init 42 = .ok (.aload_n 0, 1) := by decide +kernel
theorem dX11_init_43 : decode cX11_init 43 = .ok (.getfield 10, 3) := by decide +kernel
theorem dX11_init_46 : decode cX11_init 46 = .ok (.aload_n 0, 1) := by decide +kernel
theorem dX11_init_47 : decode cX11_init 47 = .ok (.getfield 19, 3) := by decide +kernel
theorem dX11_init_50 : decode cX11_init 50 = .ok (.invokespecial 32, 3) := by decide +kernel
theorem dX11_init_53 : decode cX11_init 53 = .ok (.putfield 35, 3) := by decide +kernel
theorem dX11_init_56 : decode cX11_init 56 = .ok (.aload_n 0, 1) := by decide +kernel
theorem dX11_init_57 : decode cX11_init 57 = .ok (.new 39, 3) := by decide +kernel
theorem dX11_init_60 : decode cX11_init 60 = .ok (.dup, 1) := by decide +kernel
theorem dX11_init_61 : decode cX11_init 61 = .ok (.aload_n 0, 1) := by decide +kernel
theorem dX11_init_62 : decode cX11_init 62 = .ok (.getfield 10, 3) := by decide +kernel
theorem dX11_init_65 : decode cX11_init 65 = .ok (.aload_n 0, 1) := by decide +kernel
theorem dX11_init_66 : decode cX11_init 66 = .ok (.getfield 19, 3) := by decide +kernel
theorem dX11_init_69 : decode cX11_init 69 = .ok (.aload_n 0, 1) := by decide +kernel
theorem dX11_init_70 : decode cX11_init 70 = .ok (.getfield 26, 3) := by decide +kernel
theorem dX11_init_73 : decode cX11_init 73 = .ok (.invokespecial 41, 3) := by decide +kernel
theorem dX11_init_76 : decode cX11_init 76 = .ok (.putfield 44, 3) := by decide +kernel
theorem dX11_init_79 : decode cX11_init 79 = .ok (.aload_n 0, 1) := by decide +kernel
theorem dX11_init_80 : decode cX11_init 80 = .ok (.new 48, 3) := by decide +kernel
theorem dX11_init_83 : decode cX11_init 83 = .ok (.dup, 1) := by decide +kernel
theorem dX11_init_84 : decode cX11_init 84 = .ok (.aload_n 0, 1) := by decide +kernel
theorem dX11_init_85 : decode cX11_init 85 = .ok (.getfield 10, 3) := by decide +kernel
theorem dX11_init_88 : decode cX11_init 88 = .ok (.aload_n 0, 1) := by decide +kernel
theorem dX11_init_89 : decode cX11_init 89 = .ok (.getfield 35, 3) := by decide +kernel
theorem dX11_init_92 : decode cX11_init 92 = .ok (.invokespecial 50, 3) := by decide +kernel
theorem dX11_init_95 : decode cX11_init 95 = .ok (.putfield 53, 3) := by decide +kernel
theorem dX11_init_98 : decode cX11_init 98 = .ok (.aload_n 0, 1) := by decide +kernel
theorem dX11_init_99 : decode cX11_init 99 = .ok (.new 57, 3) := by decide +kernel
theorem dX11_init_102 : decode cX11_init 102 = .ok (.dup, 1) := by decide +kernel
theorem dX11_init_103 : decode cX11_init 103 = .ok (.aload_n 0, 1) := by decide +kernel
theorem dX11_init_104 : decode cX11_init 104 = .ok (.getfield 10, 3) := by decide +kernel
theorem dX11_init_107 : decode cX11_init 107 = .ok (.aload_n 0, 1) := by decide +kernel
theorem dX11_init_108 : decode cX11_init 108 = .ok (.getfield 35, 3) := by decide +kernel
theorem dX11_init_111 : decode cX11_init 111 = .ok (.invokespecial 59, 3) := by decide +kernel
theorem dX11_init_114 : decode cX11_init 114 = .ok (.putfield 60, 3) := by decide +kernel
theorem dX11_init_117 : decode cX11_init 117 = .ok (.aload_n 0, 1) := by decide +kernel
theorem dX11_init_118 : decode cX11_init 118 = .ok (.new 64, 3) := by decide +kernel
theorem dX11_init_121 : decode cX11_init 121 = .ok (.dup, 1) := by decide +kernel
theorem dX11_init_122 : decode cX11_init 122 = .ok (.aload_n 0, 1) := by decide +kernel
theorem dX11_init_123 : decode cX11_init 123 = .ok (.getfield 10, 3) := by decide +kernel
theorem dX11_init_126 : decode cX11_init 126 = .ok (.invokespecial 66, 3) := by decide +kernel
theorem dX11_init_129 : decode cX11_init 129 = .ok (.putfield 69, 3) := by decide +kernel
theorem dX11_init_132 : decode cX11_init 132 = .ok (.aload_n 0, 1) := by decide +kernel
theorem dX11_init_133 : decode cX11_init 133 = .ok (.bipush 8, 2) := by decide +kernel
theorem dX11_init_135 : decode cX11_init 135 = .ok (.anewarray 16, 3) := by decide +kernel
theorem dX11_init_138 : decode cX11_init 138 = .ok (.putfield 73, 3) := by decide +kernel
theorem dX11_init_141 : decode cX11_init 141 = .ok (.aload_n 0, 1) := by decide +kernel
theorem dX11_init_142 : decode cX11_init 142 = .ok (.bipush 8, 2) := by decide +kernel
theorem dX11_init_144 : decode cX11_init 144 = .ok (.newarray .int, 2) := by decide +kernel
theorem dX11_init_146 : decode cX11_init 146 = .ok (.putfield 77, 3) := by decide +kernel
theorem dX11_init_149 : decode cX11_init 149 = .ok (.aload_n 0, 1) := by decide +kernel
theorem dX11_init_150 : decode cX11_init 150 = .ok (.bipush 8, 2) := by decide +kernel
theorem dX11_init_152 : decode cX11_init 152 = .ok (.newarray .int, 2) := by decide +kernel
theorem dX11_init_154 : decode cX11_init 154 = .ok (.putfield 81, 3) := by decide +kernel
theorem dX11_init_157 : decode cX11_init 157 = .ok (.aload_n 0, 1) := by decide +kernel
theorem dX11_init_158 : decode cX11_init 158 = .ok (.iconst 1, 1) := by decide +kernel
theorem dX11_init_159 : decode cX11_init 159 = .ok (.putfield 84, 3) := by decide +kernel
theorem dX11_init_162 : decode cX11_init 162 = .ok (.iconst 0, 1) := by decide +kernel
theorem dX11_init_163 : decode cX11_init 163 = .ok (.istore_n 1, 1) := by decide +kernel
theorem dX11_init_164 : decode cX11_init 164 = .ok (.iload_n 1, 1) := by decide +kernel
theorem dX11_init_165 : decode cX11_init 165 = .ok (.bipush 8, 2) := by decide +kernel
theorem dX11_init_167 : decode cX11_init 167 = .ok (.if_icmp .ge 22, 3) := by decide +kernel
theorem dX11_init_170 : decode cX11_init 170 = .ok (.aload_n 0, 1) := by decide +kernel
theorem dX11_init_171 : decode cX11_init 171 = .ok (.getfield 73, 3) := by decide +kernel
theorem dX11_init_174 : decode cX11_init 174 = .ok (.iload_n 1, 1) := by decide +kernel
theorem dX11_init_175 : decode cX11_init 175 = .ok (.new 16, 3) := by decide +kernel
theorem dX11_init_178 : decode cX11_init 178 = .ok (.dup, 1) := by decide +kernel
theorem dX11_init_179 : decode cX11_init 179 = .ok (.invokespecial 18, 3) := by decide +kernel
theorem dX11_init_182 : decode cX11_init 182 = .ok (.aastore, 1) := by decide +kernel
theorem dX11_init_183 : decode cX11_init 183 = .ok (.iinc 1 1, 3) := by decide +kernel
theorem dX11_init_186 : decode cX11_init 186 = .ok (.goto (-22), 3) := by decide +kernel
theorem dX11_init_189 : decode cX11_init 189 = .ok (.return_, 1) := by decide +kernel
theorem dX11_group_0 : decode cX11_group 0 = .ok (.iload_n 1, 1) := by decide +kernel
theorem dX11_group_1 : decode cX11_group 1 = .ok (.iload_n 2, 1) := by decide +kernel
theorem dX11_group_2 : decode cX11_group 2 = .ok (.iload_n 3, 1) := by decide +kernel
theorem dX11_group_3 : decode cX11_group 3 = .ok (.iload 4, 2) := by decide +kernel
theorem dX11_group_5 : decode cX11_group 5 = .ok (.invokestatic 88, 3) := by decide +kernel
theorem dX11_group_8 : decode cX11_group 8 = .ok (.ifCond .ne 5, 3) := by decide +kernel
theorem dX11_group_11 : decode cX11_group 11 = .ok (.iconst 0, 1) := by decide +kernel
theorem dX11_group_12 : decode cX11_group 12 = .ok (.ireturn, 1) := by decide +kernel
theorem dX11_group_13 : decode cX11_group 13 = .ok (.aload_n 0, 1) := by decide +kernel
theorem dX11_group_14 : decode cX11_group 14 = .ok (.getfield 10, 3) := by decide +kernel
theorem dX11_group_17 : decode cX11_group 17 = .ok (.iload_n 1, 1) := by decide +kernel
theorem dX11_group_18 : decode cX11_group 18 = .ok (.iload_n 2, 1) := by decide +kernel
theorem dX11_group_19 : decode cX11_group 19 = .ok (.iload_n 3, 1) := by decide +kernel
theorem dX11_group_20 : decode cX11_group 20 = .ok (.iload 4, 2) := by decide +kernel
theorem dX11_group_22 : decode cX11_group 22 = .ok (.invokevirtual 92, 3) := by decide +kernel
theorem dX11_group_25 : decode cX11_group 25 = .ok (.aload_n 0, 1) := by decide +kernel
theorem dX11_group_26 : decode cX11_group 26 = .ok (.getfield 19, 3) := by decide +kernel
theorem dX11_group_29 : decode cX11_group 29 = .ok (.invokevirtual 96, 3) := by decide +kernel
theorem dX11_group_32 : decode cX11_group 32 = .ok (.aload_n 0, 1) := by decide +kernel
theorem dX11_group_33 : decode cX11_group 33 = .ok (.getfield 26, 3) := by decide +kernel
theorem dX11_group_36 : decode cX11_group 36 = .ok (.invokevirtual 99, 3) := by decide +kernel
theorem dX11_group_39 : decode cX11_group 39 = .ok (.aload_n 0, 1) := by decide +kernel
theorem dX11_group_40 : decode cX11_group 40 = .ok (.getfield 69, 3) := by decide +kernel
theorem dX11_group_43 : decode cX11_group 43 = .ok (.invokevirtual 102, 3) := by decide +kernel
theorem dX11_group_46 : decode cX11_group 46 = .ok (.aload_n 0, 1) := by decide +kernel
theorem dX11_group_47 : decode cX11_group 47 = .ok (.getfield 81, 3) := by decide +kernel
theorem dX11_group_50 : decode cX11_group 50 = .ok (.iconst 0, 1) := by decide +kernel
theorem dX11_group_51 : decode cX11_group 51 = .ok (.invokestatic 105, 3) := by decide +kernel
theorem dX11_group_54 : decode cX11_group 54 = .ok (.aload_n 0, 1) := by decide +kernel
theorem dX11_group_55 : decode cX11_group 55 = .ok (.iconst 0, 1) := by decide +kernel
theorem dX11_group_56 : decode cX11_group 56 = .ok (.putfield 111, 3) := by decide +kernel
theorem dX11_group_59 : decode cX11_group 59 = .ok (.aload_n 0, 1) := by decide +kernel
theorem dX11_group_60 : decode cX11_group 60 = .ok (.iconst 0, 1) := by decide +kernel
theorem dX11_group_61 : decode cX11_group 61 = .ok (.putfield 114, 3) := by decide +kernel
theorem dX11_group_64 : decode cX11_group 64 = .ok (.aload_n 0, 1) := by decide +kernel
theorem dX11_group_65 : decode cX11_group 65 = .ok (.dup, 1) := by decide +kernel
theorem dX11_group_66 : decode cX11_group 66 = .ok (.getfield 84, 3) := by decide +kernel
theorem dX11_group_69 : decode cX11_group 69 = .ok (.iconst 1, 1) := by decide +kernel
theorem dX11_group_70 : decode cX11_group 70 = .ok (.iadd, 1) := by decide +kernel
theorem dX11_group_71 : decode cX11_group 71 = .ok (.putfield 84, 3) := by decide +kernel
theorem dX11_group_74 : decode cX11_group 74 = .ok (.iconst 1, 1) := by decide +kernel
theorem dX11_group_75 : decode cX11_group 75 = .ok (.ireturn, 1) := by decide +kernel
theorem dX11_protocol_0 : decode cX11_protocol 0 = .ok (.iload_n 1, 1) := by decide +kernel
theorem dX11_protocol_1 : decode cX11_protocol 1 = .ok (.ifCond .lt 8, 3) := by decide +kernel
theorem dX11_protocol_4 : decode cX11_protocol 4 = .ok (.iload_n 1, 1) := by decide +kernel
theorem dX11_protocol_5 : decode cX11_protocol 5 = .ok (.iconst 2, 1) := by decide +kernel
theorem dX11_protocol_6 : decode cX11_protocol 6 = .ok (.if_icmp .le 5, 3) := by decide +kernel
theorem dX11_protocol_9 : decode cX11_protocol 9 = .ok (.iconst (-1), 1) := by decide +kernel
theorem dX11_protocol_10 : decode cX11_protocol 10 = .ok (.ireturn, 1) := by decide +kernel
theorem dX11_protocol_11 : decode cX11_protocol 11 = .ok (.aload_n 0, 1) := by decide +kernel
theorem dX11_protocol_12 : decode cX11_protocol 12 = .ok (.getfield 10, 3) := by decide +kernel
theorem dX11_protocol_15 : decode cX11_protocol 15 = .ok (.getfield 117, 3) := by decide +kernel
theorem dX11_protocol_18 : decode cX11_protocol 18 = .ok (.istore_n 2, 1) := by decide +kernel
theorem dX11_protocol_19 : decode cX11_protocol 19 = .ok (.aload_n 0, 1) := by decide +kernel
theorem dX11_protocol_20 : decode cX11_protocol 20 = .ok (.getfield 10, 3) := by decide +kernel
theorem dX11_protocol_23 : decode cX11_protocol 23 = .ok (.iload_n 1, 1) := by decide +kernel
theorem dX11_protocol_24 : decode cX11_protocol 24 = .ok (.putfield 117, 3) := by decide +kernel
theorem dX11_protocol_27 : decode cX11_protocol 27 = .ok (.aload_n 0, 1) := by decide +kernel
theorem dX11_protocol_28 : decode cX11_protocol 28 = .ok (.dup, 1) := by decide +kernel
theorem dX11_protocol_29 : decode cX11_protocol 29 = .ok (.getfield 84, 3) := by decide +kernel
theorem dX11_protocol_32 : decode cX11_protocol 32 = .ok (.iconst 1, 1) := by decide +kernel
theorem dX11_protocol_33 : decode cX11_protocol 33 = .ok (.iadd, 1) := by decide +kernel
theorem dX11_protocol_34 : decode cX11_protocol 34 = .ok (.putfield 84, 3) := by decide +kernel
theorem dX11_protocol_37 : decode cX11_protocol 37 = .ok (.iload_n 2, 1) := by decide +kernel
theorem dX11_protocol_38 : decode cX11_protocol 38 = .ok (.ireturn, 1) := by decide +kernel
theorem dX11_early_0 : decode cX11_early 0 = .ok (.iload_n 1, 1) := by decide +kernel
theorem dX11_early_1 : decode cX11_early 1 = .ok (.iconst 1, 1) := by decide +kernel
theorem dX11_early_2 : decode cX11_early 2 = .ok (.if_icmp .lt 14, 3) := by decide +kernel
theorem dX11_early_5 : decode cX11_early 5 = .ok (.iload_n 1, 1) := by decide +kernel
theorem dX11_early_6 : decode cX11_early 6 = .ok (.aload_n 0, 1) := by decide +kernel
theorem dX11_early_7 : decode cX11_early 7 = .ok (.getfield 10, 3) := by decide +kernel
theorem dX11_early_10 : decode cX11_early 10 = .ok (.getfield 120, 3) := by decide +kernel
theorem dX11_early_13 : decode cX11_early 13 = .ok (.if_icmp .le 5, 3) := by decide +kernel
theorem dX11_early_16 : decode cX11_early 16 = .ok (.iconst (-1), 1) := by decide +kernel
theorem dX11_early_17 : decode cX11_early 17 = .ok (.ireturn, 1) := by decide +kernel
theorem dX11_early_18 : decode cX11_early 18 = .ok (.aload_n 0, 1) := by decide +kernel
theorem dX11_early_19 : decode cX11_early 19 = .ok (.getfield 10, 3) := by decide +kernel
theorem dX11_early_22 : decode cX11_early 22 = .ok (.getfield 123, 3) := by decide +kernel
theorem dX11_early_25 : decode cX11_early 25 = .ok (.istore_n 2, 1) := by decide +kernel
theorem dX11_early_26 : decode cX11_early 26 = .ok (.aload_n 0, 1) := by decide +kernel
theorem dX11_early_27 : decode cX11_early 27 = .ok (.getfield 10, 3) := by decide +kernel
theorem dX11_early_30 : decode cX11_early 30 = .ok (.iload_n 1, 1) := by decide +kernel
theorem dX11_early_31 : decode cX11_early 31 = .ok (.putfield 123, 3) := by decide +kernel
theorem dX11_early_34 : decode cX11_early 34 = .ok (.iload_n 2, 1) := by decide +kernel
theorem dX11_early_35 : decode cX11_early 35 = .ok (.ireturn, 1) := by decide +kernel
theorem dX11_kind_0 : decode cX11_kind 0 = .ok (.aload_n 0, 1) := by decide +kernel
theorem dX11_kind_1 : decode cX11_kind 1 = .ok (.getfield 10, 3) := by decide +kernel
theorem dX11_kind_4 : decode cX11_kind 4 = .ok (.iload_n 1, 1) := by decide +kernel
theorem dX11_kind_5 : decode cX11_kind 5 = .ok (.invokevirtual 126, 3) := by decide +kernel
theorem dX11_kind_8 : decode cX11_kind 8 = .ok (.ifCond .eq 12, 3) := by decide +kernel
theorem dX11_kind_11 : decode cX11_kind 11 = .ok (.iload_n 2, 1) := by decide +kernel
theorem dX11_kind_12 : decode cX11_kind 12 = .ok (.ifCond .lt 8, 3) := by decide +kernel
theorem dX11_kind_15 : decode cX11_kind 15 = .ok (.iload_n 2, 1) := by decide +kernel
theorem dX11_kind_16 : decode cX11_kind 16 = .ok (.iconst 4, 1) := by decide +kernel
theorem dX11_kind_17 : decode cX11_kind 17 = .ok (.if_icmp .le 5, 3) := by decide +kernel
theorem dX11_kind_20 : decode cX11_kind 20 = .ok (.iconst (-1), 1) := by decide +kernel
theorem dX11_kind_21 : decode cX11_kind 21 = .ok (.ireturn, 1) := by decide +kernel
theorem dX11_kind_22 : decode cX11_kind 22 = .ok (.aload_n 0, 1) := by decide +kernel
theorem dX11_kind_23 : decode cX11_kind 23 = .ok (.invokevirtual 130, 3) := by decide +kernel
theorem dX11_kind_26 : decode cX11_kind 26 = .ok (.aload_n 0, 1) := by decide +kernel
theorem dX11_kind_27 : decode cX11_kind 27 = .ok (.getfield 19, 3) := by decide +kernel
theorem dX11_kind_30 : decode cX11_kind 30 = .ok (.getfield 133, 3) := by decide +kernel
theorem dX11_kind_33 : decode cX11_kind 33 = .ok (.iload_n 1, 1) := by decide +kernel
theorem dX11_kind_34 : decode cX11_kind 34 = .ok (.iaload, 1) := by decide +kernel
theorem dX11_kind_35 : decode cX11_kind 35 = .ok (.istore_n 3, 1) := by decide +kernel
theorem dX11_kind_36 : decode cX11_kind 36 = .ok (.aload_n 0, 1) := by decide +kernel
theorem dX11_kind_37 : decode cX11_kind 37 = .ok (.getfield 19, 3) := by decide +kernel
theorem dX11_kind_40 : decode cX11_kind 40 = .ok (.getfield 133, 3) := by decide +kernel
theorem dX11_kind_43 : decode cX11_kind 43 = .ok (.iload_n 1, 1) := by decide +kernel
theorem dX11_kind_44 : decode cX11_kind 44 = .ok (.iload_n 2, 1) := by decide +kernel
theorem dX11_kind_45 : decode cX11_kind 45 = .ok (.iastore, 1) := by decide +kernel
theorem dX11_kind_46 : decode cX11_kind 46 = .ok (.iload_n 3, 1) := by decide +kernel
theorem dX11_kind_47 : decode cX11_kind 47 = .ok (.ireturn, 1) := by decide +kernel
theorem dX11_link_0 : decode cX11_link 0 = .ok (.aload_n 0, 1) := by decide +kernel
theorem dX11_link_1 : decode cX11_link 1 = .ok (.getfield 10, 3) := by decide +kernel
theorem dX11_link_4 : decode cX11_link 4 = .ok (.iload_n 1, 1) := by decide +kernel
theorem dX11_link_5 : decode cX11_link 5 = .ok (.invokevirtual 126, 3) := by decide +kernel
theorem dX11_link_8 : decode cX11_link 8 = .ok (.ifCond .eq 32, 3) := by decide +kernel
theorem dX11_link_11 : decode cX11_link 11 = .ok (.aload_n 0, 1) := by decide +kernel
theorem dX11_link_12 : decode cX11_link 12 = .ok (.getfield 10, 3) := by decide +kernel
theorem dX11_link_15 : decode cX11_link 15 = .ok (.iload_n 2, 1) := by decide +kernel
theorem dX11_link_16 : decode cX11_link 16 = .ok (.invokevirtual 126, 3) := by decide +kernel
theorem dX11_link_19 : decode cX11_link 19 = .ok (.ifCond .eq 21, 3) := by decide +kernel
theorem dX11_link_22 : decode cX11_link 22 = .ok (.iload_n 1, 1) := by decide +kernel
theorem dX11_link_23 : decode cX11_link 23 = .ok (.iload_n 2, 1) := by decide +kernel
theorem dX11_link_24 : decode cX11_link 24 = .ok (.if_icmp .eq 16, 3) := by decide +kernel
theorem dX11_link_27 : decode cX11_link 27 = .ok (.aload_n 0, 1) := by decide +kernel
theorem dX11_link_28 : decode cX11_link 28 = .ok (.getfield 19, 3) := by decide +kernel
theorem dX11_link_31 : decode cX11_link 31 = .ok (.iload_n 1, 1) := by decide +kernel
theorem dX11_link_32 : decode cX11_link 32 = .ok (.iload_n 2, 1) := by decide +kernel
theorem dX11_link_33 : decode cX11_link 33 = .ok (.invokevirtual 136, 3) := by decide +kernel
theorem dX11_link_36 : decode cX11_link 36 = .ok (.iload_n 3, 1) := by decide +kernel
theorem dX11_link_37 : decode cX11_link 37 = .ok (.if_icmp .ne 5, 3) := by decide +kernel
theorem dX11_link_40 : decode cX11_link 40 = .ok (.iconst 0, 1) := by decide +kernel
theorem dX11_link_41 : decode cX11_link 41 = .ok (.ireturn, 1) := by decide +kernel
theorem dX11_link_42 : decode cX11_link 42 = .ok (.aload_n 0, 1) := by decide +kernel
theorem dX11_link_43 : decode cX11_link 43 = .ok (.invokevirtual 130, 3) := by decide +kernel
theorem dX11_link_46 : decode cX11_link 46 = .ok (.aload_n 0, 1) := by decide +kernel
theorem dX11_link_47 : decode cX11_link 47 = .ok (.getfield 19, 3) := by decide +kernel
theorem dX11_link_50 : decode cX11_link 50 = .ok (.getfield 140, 3) := by decide +kernel
theorem dX11_link_53 : decode cX11_link 53 = .ok (.iload_n 1, 1) := by decide +kernel
theorem dX11_link_54 : decode cX11_link 54 = .ok (.dup2, 1) := by decide +kernel
theorem dX11_link_55 : decode cX11_link 55 = .ok (.iaload, 1) := by decide +kernel
theorem dX11_link_56 : decode cX11_link 56 = .ok (.iconst 1, 1) := by decide +kernel
theorem dX11_link_57 : decode cX11_link 57 = .ok (.iload_n 2, 1) := by decide +kernel
theorem dX11_link_58 : decode cX11_link 58 = .ok (.ishl, 1) := by decide +kernel
theorem dX11_link_59 : decode cX11_link 59 = .ok (.ixor, 1) := by decide +kernel
theorem dX11_link_60 : decode cX11_link 60 = .ok (.iastore, 1) := by decide +kernel
theorem dX11_link_61 : decode cX11_link 61 = .ok (.aload_n 0, 1) := by decide +kernel
theorem dX11_link_62 : decode cX11_link 62 = .ok (.getfield 19, 3) := by decide +kernel
theorem dX11_link_65 : decode cX11_link 65 = .ok (.getfield 140, 3) := by decide +kernel
theorem dX11_link_68 : decode cX11_link 68 = .ok (.iload_n 2, 1) := by decide +kernel
theorem dX11_link_69 : decode cX11_link 69 = .ok (.dup2, 1) := by decide +kernel
theorem dX11_link_70 : decode cX11_link 70 = .ok (.iaload, 1) := by decide +kernel
theorem dX11_link_71 : decode cX11_link 71 = .ok (.iconst 1, 1) := by decide +kernel
theorem dX11_link_72 : decode cX11_link 72 = .ok (.iload_n 1, 1) := by decide +kernel
theorem dX11_link_73 : decode cX11_link 73 = .ok (.ishl, 1) := by decide +kernel
theorem dX11_link_74 : decode cX11_link 74 = .ok (.ixor, 1) := by decide +kernel
theorem dX11_link_75 : decode cX11_link 75 = .ok (.iastore, 1) := by decide +kernel
theorem dX11_link_76 : decode cX11_link 76 = .ok (.iconst 1, 1) := by decide +kernel
theorem dX11_link_77 : decode cX11_link 77 = .ok (.ireturn, 1) := by decide +kernel
theorem dX11_colour_0 : decode cX11_colour 0 = .ok (.aload_n 0, 1) := by decide +kernel
theorem dX11_colour_1 : decode cX11_colour 1 = .ok (.getfield 10, 3) := by decide +kernel
theorem dX11_colour_4 : decode cX11_colour 4 = .ok (.iload_n 1, 1) := by decide +kernel
theorem dX11_colour_5 : decode cX11_colour 5 = .ok (.invokevirtual 126, 3) := by decide +kernel
theorem dX11_colour_8 : decode cX11_colour 8 = .ok (.ifCond .eq 13, 3) := by decide +kernel
theorem dX11_colour_11 : decode cX11_colour 11 = .ok (.iload_n 2, 1) := by decide +kernel
theorem dX11_colour_12 : decode cX11_colour 12 = .ok (.iconst (-1), 1) := by decide +kernel
theorem dX11_colour_13 : decode cX11_colour 13 = .ok (.if_icmp .lt 8, 3) := by decide +kernel
theorem dX11_colour_16 : decode cX11_colour 16 = .ok (.iload_n 2, 1) := by decide +kernel
theorem dX11_colour_17 : decode cX11_colour 17 = .ok (.iconst 1, 1) := by decide +kernel
theorem dX11_colour_18 : decode cX11_colour 18 = .ok (.if_icmp .le 5, 3) := by decide +kernel
theorem dX11_colour_21 : decode cX11_colour 21 = .ok (.iconst 0, 1) := by decide +kernel
theorem dX11_colour_22 : decode cX11_colour 22 = .ok (.ireturn, 1) := by decide +kernel
theorem dX11_colour_23 : decode cX11_colour 23 = .ok (.aload_n 0, 1) := by decide +kernel
theorem dX11_colour_24 : decode cX11_colour 24 = .ok (.invokevirtual 130, 3) := by decide +kernel
theorem dX11_colour_27 : decode cX11_colour 27 = .ok (.aload_n 0, 1) := by decide +kernel
theorem dX11_colour_28 : decode cX11_colour 28 = .ok (.getfield 19, 3) := by decide +kernel
theorem dX11_colour_31 : decode cX11_colour 31 = .ok (.getfield 143, 3) := by decide +kernel
theorem dX11_colour_34 : decode cX11_colour 34 = .ok (.iload_n 1, 1) := by decide +kernel
theorem dX11_colour_35 : decode cX11_colour 35 = .ok (.iconst 0, 1) := by decide +kernel
theorem dX11_colour_36 : decode cX11_colour 36 = .ok (.iload_n 2, 1) := by decide +kernel
theorem dX11_colour_37 : decode cX11_colour 37 = .ok (.invokestatic 146, 3) := by decide +kernel
theorem dX11_colour_40 : decode cX11_colour 40 = .ok (.iastore, 1) := by decide +kernel
theorem dX11_colour_41 : decode cX11_colour 41 = .ok (.iconst 1, 1) := by decide +kernel
theorem dX11_colour_42 : decode cX11_colour 42 = .ok (.ireturn, 1) := by decide +kernel
theorem dX11_query_0 : decode cX11_query 0 = .ok (.aload_n 0, 1) := by decide +kernel
theorem dX11_query_1 : decode cX11_query 1 = .ok (.iload_n 1, 1) := by decide +kernel
theorem dX11_query_2 : decode cX11_query 2 = .ok (.iload_n 2, 1) := by decide +kernel
theorem dX11_query_3 : decode cX11_query 3 = .ok (.invokevirtual 150, 3) := by decide +kernel
theorem dX11_query_6 : decode cX11_query 6 = .ok (.ifCond .ne 5, 3) := by decide +kernel
theorem dX11_query_9 : decode cX11_query 9 = .ok (.iconst (-1), 1) := by decide +kernel
theorem dX11_query_10 : decode cX11_query 10 = .ok (.ireturn, 1) := by decide +kernel
theorem dX11_query_11 : decode cX11_query 11 = .ok (.aload_n 0, 1) := by decide +kernel
theorem dX11_query_12 : decode cX11_query 12 = .ok (.invokevirtual 130, 3) := by decide +kernel
theorem dX11_query_15 : decode cX11_query 15 = .ok (.aload_n 0, 1) := by decide +kernel
theorem dX11_query_16 : decode cX11_query 16 = .ok (.iload_n 1, 1) := by decide +kernel
theorem dX11_query_17 : decode cX11_query 17 = .ok (.iload_n 2, 1) := by decide +kernel
theorem dX11_query_18 : decode cX11_query 18 = .ok (.invokevirtual 153, 3) := by decide +kernel
theorem dX11_query_21 : decode cX11_query 21 = .ok (.ireturn, 1) := by decide +kernel
theorem dX11_would_0 : decode cX11_would 0 = .ok (.aload_n 0, 1) := by decide +kernel
theorem dX11_would_1 : decode cX11_would 1 = .ok (.iload_n 1, 1) := by decide +kernel
theorem dX11_would_2 : decode cX11_would 2 = .ok (.iload_n 2, 1) := by decide +kernel
theorem dX11_would_3 : decode cX11_would 3 = .ok (.invokevirtual 150, 3) := by decide +kernel
theorem dX11_would_6 : decode cX11_would 6 = .ok (.ifCond .ne 5, 3) := by decide +kernel
theorem dX11_would_9 : decode cX11_would 9 = .ok (.iconst (-1), 1) := by decide +kernel
theorem dX11_would_10 : decode cX11_would 10 = .ok (.ireturn, 1) := by decide +kernel
theorem dX11_would_11 : decode cX11_would 11 = .ok (.aload_n 0, 1) := by decide +kernel
theorem dX11_would_12 : decode cX11_would 12 = .ok (.getfield 19, 3) := by decide +kernel
theorem dX11_would_15 : decode cX11_would 15 = .ok (.getfield 143, 3) := by decide +kernel
theorem dX11_would_18 : decode cX11_would 18 = .ok (.iconst 0, 1) := by decide +kernel
theorem dX11_would_19 : decode cX11_would 19 = .ok (.aload_n 0, 1) := by decide +kernel
theorem dX11_would_20 : decode cX11_would 20 = .ok (.getfield 77, 3) := by decide +kernel
theorem dX11_would_23 : decode cX11_would 23 = .ok (.iconst 0, 1) := by decide +kernel
theorem dX11_would_24 : decode cX11_would 24 = .ok (.bipush 8, 2) := by decide +kernel
theorem dX11_would_26 : decode cX11_would 26 = .ok (.invokestatic 156, 3) := by decide +kernel
theorem dX11_would_29 : decode cX11_would 29 = .ok (.aload_n 0, 1) := by decide +kernel
theorem dX11_would_30 : decode cX11_would 30 = .ok (.getfield 35, 3) := by decide +kernel
theorem dX11_would_33 : decode cX11_would 33 = .ok (.aload_n 0, 1) := by decide +kernel
theorem dX11_would_34 : decode cX11_would 34 = .ok (.getfield 77, 3) := by decide +kernel
theorem dX11_would_37 : decode cX11_would 37 = .ok (.iload_n 1, 1) := by decide +kernel
theorem dX11_would_38 : decode cX11_would 38 = .ok (.aload_n 0, 1) := by decide +kernel
theorem dX11_would_39 : decode cX11_would 39 = .ok (.getfield 35, 3) := by decide +kernel
theorem dX11_would_42 : decode cX11_would 42 = .ok (.iload_n 2, 1) := by decide +kernel
theorem dX11_would_43 : decode cX11_would 43 = .ok (.invokevirtual 162, 3) := by decide +kernel
theorem dX11_would_46 : decode cX11_would 46 = .ok (.iload_n 2, 1) := by decide +kernel
theorem dX11_would_47 : decode cX11_would 47 = .ok (.invokevirtual 166, 3) := by decide +kernel
theorem dX11_would_50 : decode cX11_would 50 = .ok (.aload_n 0, 1) := by decide +kernel
theorem dX11_would_51 : decode cX11_would 51 = .ok (.getfield 19, 3) := by decide +kernel
theorem dX11_would_54 : decode cX11_would 54 = .ok (.getfield 143, 3) := by decide +kernel
theorem dX11_would_57 : decode cX11_would 57 = .ok (.iload_n 1, 1) := by decide +kernel
theorem dX11_would_58 : decode cX11_would 58 = .ok (.iaload, 1) := by decide +kernel
theorem dX11_would_59 : decode cX11_would 59 = .ok (.aload_n 0, 1) := by decide +kernel
theorem dX11_would_60 : decode cX11_would 60 = .ok (.getfield 77, 3) := by decide +kernel
theorem dX11_would_63 : decode cX11_would 63 = .ok (.iload_n 1, 1) := by decide +kernel
theorem dX11_would_64 : decode cX11_would 64 = .ok (.iaload, 1) := by decide +kernel
theorem dX11_would_65 : decode cX11_would 65 = .ok (.invokestatic 170, 3) := by decide +kernel
theorem dX11_would_68 : decode cX11_would 68 = .ok (.ireturn, 1) := by decide +kernel
theorem dX11_run_0 : decode cX11_run 0 = .ok (.iload_n 1, 1) := by decide +kernel
theorem dX11_run_1 : decode cX11_run 1 = .ok (.iconst 1, 1) := by decide +kernel
theorem dX11_run_2 : decode cX11_run 2 = .ok (.if_icmp .lt 10, 3) := by decide +kernel
theorem dX11_run_5 : decode cX11_run 5 = .ok (.iload_n 1, 1) := by decide +kernel
theorem dX11_run_6 : decode cX11_run 6 = .ok (.sipush 300, 3) := by decide +kernel
theorem dX11_run_9 : decode cX11_run 9 = .ok (.if_icmp .le 5, 3) := by decide +kernel
theorem dX11_run_12 : decode cX11_run 12 = .ok (.iconst (-1), 1) := by decide +kernel
theorem dX11_run_13 : decode cX11_run 13 = .ok (.ireturn, 1) := by decide +kernel
theorem dX11_run_14 : decode cX11_run 14 = .ok (.aload_n 0, 1) := by decide +kernel
theorem dX11_run_15 : decode cX11_run 15 = .ok (.invokevirtual 130, 3) := by decide +kernel
theorem dX11_run_18 : decode cX11_run 18 = .ok (.aload_n 0, 1) := by decide +kernel
theorem dX11_run_19 : decode cX11_run 19 = .ok (.iload_n 2, 1) := by decide +kernel
theorem dX11_run_20 : decode cX11_run 20 = .ok (.putfield 173, 3) := by decide +kernel
theorem dX11_run_23 : decode cX11_run 23 = .ok (.iconst 0, 1) := by decide +kernel
theorem dX11_run_24 : decode cX11_run 24 = .ok (.istore_n 3, 1) := by decide +kernel
theorem dX11_run_25 : decode cX11_run 25 = .ok (.iconst 0, 1) := by decide +kernel
theorem dX11_run_26 : decode cX11_run 26 = .ok (.istore 4, 2) := by decide +kernel
theorem dX11_run_28 : decode cX11_run 28 = .ok (.iload 4, 2) := by decide +kernel
theorem dX11_run_30 : decode cX11_run 30 = .ok (.iload_n 1, 1) := by decide +kernel
theorem dX11_run_31 : decode cX11_run 31 = .ok (.if_icmp .ge 56, 3) := by decide +kernel
theorem dX11_run_34 : decode cX11_run 34 = .ok (.aload_n 0, 1) := by decide +kernel
theorem dX11_run_35 : decode cX11_run 35 = .ok (.aload_n 0, 1) := by decide +kernel
theorem dX11_run_36 : decode cX11_run 36 = .ok (.getfield 10, 3) := by decide +kernel
theorem dX11_run_39 : decode cX11_run 39 = .ok (.getfield 176, 3) := by decide +kernel
theorem dX11_run_42 : decode cX11_run 42 = .ok (.invokevirtual 178, 3) := by decide +kernel
theorem dX11_run_45 : decode cX11_run 45 = .ok (.istore 5, 2) := by decide +kernel
theorem dX11_run_47 : decode cX11_run 47 = .ok (.aload_n 0, 1) := by decide +kernel
theorem dX11_run_48 : decode cX11_run 48 = .ok (.iload 5, 2) := by decide +kernel
theorem dX11_run_50 : decode cX11_run 50 = .ok (.invokevirtual 181, 3) := by decide +kernel
theorem dX11_run_53 : decode cX11_run 53 = .ok (.istore 6, 2) := by decide +kernel
theorem dX11_run_55 : decode cX11_run 55 = .ok (.aload_n 0, 1) := by decide +kernel
theorem dX11_run_56 : decode cX11_run 56 = .ok (.iload 5, 2) := by decide +kernel
theorem dX11_run_58 : decode cX11_run 58 = .ok (.iload 6, 2) := by decide +kernel
theorem dX11_run_60 : decode cX11_run 60 = .ok (.invokevirtual 150, 3) := by decide +kernel
theorem dX11_run_63 : decode cX11_run 63 = .ok (.ifCond .eq 18, 3) := by decide +kernel
theorem dX11_run_66 : decode cX11_run 66 = .ok (.aload_n 0, 1) := by decide +kernel
theorem dX11_run_67 : decode cX11_run 67 = .ok (.iload 5, 2) := by decide +kernel
theorem dX11_run_69 : decode cX11_run 69 = .ok (.iload 6, 2) := by decide +kernel
theorem dX11_run_71 : decode cX11_run 71 = .ok (.invokevirtual 153, 3) := by decide +kernel
theorem dX11_run_74 : decode cX11_run 74 = .ok (.iconst 2, 1) := by decide +kernel
theorem dX11_run_75 : decode cX11_run 75 = .ok (.if_icmp .ne 6, 3) := by decide +kernel
theorem dX11_run_78 : decode cX11_run 78 = .ok (.iinc 3 1, 3) := by decide +kernel
theorem dX11_run_81 : decode cX11_run 81 = .ok (.iinc 4 1, 3) := by decide +kernel
theorem dX11_run_84 : decode cX11_run 84 = .ok (.goto (-56), 3) := by decide +kernel
theorem dX11_run_87 : decode cX11_run 87 = .ok (.iload_n 3, 1) := by decide +kernel
theorem dX11_run_88 : decode cX11_run 88 = .ok (.ireturn, 1) := by decide +kernel
theorem dX11_node_0 : decode cX11_node 0 = .ok (.aload_n 0, 1) := by decide +kernel
theorem dX11_node_1 : decode cX11_node 1 = .ok (.getfield 10, 3) := by decide +kernel
theorem dX11_node_4 : decode cX11_node 4 = .ok (.iload_n 1, 1) := by decide +kernel
theorem dX11_node_5 : decode cX11_node 5 = .ok (.invokevirtual 126, 3) := by decide +kernel
theorem dX11_node_8 : decode cX11_node 8 = .ok (.ifCond .ne 6, 3) := by decide +kernel
theorem dX11_node_11 : decode cX11_node 11 = .ok (.bipush (-2), 2) := by decide +kernel
theorem dX11_node_13 : decode cX11_node 13 = .ok (.ireturn, 1) := by decide +kernel
theorem dX11_node_14 : decode cX11_node 14 = .ok (.aload_n 0, 1) := by decide +kernel
theorem dX11_node_15 : decode cX11_node 15 = .ok (.getfield 19, 3) := by decide +kernel
theorem dX11_node_18 : decode cX11_node 18 = .ok (.getfield 143, 3) := by decide +kernel
theorem dX11_node_21 : decode cX11_node 21 = .ok (.iload_n 1, 1) := by decide +kernel
theorem dX11_node_22 : decode cX11_node 22 = .ok (.iaload, 1) := by decide +kernel
theorem dX11_node_23 : decode cX11_node 23 = .ok (.istore_n 3, 1) := by decide +kernel
theorem dX11_node_24 : decode cX11_node 24 = .ok (.iload_n 2, 1) := by decide +kernel
theorem dX11_node_25 : decode cX11_node 25 = .ok (.tableswitch 104 0 7 #[47, 52, 57, 62, 68, 74, 87, 97], 47) := by decide +kernel
theorem dX11_node_72 : decode cX11_node 72 = .ok (.iload_n 3, 1) := by decide +kernel
theorem dX11_node_73 : decode cX11_node 73 = .ok (.invokestatic 184, 3) := by decide +kernel
theorem dX11_node_76 : decode cX11_node 76 = .ok (.ireturn, 1) := by decide +kernel
theorem dX11_node_77 : decode cX11_node 77 = .ok (.iload_n 3, 1) := by decide +kernel
theorem dX11_node_78 : decode cX11_node 78 = .ok (.invokestatic 187, 3) := by decide +kernel
theorem dX11_node_81 : decode cX11_node 81 = .ok (.ireturn, 1) := by decide +kernel
theorem dX11_node_82 : decode cX11_node 82 = .ok (.iload_n 3, 1) := by decide +kernel
theorem dX11_node_83 : decode cX11_node 83 = .ok (.invokestatic 190, 3) := by decide +kernel
theorem dX11_node_86 : decode cX11_node 86 = .ok (.ireturn, 1) := by decide +kernel
theorem dX11_node_87 : decode cX11_node 87 = .ok (.iload_n 3, 1) := by decide +kernel
theorem dX11_node_88 : decode cX11_node 88 = .ok (.iconst 0, 1) := by decide +kernel
theorem dX11_node_89 : decode cX11_node 89 = .ok (.invokestatic 193, 3) := by decide +kernel
theorem dX11_node_92 : decode cX11_node 92 = .ok (.ireturn, 1) := by decide +kernel
theorem dX11_node_93 : decode cX11_node 93 = .ok (.iload_n 3, 1) := by decide +kernel
theorem dX11_node_94 : decode cX11_node 94 = .ok (.iconst 1, 1) := by decide +kernel
theorem dX11_node_95 : decode cX11_node 95 = .ok (.invokestatic 193, 3) := by decide +kernel
theorem dX11_node_98 : decode cX11_node 98 = .ok (.ireturn, 1) := by decide +kernel
theorem dX11_node_99 : decode cX11_node 99 = .ok (.iload_n 3, 1) := by decide +kernel
theorem dX11_node_100 : decode cX11_node 100 = .ok (.invokestatic 196, 3) := by decide +kernel
theorem dX11_node_103 : decode cX11_node 103 = .ok (.ifCond .eq 7, 3) := by decide +kernel
theorem dX11_node_106 : decode cX11_node 106 = .ok (.iconst 1, 1) := by decide +kernel
theorem dX11_node_107 : decode cX11_node 107 = .ok (.goto 4, 3) := by decide +kernel
theorem dX11_node_110 : decode cX11_node 110 = .ok (.iconst 0, 1) := by decide +kernel
theorem dX11_node_111 : decode cX11_node 111 = .ok (.ireturn, 1) := by decide +kernel
theorem dX11_node_112 : decode cX11_node 112 = .ok (.aload_n 0, 1) := by decide +kernel
theorem dX11_node_113 : decode cX11_node 113 = .ok (.getfield 19, 3) := by decide +kernel
theorem dX11_node_116 : decode cX11_node 116 = .ok (.getfield 133, 3) := by decide +kernel
theorem dX11_node_119 : decode cX11_node 119 = .ok (.iload_n 1, 1) := by decide +kernel
theorem dX11_node_120 : decode cX11_node 120 = .ok (.iaload, 1) := by decide +kernel
theorem dX11_node_121 : decode cX11_node 121 = .ok (.ireturn, 1) := by decide +kernel
theorem dX11_node_122 : decode cX11_node 122 = .ok (.aload_n 0, 1) := by decide +kernel
theorem dX11_node_123 : decode cX11_node 123 = .ok (.getfield 81, 3) := by decide +kernel
theorem dX11_node_126 : decode cX11_node 126 = .ok (.iload_n 1, 1) := by decide +kernel
theorem dX11_node_127 : decode cX11_node 127 = .ok (.iaload, 1) := by decide +kernel
theorem dX11_node_128 : decode cX11_node 128 = .ok (.ireturn, 1) := by decide +kernel
theorem dX11_node_129 : decode cX11_node 129 = .ok (.bipush (-2), 2) := by decide +kernel
theorem dX11_node_131 : decode cX11_node 131 = .ok (.ireturn, 1) := by decide +kernel
theorem dX11_exact_0 : decode cX11_exact 0 = .ok (.iload_n 1, 1) := by decide +kernel
theorem dX11_exact_1 : decode cX11_exact 1 = .ok (.invokestatic 199, 3) := by decide +kernel
theorem dX11_exact_4 : decode cX11_exact 4 = .ok (.ifCond .eq 12, 3) := by decide +kernel
theorem dX11_exact_7 : decode cX11_exact 7 = .ok (.iload_n 2, 1) := by decide +kernel
theorem dX11_exact_8 : decode cX11_exact 8 = .ok (.ifCond .lt 8, 3) := by decide +kernel
theorem dX11_exact_11 : decode cX11_exact 11 = .ok (.iload_n 2, 1) := by decide +kernel
theorem dX11_exact_12 : decode cX11_exact 12 = .ok (.iconst 2, 1) := by decide +kernel
theorem dX11_exact_13 : decode cX11_exact 13 = .ok (.if_icmp .le 7, 3) := by decide +kernel
theorem dX11_exact_16 : decode cX11_exact 16 = .ok (.ldc2_w 202, 3) := by decide +kernel
theorem dX11_exact_19 : decode cX11_exact 19 = .ok (.lreturn, 1) := by decide +kernel
theorem dX11_exact_20 : decode cX11_exact 20 = .ok (.aload_n 0, 1) := by decide +kernel
theorem dX11_exact_21 : decode cX11_exact 21 = .ok (.getfield 10, 3) := by decide +kernel
theorem dX11_exact_24 : decode cX11_exact 24 = .ok (.iload_n 1, 1) := by decide +kernel
theorem dX11_exact_25 : decode cX11_exact 25 = .ok (.invokevirtual 204, 3) := by decide +kernel
theorem dX11_exact_28 : decode cX11_exact 28 = .ok (.lstore_n 3, 1) := by decide +kernel
theorem dX11_exact_29 : decode cX11_exact 29 = .ok (.lload_n 3, 1) := by decide +kernel
theorem dX11_exact_30 : decode cX11_exact 30 = .ok (.ldc2_w 208, 3) := by decide +kernel
theorem dX11_exact_33 : decode cX11_exact 33 = .ok (.lcmp, 1) := by decide +kernel
theorem dX11_exact_34 : decode cX11_exact 34 = .ok (.ifCond .eq 7, 3) := by decide +kernel
theorem dX11_exact_37 : decode cX11_exact 37 = .ok (.iload_n 2, 1) := by decide +kernel
theorem dX11_exact_38 : decode cX11_exact 38 = .ok (.ifCond .ne 5, 3) := by decide +kernel
theorem dX11_exact_41 : decode cX11_exact 41 = .ok (.lload_n 3, 1) := by decide +kernel
theorem dX11_exact_42 : decode cX11_exact 42 = .ok (.lreturn, 1) := by decide +kernel
theorem dX11_exact_43 : decode cX11_exact 43 = .ok (.aload_n 0, 1) := by decide +kernel
theorem dX11_exact_44 : decode cX11_exact 44 = .ok (.getfield 53, 3) := by decide +kernel
theorem dX11_exact_47 : decode cX11_exact 47 = .ok (.iload_n 1, 1) := by decide +kernel
theorem dX11_exact_48 : decode cX11_exact 48 = .ok (.aload_n 0, 1) := by decide +kernel
theorem dX11_exact_49 : decode cX11_exact 49 = .ok (.getfield 19, 3) := by decide +kernel
theorem dX11_exact_52 : decode cX11_exact 52 = .ok (.getfield 143, 3) := by decide +kernel
theorem dX11_exact_55 : decode cX11_exact 55 = .ok (.aload_n 0, 1) := by decide +kernel
theorem dX11_exact_56 : decode cX11_exact 56 = .ok (.getfield 84, 3) := by decide +kernel
theorem dX11_exact_59 : decode cX11_exact 59 = .ok (.invokevirtual 210, 3) := by decide +kernel
theorem dX11_exact_62 : decode cX11_exact 62 = .ok (.ifCond .ne 7, 3) := by decide +kernel
theorem dX11_exact_65 : decode cX11_exact 65 = .ok (.ldc2_w 214, 3) := by decide +kernel
theorem dX11_exact_68 : decode cX11_exact 68 = .ok (.lreturn, 1) := by decide +kernel
theorem dX11_exact_69 : decode cX11_exact 69 = .ok (.iload_n 2, 1) := by decide +kernel
theorem dX11_exact_70 : decode cX11_exact 70 = .ok (.iconst 1, 1) := by decide +kernel
theorem dX11_exact_71 : decode cX11_exact 71 = .ok (.if_icmp .ne 15, 3) := by decide +kernel
theorem dX11_exact_74 : decode cX11_exact 74 = .ok (.aload_n 0, 1) := by decide +kernel
theorem dX11_exact_75 : decode cX11_exact 75 = .ok (.getfield 53, 3) := by decide +kernel
theorem dX11_exact_78 : decode cX11_exact 78 = .ok (.getfield 216, 3) := by decide +kernel
theorem dX11_exact_81 : decode cX11_exact 81 = .ok (.iload_n 1, 1) := by decide +kernel
theorem dX11_exact_82 : decode cX11_exact 82 = .ok (.laload, 1) := by decide +kernel
theorem dX11_exact_83 : decode cX11_exact 83 = .ok (.goto 12, 3) := by decide +kernel
theorem dX11_exact_86 : decode cX11_exact 86 = .ok (.aload_n 0, 1) := by decide +kernel
theorem dX11_exact_87 : decode cX11_exact 87 = .ok (.getfield 53, 3) := by decide +kernel
theorem dX11_exact_90 : decode cX11_exact 90 = .ok (.getfield 220, 3) := by decide +kernel
theorem dX11_exact_93 : decode cX11_exact 93 = .ok (.iload_n 1, 1) := by decide +kernel
theorem dX11_exact_94 : decode cX11_exact 94 = .ok (.laload, 1) := by decide +kernel
theorem dX11_exact_95 : decode cX11_exact 95 = .ok (.lreturn, 1) := by decide +kernel
theorem dX11_colours_0 : decode cX11_colours 0 = .ok (.iload_n 1, 1) := by decide +kernel
theorem dX11_colours_1 : decode cX11_colours 1 = .ok (.invokestatic 199, 3) := by decide +kernel
theorem dX11_colours_4 : decode cX11_colours 4 = .ok (.ifCond .eq 18, 3) := by decide +kernel
theorem dX11_colours_7 : decode cX11_colours 7 = .ok (.iload_n 2, 1) := by decide +kernel
theorem dX11_colours_8 : decode cX11_colours 8 = .ok (.ifCond .lt 14, 3) := by decide +kernel
theorem dX11_colours_11 : decode cX11_colours 11 = .ok (.iload_n 2, 1) := by decide +kernel
theorem dX11_colours_12 : decode cX11_colours 12 = .ok (.aload_n 0, 1) := by decide +kernel
theorem dX11_colours_13 : decode cX11_colours 13 = .ok (.getfield 10, 3) := by decide +kernel
theorem dX11_colours_16 : decode cX11_colours 16 = .ok (.getfield 176, 3) := by decide +kernel
theorem dX11_colours_19 : decode cX11_colours 19 = .ok (.if_icmp .le 7, 3) := by decide +kernel
theorem dX11_colours_22 : decode cX11_colours 22 = .ok (.ldc2_w 202, 3) := by decide +kernel
theorem dX11_colours_25 : decode cX11_colours 25 = .ok (.lreturn, 1) := by decide +kernel
theorem dX11_colours_26 : decode cX11_colours 26 = .ok (.aload_n 0, 1) := by decide +kernel
theorem dX11_colours_27 : decode cX11_colours 27 = .ok (.getfield 10, 3) := by decide +kernel
theorem dX11_colours_30 : decode cX11_colours 30 = .ok (.iload_n 1, 1) := by decide +kernel
theorem dX11_colours_31 : decode cX11_colours 31 = .ok (.invokevirtual 204, 3) := by decide +kernel
theorem dX11_colours_34 : decode cX11_colours 34 = .ok (.ldc2_w 208, 3) := by decide +kernel
theorem dX11_colours_37 : decode cX11_colours 37 = .ok (.lcmp, 1) := by decide +kernel
theorem dX11_colours_38 : decode cX11_colours 38 = .ok (.ifCond .ne 7, 3) := by decide +kernel
theorem dX11_colours_41 : decode cX11_colours 41 = .ok (.ldc2_w 208, 3) := by decide +kernel
theorem dX11_colours_44 : decode cX11_colours 44 = .ok (.lreturn, 1) := by decide +kernel
theorem dX11_colours_45 : decode cX11_colours 45 = .ok (.aload_n 0, 1) := by decide +kernel
theorem dX11_colours_46 : decode cX11_colours 46 = .ok (.getfield 53, 3) := by decide +kernel
theorem dX11_colours_49 : decode cX11_colours 49 = .ok (.iload_n 1, 1) := by decide +kernel
theorem dX11_colours_50 : decode cX11_colours 50 = .ok (.aload_n 0, 1) := by decide +kernel
theorem dX11_colours_51 : decode cX11_colours 51 = .ok (.getfield 19, 3) := by decide +kernel
theorem dX11_colours_54 : decode cX11_colours 54 = .ok (.getfield 143, 3) := by decide +kernel
theorem dX11_colours_57 : decode cX11_colours 57 = .ok (.aload_n 0, 1) := by decide +kernel
theorem dX11_colours_58 : decode cX11_colours 58 = .ok (.getfield 84, 3) := by decide +kernel
theorem dX11_colours_61 : decode cX11_colours 61 = .ok (.invokevirtual 210, 3) := by decide +kernel
theorem dX11_colours_64 : decode cX11_colours 64 = .ok (.ifCond .eq 17, 3) := by decide +kernel
theorem dX11_colours_67 : decode cX11_colours 67 = .ok (.aload_n 0, 1) := by decide +kernel
theorem dX11_colours_68 : decode cX11_colours 68 = .ok (.getfield 53, 3) := by decide +kernel
theorem dX11_colours_71 : decode cX11_colours 71 = .ok (.getfield 223, 3) := by decide +kernel
theorem dX11_colours_74 : decode cX11_colours 74 = .ok (.iload_n 1, 1) := by decide +kernel
theorem dX11_colours_75 : decode cX11_colours 75 = .ok (.aaload, 1) := by decide +kernel
theorem dX11_colours_76 : decode cX11_colours 76 = .ok (.iload_n 2, 1) := by decide +kernel
theorem dX11_colours_77 : decode cX11_colours 77 = .ok (.laload, 1) := by decide +kernel
theorem dX11_colours_78 : decode cX11_colours 78 = .ok (.goto 6, 3) := by decide +kernel
theorem dX11_colours_81 : decode cX11_colours 81 = .ok (.ldc2_w 214, 3) := by decide +kernel
theorem dX11_colours_84 : decode cX11_colours 84 = .ok (.lreturn, 1) := by decide +kernel
theorem dX11_odds_0 : decode cX11_odds 0 = .ok (.iload_n 1, 1) := by decide +kernel
theorem dX11_odds_1 : decode cX11_odds 1 = .ok (.invokestatic 199, 3) := by decide +kernel
theorem dX11_odds_4 : decode cX11_odds 4 = .ok (.ifCond .ne 5, 3) := by decide +kernel
theorem dX11_odds_7 : decode cX11_odds 7 = .ok (.iconst (-1), 1) := by decide +kernel
theorem dX11_odds_8 : decode cX11_odds 8 = .ok (.ireturn, 1) := by decide +kernel
theorem dX11_odds_9 : decode cX11_odds 9 = .ok (.aload_n 0, 1) := by decide +kernel
theorem dX11_odds_10 : decode cX11_odds 10 = .ok (.getfield 10, 3) := by decide +kernel
theorem dX11_odds_13 : decode cX11_odds 13 = .ok (.iload_n 1, 1) := by decide +kernel
theorem dX11_odds_14 : decode cX11_odds 14 = .ok (.invokevirtual 204, 3) := by decide +kernel
theorem dX11_odds_17 : decode cX11_odds 17 = .ok (.lstore_n 2, 1) := by decide +kernel
theorem dX11_odds_18 : decode cX11_odds 18 = .ok (.lload_n 2, 1) := by decide +kernel
theorem dX11_odds_19 : decode cX11_odds 19 = .ok (.ldc2_w 208, 3) := by decide +kernel
theorem dX11_odds_22 : decode cX11_odds 22 = .ok (.lcmp, 1) := by decide +kernel
theorem dX11_odds_23 : decode cX11_odds 23 = .ok (.ifCond .ne 6, 3) := by decide +kernel
theorem dX11_odds_26 : decode cX11_odds 26 = .ok (.bipush (-2), 2) := by decide +kernel
theorem dX11_odds_28 : decode cX11_odds 28 = .ok (.ireturn, 1) := by decide +kernel
theorem dX11_odds_29 : decode cX11_odds 29 = .ok (.aload_n 0, 1) := by decide +kernel
theorem dX11_odds_30 : decode cX11_odds 30 = .ok (.getfield 53, 3) := by decide +kernel
theorem dX11_odds_33 : decode cX11_odds 33 = .ok (.iload_n 1, 1) := by decide +kernel
theorem dX11_odds_34 : decode cX11_odds 34 = .ok (.aload_n 0, 1) := by decide +kernel
theorem dX11_odds_35 : decode cX11_odds 35 = .ok (.getfield 19, 3) := by decide +kernel
theorem dX11_odds_38 : decode cX11_odds 38 = .ok (.getfield 143, 3) := by decide +kernel
theorem dX11_odds_41 : decode cX11_odds 41 = .ok (.aload_n 0, 1) := by decide +kernel
theorem dX11_odds_42 : decode cX11_odds 42 = .ok (.getfield 84, 3) := by decide +kernel
theorem dX11_odds_45 : decode cX11_odds 45 = .ok (.invokevirtual 210, 3) := by decide +kernel
theorem dX11_odds_48 : decode cX11_odds 48 = .ok (.ifCond .ne 6, 3) := by decide +kernel
theorem dX11_odds_51 : decode cX11_odds 51 = .ok (.bipush (-3), 2) := by decide +kernel
theorem dX11_odds_53 : decode cX11_odds 53 = .ok (.ireturn, 1) := by decide +kernel
theorem dX11_odds_54 : decode cX11_odds 54 = .ok (.aload_n 0, 1) := by decide +kernel
theorem dX11_odds_55 : decode cX11_odds 55 = .ok (.getfield 53, 3) := by decide +kernel
theorem dX11_odds_58 : decode cX11_odds 58 = .ok (.getfield 216, 3) := by decide +kernel
theorem dX11_odds_61 : decode cX11_odds 61 = .ok (.iload_n 1, 1) := by decide +kernel
theorem dX11_odds_62 : decode cX11_odds 62 = .ok (.laload, 1) := by decide +kernel
theorem dX11_odds_63 : decode cX11_odds 63 = .ok (.l2f, 1) := by decide +kernel
theorem dX11_odds_64 : decode cX11_odds 64 = .ok (.lload_n 2, 1) := by decide +kernel
theorem dX11_odds_65 : decode cX11_odds 65 = .ok (.l2f, 1) := by decide +kernel
theorem dX11_odds_66 : decode cX11_odds 66 = .ok (.fdiv, 1) := by decide +kernel
theorem dX11_odds_67 : decode cX11_odds 67 = .ok (.invokestatic 227, 3) := by decide +kernel
theorem dX11_odds_70 : decode cX11_odds 70 = .ok (.ireturn, 1) := by decide +kernel
theorem dX11_soonest_0 : decode cX11_soonest 0 = .ok (.aload_n 0, 1) := by decide +kernel
theorem dX11_soonest_1 : decode cX11_soonest 1 = .ok (.getfield 60, 3) := by decide +kernel
theorem dX11_soonest_4 : decode cX11_soonest 4 = .ok (.aload_n 0, 1) := by decide +kernel
theorem dX11_soonest_5 : decode cX11_soonest 5 = .ok (.getfield 19, 3) := by decide +kernel
theorem dX11_soonest_8 : decode cX11_soonest 8 = .ok (.getfield 143, 3) := by decide +kernel
theorem dX11_soonest_11 : decode cX11_soonest 11 = .ok (.aload_n 0, 1) := by decide +kernel
theorem dX11_soonest_12 : decode cX11_soonest 12 = .ok (.getfield 84, 3) := by decide +kernel
theorem dX11_soonest_15 : decode cX11_soonest 15 = .ok (.invokevirtual 231, 3) := by decide +kernel
theorem dX11_soonest_18 : decode cX11_soonest 18 = .ok (.aload_n 0, 1) := by decide +kernel
theorem dX11_soonest_19 : decode cX11_soonest 19 = .ok (.getfield 60, 3) := by decide +kernel
theorem dX11_soonest_22 : decode cX11_soonest 22 = .ok (.getfield 234, 3) := by decide +kernel
theorem dX11_soonest_25 : decode cX11_soonest 25 = .ok (.ireturn, 1) := by decide +kernel
theorem dX11_way_0 : decode cX11_way 0 = .ok (.iload_n 1, 1) := by decide +kernel
theorem dX11_way_1 : decode cX11_way 1 = .ok (.ifCond .lt 12, 3) := by decide +kernel
theorem dX11_way_4 : decode cX11_way 4 = .ok (.iload_n 2, 1) := by decide +kernel
theorem dX11_way_5 : decode cX11_way 5 = .ok (.ifCond .lt 8, 3) := by decide +kernel
theorem dX11_way_8 : decode cX11_way 8 = .ok (.iload_n 2, 1) := by decide +kernel
theorem dX11_way_9 : decode cX11_way 9 = .ok (.iconst 1, 1) := by decide +kernel
theorem dX11_way_10 : decode cX11_way 10 = .ok (.if_icmp .le 6, 3) := by decide +kernel
theorem dX11_way_13 : decode cX11_way 13 = .ok (.bipush (-2), 2) := by decide +kernel
theorem dX11_way_15 : decode cX11_way 15 = .ok (.ireturn, 1) := by decide +kernel
theorem dX11_way_16 : decode cX11_way 16 = .ok (.aload_n 0, 1) := by decide +kernel
theorem dX11_way_17 : decode cX11_way 17 = .ok (.getfield 60, 3) := by decide +kernel
theorem dX11_way_20 : decode cX11_way 20 = .ok (.aload_n 0, 1) := by decide +kernel
theorem dX11_way_21 : decode cX11_way 21 = .ok (.getfield 19, 3) := by decide +kernel
theorem dX11_way_24 : decode cX11_way 24 = .ok (.getfield 143, 3) := by decide +kernel
theorem dX11_way_27 : decode cX11_way 27 = .ok (.aload_n 0, 1) := by decide +kernel
theorem dX11_way_28 : decode cX11_way 28 = .ok (.getfield 84, 3) := by decide +kernel
theorem dX11_way_31 : decode cX11_way 31 = .ok (.invokevirtual 231, 3) := by decide +kernel
theorem dX11_way_34 : decode cX11_way 34 = .ok (.aload_n 0, 1) := by decide +kernel
theorem dX11_way_35 : decode cX11_way 35 = .ok (.getfield 60, 3) := by decide +kernel
theorem dX11_way_38 : decode cX11_way 38 = .ok (.getfield 234, 3) := by decide +kernel
theorem dX11_way_41 : decode cX11_way 41 = .ok (.bipush (-3), 2) := by decide +kernel
theorem dX11_way_43 : decode cX11_way 43 = .ok (.if_icmp .ne 6, 3) := by decide +kernel
theorem dX11_way_46 : decode cX11_way 46 = .ok (.bipush (-3), 2) := by decide +kernel
theorem dX11_way_48 : decode cX11_way 48 = .ok (.ireturn, 1) := by decide +kernel
theorem dX11_way_49 : decode cX11_way 49 = .ok (.iload_n 1, 1) := by decide +kernel
theorem dX11_way_50 : decode cX11_way 50 = .ok (.aload_n 0, 1) := by decide +kernel
theorem dX11_way_51 : decode cX11_way 51 = .ok (.getfield 60, 3) := by decide +kernel
theorem dX11_way_54 : decode cX11_way 54 = .ok (.getfield 234, 3) := by decide +kernel
theorem dX11_way_57 : decode cX11_way 57 = .ok (.if_icmp .lt 6, 3) := by decide +kernel
theorem dX11_way_60 : decode cX11_way 60 = .ok (.bipush (-2), 2) := by decide +kernel
theorem dX11_way_62 : decode cX11_way 62 = .ok (.ireturn, 1) := by decide +kernel
theorem dX11_way_63 : decode cX11_way 63 = .ok (.aload_n 0, 1) := by decide +kernel
theorem dX11_way_64 : decode cX11_way 64 = .ok (.getfield 60, 3) := by decide +kernel
theorem dX11_way_67 : decode cX11_way 67 = .ok (.iload_n 1, 1) := by decide +kernel
theorem dX11_way_68 : decode cX11_way 68 = .ok (.invokevirtual 237, 3) := by decide +kernel
theorem dX11_way_71 : decode cX11_way 71 = .ok (.istore_n 3, 1) := by decide +kernel
theorem dX11_way_72 : decode cX11_way 72 = .ok (.iload_n 2, 1) := by decide +kernel
theorem dX11_way_73 : decode cX11_way 73 = .ok (.ifCond .ne 15, 3) := by decide +kernel
theorem dX11_way_76 : decode cX11_way 76 = .ok (.aload_n 0, 1) := by decide +kernel
theorem dX11_way_77 : decode cX11_way 77 = .ok (.getfield 60, 3) := by decide +kernel
theorem dX11_way_80 : decode cX11_way 80 = .ok (.getfield 240, 3) := by decide +kernel
theorem dX11_way_83 : decode cX11_way 83 = .ok (.iload_n 3, 1) := by decide +kernel
theorem dX11_way_84 : decode cX11_way 84 = .ok (.iaload, 1) := by decide +kernel
theorem dX11_way_85 : decode cX11_way 85 = .ok (.goto 12, 3) := by decide +kernel
theorem dX11_way_88 : decode cX11_way 88 = .ok (.aload_n 0, 1) := by decide +kernel
theorem dX11_way_89 : decode cX11_way 89 = .ok (.getfield 60, 3) := by decide +kernel
theorem dX11_way_92 : decode cX11_way 92 = .ok (.getfield 243, 3) := by decide +kernel
theorem dX11_way_95 : decode cX11_way 95 = .ok (.iload_n 3, 1) := by decide +kernel
theorem dX11_way_96 : decode cX11_way 96 = .ok (.iaload, 1) := by decide +kernel
theorem dX11_way_97 : decode cX11_way 97 = .ok (.ireturn, 1) := by decide +kernel
theorem dX11_chain_0 : decode cX11_chain 0 = .ok (.iload_n 1, 1) := by decide +kernel
theorem dX11_chain_1 : decode cX11_chain 1 = .ok (.ifCond .lt 23, 3) := by decide +kernel
theorem dX11_chain_4 : decode cX11_chain 4 = .ok (.iload_n 1, 1) := by decide +kernel
theorem dX11_chain_5 : decode cX11_chain 5 = .ok (.aload_n 0, 1) := by decide +kernel
theorem dX11_chain_6 : decode cX11_chain 6 = .ok (.getfield 10, 3) := by decide +kernel
theorem dX11_chain_9 : decode cX11_chain 9 = .ok (.getfield 176, 3) := by decide +kernel
theorem dX11_chain_12 : decode cX11_chain 12 = .ok (.if_icmp .gt 12, 3) := by decide +kernel
theorem dX11_chain_15 : decode cX11_chain 15 = .ok (.iload_n 2, 1) := by decide +kernel
theorem dX11_chain_16 : decode cX11_chain 16 = .ok (.ifCond .lt 8, 3) := by decide +kernel
theorem dX11_chain_19 : decode cX11_chain 19 = .ok (.iload_n 2, 1) := by decide +kernel
theorem dX11_chain_20 : decode cX11_chain 20 = .ok (.iconst 3, 1) := by decide +kernel
theorem dX11_chain_21 : decode cX11_chain 21 = .ok (.if_icmp .le 7, 3) := by decide +kernel
theorem dX11_chain_24 : decode cX11_chain 24 = .ok (.ldc2_w 202, 3) := by decide +kernel
theorem dX11_chain_27 : decode cX11_chain 27 = .ok (.lreturn, 1) := by decide +kernel
theorem dX11_chain_28 : decode cX11_chain 28 = .ok (.iload_n 2, 1) := by decide +kernel
theorem dX11_chain_29 : decode cX11_chain 29 = .ok (.iconst 2, 1) := by decide +kernel
theorem dX11_chain_30 : decode cX11_chain 30 = .ok (.if_icmp .lt 18, 3) := by decide +kernel
theorem dX11_chain_33 : decode cX11_chain 33 = .ok (.aload_n 0, 1) := by decide +kernel
theorem dX11_chain_34 : decode cX11_chain 34 = .ok (.getfield 69, 3) := by decide +kernel
theorem dX11_chain_37 : decode cX11_chain 37 = .ok (.iload_n 1, 1) := by decide +kernel
theorem dX11_chain_38 : decode cX11_chain 38 = .ok (.invokevirtual 246, 3) := by decide +kernel
theorem dX11_chain_41 : decode cX11_chain 41 = .ok (.ifCond .eq 7, 3) := by decide +kernel
theorem dX11_chain_44 : decode cX11_chain 44 = .ok (.ldc2_w 202, 3) := by decide +kernel
theorem dX11_chain_47 : decode cX11_chain 47 = .ok (.lreturn, 1) := by decide +kernel
theorem dX11_chain_48 : decode cX11_chain 48 = .ok (.aload_n 0, 1) := by decide +kernel
theorem dX11_chain_49 : decode cX11_chain 49 = .ok (.getfield 69, 3) := by decide +kernel
theorem dX11_chain_52 : decode cX11_chain 52 = .ok (.invokevirtual 249, 3) := by decide +kernel
theorem dX11_chain_55 : decode cX11_chain 55 = .ok (.iload_n 2, 1) := by decide +kernel
theorem dX11_chain_56 : decode cX11_chain 56 = .ok (.iconst 2, 1) := by decide +kernel
theorem dX11_chain_57 : decode cX11_chain 57 = .ok (.if_icmp .ge 15, 3) := by decide +kernel
theorem dX11_chain_60 : decode cX11_chain 60 = .ok (.aload_n 0, 1) := by decide +kernel
theorem dX11_chain_61 : decode cX11_chain 61 = .ok (.getfield 69, 3) := by decide +kernel
theorem dX11_chain_64 : decode cX11_chain 64 = .ok (.getfield 252, 3) := by decide +kernel
theorem dX11_chain_67 : decode cX11_chain 67 = .ok (.iload_n 1, 1) := by decide +kernel
theorem dX11_chain_68 : decode cX11_chain 68 = .ok (.aaload, 1) := by decide +kernel
theorem dX11_chain_69 : decode cX11_chain 69 = .ok (.goto 12, 3) := by decide +kernel
theorem dX11_chain_72 : decode cX11_chain 72 = .ok (.aload_n 0, 1) := by decide +kernel
theorem dX11_chain_73 : decode cX11_chain 73 = .ok (.getfield 69, 3) := by decide +kernel
theorem dX11_chain_76 : decode cX11_chain 76 = .ok (.getfield 256, 3) := by decide +kernel
theorem dX11_chain_79 : decode cX11_chain 79 = .ok (.iload_n 1, 1) := by decide +kernel
theorem dX11_chain_80 : decode cX11_chain 80 = .ok (.aaload, 1) := by decide +kernel
theorem dX11_chain_81 : decode cX11_chain 81 = .ok (.astore_n 3, 1) := by decide +kernel
theorem dX11_chain_82 : decode cX11_chain 82 = .ok (.aload_n 3, 1) := by decide +kernel
theorem dX11_chain_83 : decode cX11_chain 83 = .ok (.invokevirtual 259, 3) := by decide +kernel
theorem dX11_chain_86 : decode cX11_chain 86 = .ok (.ifCond .eq 7, 3) := by decide +kernel
theorem dX11_chain_89 : decode cX11_chain 89 = .ok (.ldc2_w 208, 3) := by decide +kernel
theorem dX11_chain_92 : decode cX11_chain 92 = .ok (.lreturn, 1) := by decide +kernel
theorem dX11_chain_93 : decode cX11_chain 93 = .ok (.iload_n 2, 1) := by decide +kernel
theorem dX11_chain_94 : decode cX11_chain 94 = .ok (.iconst 2, 1) := by decide +kernel
theorem dX11_chain_95 : decode cX11_chain 95 = .ok (.irem, 1) := by decide +kernel
theorem dX11_chain_96 : decode cX11_chain 96 = .ok (.ifCond .ne 10, 3) := by decide +kernel
theorem dX11_chain_99 : decode cX11_chain 99 = .ok (.aload_n 3, 1) := by decide +kernel
theorem dX11_chain_100 : decode cX11_chain 100 = .ok (.getfield 265, 3) := by decide +kernel
theorem dX11_chain_103 : decode cX11_chain 103 = .ok (.goto 7, 3) := by decide +kernel
theorem dX11_chain_106 : decode cX11_chain 106 = .ok (.aload_n 3, 1) := by decide +kernel
theorem dX11_chain_107 : decode cX11_chain 107 = .ok (.getfield 269, 3) := by decide +kernel
theorem dX11_chain_110 : decode cX11_chain 110 = .ok (.lreturn, 1) := by decide +kernel
theorem dX11_entry_0 : decode cX11_entry 0 = .ok (.iload_n 1, 1) := by decide +kernel
theorem dX11_entry_1 : decode cX11_entry 1 = .ok (.ifCond .lt 31, 3) := by decide +kernel
theorem dX11_entry_4 : decode cX11_entry 4 = .ok (.iload_n 1, 1) := by decide +kernel
theorem dX11_entry_5 : decode cX11_entry 5 = .ok (.bipush 8, 2) := by decide +kernel
theorem dX11_entry_7 : decode cX11_entry 7 = .ok (.if_icmp .ge 25, 3) := by decide +kernel
theorem dX11_entry_10 : decode cX11_entry 10 = .ok (.aload_n 0, 1) := by decide +kernel
theorem dX11_entry_11 : decode cX11_entry 11 = .ok (.getfield 26, 3) := by decide +kernel
theorem dX11_entry_14 : decode cX11_entry 14 = .ok (.iload_n 2, 1) := by decide +kernel
theorem dX11_entry_15 : decode cX11_entry 15 = .ok (.invokevirtual 272, 3) := by decide +kernel
theorem dX11_entry_18 : decode cX11_entry 18 = .ok (.ifCond .eq 14, 3) := by decide +kernel
theorem dX11_entry_21 : decode cX11_entry 21 = .ok (.aload_n 0, 1) := by decide +kernel
theorem dX11_entry_22 : decode cX11_entry 22 = .ok (.getfield 26, 3) := by decide +kernel
theorem dX11_entry_25 : decode cX11_entry 25 = .ok (.iload_n 3, 1) := by decide +kernel
theorem dX11_entry_26 : decode cX11_entry 26 = .ok (.invokevirtual 272, 3) := by decide +kernel
theorem dX11_entry_29 : decode cX11_entry 29 = .ok (.ifCond .ne 5, 3) := by decide +kernel
theorem dX11_entry_32 : decode cX11_entry 32 = .ok (.iconst (-1), 1) := by decide +kernel
theorem dX11_entry_33 : decode cX11_entry 33 = .ok (.ireturn, 1) := by decide +kernel
theorem dX11_entry_34 : decode cX11_entry 34 = .ok (.iload_n 2, 1) := by decide +kernel
theorem dX11_entry_35 : decode cX11_entry 35 = .ok (.iload_n 3, 1) := by decide +kernel
theorem dX11_entry_36 : decode cX11_entry 36 = .ok (.if_icmp .ne 8, 3) := by decide +kernel
theorem dX11_entry_39 : decode cX11_entry 39 = .ok (.iload_n 2, 1) := by decide +kernel
theorem dX11_entry_40 : decode cX11_entry 40 = .ok (.iconst (-1), 1) := by decide +kernel
theorem dX11_entry_41 : decode cX11_entry 41 = .ok (.if_icmp .ne 15, 3) := by decide +kernel
theorem dX11_entry_44 : decode cX11_entry 44 = .ok (.aload_n 0, 1) := by decide +kernel
theorem dX11_entry_45 : decode cX11_entry 45 = .ok (.getfield 26, 3) := by decide +kernel
theorem dX11_entry_48 : decode cX11_entry 48 = .ok (.getfield 275, 3) := by decide +kernel
theorem dX11_entry_51 : decode cX11_entry 51 = .ok (.bipush 16, 2) := by decide +kernel
theorem dX11_entry_53 : decode cX11_entry 53 = .ok (.if_icmp .ne 5, 3) := by decide +kernel
theorem dX11_entry_56 : decode cX11_entry 56 = .ok (.iconst (-1), 1) := by decide +kernel
theorem dX11_entry_57 : decode cX11_entry 57 = .ok (.ireturn, 1) := by decide +kernel
theorem dX11_entry_58 : decode cX11_entry 58 = .ok (.aload_n 0, 1) := by decide +kernel
theorem dX11_entry_59 : decode cX11_entry 59 = .ok (.getfield 26, 3) := by decide +kernel
theorem dX11_entry_62 : decode cX11_entry 62 = .ok (.getfield 278, 3) := by decide +kernel
theorem dX11_entry_65 : decode cX11_entry 65 = .ok (.iload_n 1, 1) := by decide +kernel
theorem dX11_entry_66 : decode cX11_entry 66 = .ok (.iaload, 1) := by decide +kernel
theorem dX11_entry_67 : decode cX11_entry 67 = .ok (.ifCond .ne 7, 3) := by decide +kernel
theorem dX11_entry_70 : decode cX11_entry 70 = .ok (.iconst 1, 1) := by decide +kernel
theorem dX11_entry_71 : decode cX11_entry 71 = .ok (.goto 4, 3) := by decide +kernel
theorem dX11_entry_74 : decode cX11_entry 74 = .ok (.iconst 0, 1) := by decide +kernel
theorem dX11_entry_75 : decode cX11_entry 75 = .ok (.istore 4, 2) := by decide +kernel
theorem dX11_entry_77 : decode cX11_entry 77 = .ok (.aload_n 0, 1) := by decide +kernel
theorem dX11_entry_78 : decode cX11_entry 78 = .ok (.getfield 26, 3) := by decide +kernel
theorem dX11_entry_81 : decode cX11_entry 81 = .ok (.iload_n 1, 1) := by decide +kernel
theorem dX11_entry_82 : decode cX11_entry 82 = .ok (.iload_n 2, 1) := by decide +kernel
theorem dX11_entry_83 : decode cX11_entry 83 = .ok (.iload_n 3, 1) := by decide +kernel
theorem dX11_entry_84 : decode cX11_entry 84 = .ok (.invokevirtual 281, 3) := by decide +kernel
theorem dX11_entry_87 : decode cX11_entry 87 = .ok (.istore 5, 2) := by decide +kernel
theorem dX11_entry_89 : decode cX11_entry 89 = .ok (.iconst 0, 1) := by decide +kernel
theorem dX11_entry_90 : decode cX11_entry 90 = .ok (.istore 6, 2) := by decide +kernel
theorem dX11_entry_92 : decode cX11_entry 92 = .ok (.iload 4, 2) := by decide +kernel
theorem dX11_entry_94 : decode cX11_entry 94 = .ok (.ifCond .eq 33, 3) := by decide +kernel
theorem dX11_entry_97 : decode cX11_entry 97 = .ok (.iload 6, 2) := by decide +kernel
theorem dX11_entry_99 : decode cX11_entry 99 = .ok (.bipush 8, 2) := by decide +kernel
theorem dX11_entry_101 : decode cX11_entry 101 = .ok (.if_icmp .ge 26, 3) := by decide +kernel
theorem dX11_entry_104 : decode cX11_entry 104 = .ok (.aload_n 0, 1) := by decide +kernel
theorem dX11_entry_105 : decode cX11_entry 105 = .ok (.getfield 19, 3) := by decide +kernel
theorem dX11_entry_108 : decode cX11_entry 108 = .ok (.getfield 285, 3) := by decide +kernel
theorem dX11_entry_111 : decode cX11_entry 111 = .ok (.iload 6, 2) := by decide +kernel
theorem dX11_entry_113 : decode cX11_entry 113 = .ok (.aaload, 1) := by decide +kernel
theorem dX11_entry_114 : decode cX11_entry 114 = .ok (.iload_n 1, 1) := by decide +kernel
theorem dX11_entry_115 : decode cX11_entry 115 = .ok (.iconst 0, 1) := by decide +kernel
theorem dX11_entry_116 : decode cX11_entry 116 = .ok (.iload 5, 2) := by decide +kernel
theorem dX11_entry_118 : decode cX11_entry 118 = .ok (.invokevirtual 291, 3) := by decide +kernel
theorem dX11_entry_121 : decode cX11_entry 121 = .ok (.iinc 6 1, 3) := by decide +kernel
theorem dX11_entry_124 : decode cX11_entry 124 = .ok (.goto (-32), 3) := by decide +kernel
theorem dX11_entry_127 : decode cX11_entry 127 = .ok (.aload_n 0, 1) := by decide +kernel
theorem dX11_entry_128 : decode cX11_entry 128 = .ok (.iconst 0, 1) := by decide +kernel
theorem dX11_entry_129 : decode cX11_entry 129 = .ok (.putfield 114, 3) := by decide +kernel
theorem dX11_entry_132 : decode cX11_entry 132 = .ok (.iload 5, 2) := by decide +kernel
theorem dX11_entry_134 : decode cX11_entry 134 = .ok (.ireturn, 1) := by decide +kernel
theorem dX11_poll_0 : decode cX11_poll 0 = .ok (.aload_n 0, 1) := by decide +kernel
theorem dX11_poll_1 : decode cX11_poll 1 = .ok (.iload_n 1, 1) := by decide +kernel
theorem dX11_poll_2 : decode cX11_poll 2 = .ok (.iload_n 2, 1) := by decide +kernel
theorem dX11_poll_3 : decode cX11_poll 3 = .ok (.iload_n 3, 1) := by decide +kernel
theorem dX11_poll_4 : decode cX11_poll 4 = .ok (.invokevirtual 295, 3) := by decide +kernel
theorem dX11_poll_7 : decode cX11_poll 7 = .ok (.ifCond .ne 5, 3) := by decide +kernel
theorem dX11_poll_10 : decode cX11_poll 10 = .ok (.iconst (-1), 1) := by decide +kernel
theorem dX11_poll_11 : decode cX11_poll 11 = .ok (.ireturn, 1) := by decide +kernel
theorem dX11_poll_12 : decode cX11_poll 12 = .ok (.aload_n 0, 1) := by decide +kernel
theorem dX11_poll_13 : decode cX11_poll 13 = .ok (.invokevirtual 130, 3) := by decide +kernel
theorem dX11_poll_16 : decode cX11_poll 16 = .ok (.aload_n 0, 1) := by decide +kernel
theorem dX11_poll_17 : decode cX11_poll 17 = .ok (.dup, 1) := by decide +kernel
theorem dX11_poll_18 : decode cX11_poll 18 = .ok (.getfield 111, 3) := by decide +kernel
theorem dX11_poll_21 : decode cX11_poll 21 = .ok (.iconst 1, 1) := by decide +kernel
theorem dX11_poll_22 : decode cX11_poll 22 = .ok (.iadd, 1) := by decide +kernel
theorem dX11_poll_23 : decode cX11_poll 23 = .ok (.putfield 111, 3) := by decide +kernel
theorem dX11_poll_26 : decode cX11_poll 26 = .ok (.aload_n 0, 1) := by decide +kernel
theorem dX11_poll_27 : decode cX11_poll 27 = .ok (.getfield 44, 3) := by decide +kernel
theorem dX11_poll_30 : decode cX11_poll 30 = .ok (.iload_n 1, 1) := by decide +kernel
theorem dX11_poll_31 : decode cX11_poll 31 = .ok (.iload_n 2, 1) := by decide +kernel
theorem dX11_poll_32 : decode cX11_poll 32 = .ok (.iload_n 3, 1) := by decide +kernel
theorem dX11_poll_33 : decode cX11_poll 33 = .ok (.invokevirtual 299, 3) := by decide +kernel
theorem dX11_poll_36 : decode cX11_poll 36 = .ok (.ireturn, 1) := by decide +kernel
theorem dX11_yes_0 : decode cX11_yes 0 = .ok (.aload_n 0, 1) := by decide +kernel
theorem dX11_yes_1 : decode cX11_yes 1 = .ok (.iload_n 1, 1) := by decide +kernel
theorem dX11_yes_2 : decode cX11_yes 2 = .ok (.iload_n 2, 1) := by decide +kernel
theorem dX11_yes_3 : decode cX11_yes 3 = .ok (.iload_n 3, 1) := by decide +kernel
theorem dX11_yes_4 : decode cX11_yes 4 = .ok (.invokevirtual 295, 3) := by decide +kernel
theorem dX11_yes_7 : decode cX11_yes 7 = .ok (.ifCond .eq 16, 3) := by decide +kernel
theorem dX11_yes_10 : decode cX11_yes 10 = .ok (.aload_n 0, 1) := by decide +kernel
theorem dX11_yes_11 : decode cX11_yes 11 = .ok (.getfield 44, 3) := by decide +kernel
theorem dX11_yes_14 : decode cX11_yes 14 = .ok (.iload_n 1, 1) := by decide +kernel
theorem dX11_yes_15 : decode cX11_yes 15 = .ok (.iload_n 2, 1) := by decide +kernel
theorem dX11_yes_16 : decode cX11_yes 16 = .ok (.iload_n 3, 1) := by decide +kernel
theorem dX11_yes_17 : decode cX11_yes 17 = .ok (.invokevirtual 302, 3) := by decide +kernel
theorem dX11_yes_20 : decode cX11_yes 20 = .ok (.goto 4, 3) := by decide +kernel
theorem dX11_yes_23 : decode cX11_yes 23 = .ok (.iconst (-1), 1) := by decide +kernel
theorem dX11_yes_24 : decode cX11_yes 24 = .ok (.ireturn, 1) := by decide +kernel
theorem dX11_polls_0 : decode cX11_polls 0 = .ok (.iload_n 1, 1) := by decide +kernel
theorem dX11_polls_1 : decode cX11_polls 1 = .ok (.iconst 1, 1) := by decide +kernel
theorem dX11_polls_2 : decode cX11_polls 2 = .ok (.if_icmp .lt 9, 3) := by decide +kernel
theorem dX11_polls_5 : decode cX11_polls 5 = .ok (.iload_n 1, 1) := by decide +kernel
theorem dX11_polls_6 : decode cX11_polls 6 = .ok (.bipush 100, 2) := by decide +kernel
theorem dX11_polls_8 : decode cX11_polls 8 = .ok (.if_icmp .le 5, 3) := by decide +kernel
theorem dX11_polls_11 : decode cX11_polls 11 = .ok (.iconst (-1), 1) := by decide +kernel
theorem dX11_polls_12 : decode cX11_polls 12 = .ok (.ireturn, 1) := by decide +kernel
theorem dX11_polls_13 : decode cX11_polls 13 = .ok (.aload_n 0, 1) := by decide +kernel
theorem dX11_polls_14 : decode cX11_polls 14 = .ok (.invokevirtual 130, 3) := by decide +kernel
theorem dX11_polls_17 : decode cX11_polls 17 = .ok (.aload_n 0, 1) := by decide +kernel
theorem dX11_polls_18 : decode cX11_polls 18 = .ok (.iload_n 2, 1) := by decide +kernel
theorem dX11_polls_19 : decode cX11_polls 19 = .ok (.putfield 173, 3) := by decide +kernel
theorem dX11_polls_22 : decode cX11_polls 22 = .ok (.iconst 0, 1) := by decide +kernel
theorem dX11_polls_23 : decode cX11_polls 23 = .ok (.istore_n 3, 1) := by decide +kernel
theorem dX11_polls_24 : decode cX11_polls 24 = .ok (.iconst 0, 1) := by decide +kernel
theorem dX11_polls_25 : decode cX11_polls 25 = .ok (.istore 4, 2) := by decide +kernel
theorem dX11_polls_27 : decode cX11_polls 27 = .ok (.iload 4, 2) := by decide +kernel
theorem dX11_polls_29 : decode cX11_polls 29 = .ok (.iload_n 1, 1) := by decide +kernel
theorem dX11_polls_30 : decode cX11_polls 30 = .ok (.if_icmp .ge 92, 3) := by decide +kernel
theorem dX11_polls_33 : decode cX11_polls 33 = .ok (.aload_n 0, 1) := by decide +kernel
theorem dX11_polls_34 : decode cX11_polls 34 = .ok (.aload_n 0, 1) := by decide +kernel
theorem dX11_polls_35 : decode cX11_polls 35 = .ok (.getfield 10, 3) := by decide +kernel
theorem dX11_polls_38 : decode cX11_polls 38 = .ok (.getfield 176, 3) := by decide +kernel
theorem dX11_polls_41 : decode cX11_polls 41 = .ok (.invokevirtual 178, 3) := by decide +kernel
theorem dX11_polls_44 : decode cX11_polls 44 = .ok (.istore 5, 2) := by decide +kernel
theorem dX11_polls_46 : decode cX11_polls 46 = .ok (.aload_n 0, 1) := by decide +kernel
theorem dX11_polls_47 : decode cX11_polls 47 = .ok (.getfield 44, 3) := by decide +kernel
theorem dX11_polls_50 : decode cX11_polls 50 = .ok (.iload 5, 2) := by decide +kernel
theorem dX11_polls_52 : decode cX11_polls 52 = .ok (.invokevirtual 305, 3) := by decide +kernel
theorem dX11_polls_55 : decode cX11_polls 55 = .ok (.istore 6, 2) := by decide +kernel
theorem dX11_polls_57 : decode cX11_polls 57 = .ok (.iload 6, 2) := by decide +kernel
theorem dX11_polls_59 : decode cX11_polls 59 = .ok (.ifCond .eq 57, 3) := by decide +kernel
theorem dX11_polls_62 : decode cX11_polls 62 = .ok (.iload 6, 2) := by decide +kernel
theorem dX11_polls_64 : decode cX11_polls 64 = .ok (.aload_n 0, 1) := by decide +kernel
theorem dX11_polls_65 : decode cX11_polls 65 = .ok (.iload 6, 2) := by decide +kernel
theorem dX11_polls_67 : decode cX11_polls 67 = .ok (.invokestatic 308, 3) := by decide +kernel
theorem dX11_polls_70 : decode cX11_polls 70 = .ok (.invokevirtual 178, 3) := by decide +kernel
theorem dX11_polls_73 : decode cX11_polls 73 = .ok (.invokestatic 313, 3) := by decide +kernel
theorem dX11_polls_76 : decode cX11_polls 76 = .ok (.istore 7, 2) := by decide +kernel
theorem dX11_polls_78 : decode cX11_polls 78 = .ok (.aload_n 0, 1) := by decide +kernel
theorem dX11_polls_79 : decode cX11_polls 79 = .ok (.dup, 1) := by decide +kernel
theorem dX11_polls_80 : decode cX11_polls 80 = .ok (.getfield 111, 3) := by decide +kernel
theorem dX11_polls_83 : decode cX11_polls 83 = .ok (.iconst 1, 1) := by decide +kernel
theorem dX11_polls_84 : decode cX11_polls 84 = .ok (.iadd, 1) := by decide +kernel
theorem dX11_polls_85 : decode cX11_polls 85 = .ok (.putfield 111, 3) := by decide +kernel
theorem dX11_polls_88 : decode cX11_polls 88 = .ok (.iload_n 3, 1) := by decide +kernel
theorem dX11_polls_89 : decode cX11_polls 89 = .ok (.aload_n 0, 1) := by decide +kernel
theorem dX11_polls_90 : decode cX11_polls 90 = .ok (.getfield 44, 3) := by decide +kernel
theorem dX11_polls_93 : decode cX11_polls 93 = .ok (.iload 5, 2) := by decide +kernel
theorem dX11_polls_95 : decode cX11_polls 95 = .ok (.iload 7, 2) := by decide +kernel
theorem dX11_polls_97 : decode cX11_polls 97 = .ok (.aload_n 0, 1) := by decide +kernel
theorem dX11_polls_98 : decode cX11_polls 98 = .ok (.iload 5, 2) := by decide +kernel
theorem dX11_polls_100 : decode cX11_polls 100 = .ok (.invokevirtual 181, 3) := by decide +kernel
theorem dX11_polls_103 : decode cX11_polls 103 = .ok (.invokevirtual 299, 3) := by decide +kernel
theorem dX11_polls_106 : decode cX11_polls 106 = .ok (.ifCond .le 7, 3) := by decide +kernel
theorem dX11_polls_109 : decode cX11_polls 109 = .ok (.iconst 1, 1) := by decide +kernel
theorem dX11_polls_110 : decode cX11_polls 110 = .ok (.goto 4, 3) := by decide +kernel
