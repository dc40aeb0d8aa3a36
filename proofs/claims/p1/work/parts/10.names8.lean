theorem dX12_goesDown_51 : decode cX12_goesDown 51 = .ok (.getfield 260, 3) := by decide +kernel
theorem dX12_goesDown_54 : decode cX12_goesDown 54 = .ok (.invokevirtual 286, 3) := by decide +kernel
theorem dX12_goesDown_57 : decode cX12_goesDown 57 = .ok (.aload_n 0, 1) := by decide +kernel
theorem dX12_goesDown_58 : decode cX12_goesDown 58 = .ok (.aload_n 0, 1) := by decide +kernel
theorem dX12_goesDown_59 : decode cX12_goesDown 59 = .ok (.getfield 256, 3) := by decide +kernel
theorem dX12_goesDown_62 : decode cX12_goesDown 62 = .ok (.aload_n 0, 1) := by decide +kernel
theorem dX12_goesDown_63 : decode cX12_goesDown 63 = .ok (.getfield 260, 3) := by decide +kernel
theorem dX12_goesDown_66 : decode cX12_goesDown 66 = .ok (.aload_n 0, 1) := by decide +kernel
theorem dX12_goesDown_67 : decode cX12_goesDown 67 = .ok (.getfield 88, 3) := by decide +kernel
theorem dX12_goesDown_70 : decode cX12_goesDown 70 = .ok (.iload 4, 2) := by decide +kernel
theorem dX12_goesDown_72 : decode cX12_goesDown 72 = .ok (.laload, 1) := by decide +kernel
theorem dX12_goesDown_73 : decode cX12_goesDown 73 = .ok (.aload_n 0, 1) := by decide +kernel
theorem dX12_goesDown_74 : decode cX12_goesDown 74 = .ok (.getfield 91, 3) := by decide +kernel
theorem dX12_goesDown_77 : decode cX12_goesDown 77 = .ok (.iload 4, 2) := by decide +kernel
theorem dX12_goesDown_79 : decode cX12_goesDown 79 = .ok (.laload, 1) := by decide +kernel
theorem dX12_goesDown_80 : decode cX12_goesDown 80 = .ok (.invokevirtual 296, 3) := by decide +kernel
theorem dX12_goesDown_83 : decode cX12_goesDown 83 = .ok (.iinc 4 (-1), 3) := by decide +kernel
theorem dX12_goesDown_86 : decode cX12_goesDown 86 = .ok (.goto (-68), 3) := by decide +kernel
theorem dX12_goesDown_89 : decode cX12_goesDown 89 = .ok (.return_, 1) := by decide +kernel
set_option maxRecDepth 20000 in
theorem ggX12_mayStay_X12_down : GoodIn wsX12_mayStay wsX12_down := goodIn_r _ [6, 1, 7, 8, 9, 5, 10, 11, 12, 13, 14, 15, 20, 21, 22, 23, 24, 25, 26, 27, 28, 29, 30, 31, 32, 33, 34, 35, 36, 37, 38, 39, 40, 41, 42, 43, 44, 45, 46, 47, 48, 49, 50, 51, 52, 53, 54, 55, 56, 57] (by decide +kernel) (by decide +kernel)
set_option maxRecDepth 20000 in
theorem gX12_mayStay_X12_down : GoodIn wsX12_mayStay (wsV RX12 283 RX12 yX12_down wsX12_down) := goodIn_app (goodIn_of _ (by decide +kernel)) ggX12_mayStay_X12_down
set_option maxRecDepth 20000 in
theorem ggX12_mayStay_X12_up : GoodIn wsX12_mayStay wsX12_up := goodIn_r _ [19, 1, 7, 8, 9, 5, 10, 11, 12, 13, 14, 15, 20, 21, 22, 23, 24, 25, 26, 27, 28, 29, 30, 31, 32, 33, 34, 35, 36, 37, 38, 39, 40, 41, 42, 43, 44, 45, 46, 47, 48, 49, 50, 51, 52, 53, 54, 55, 56, 57] (by decide +kernel) (by decide +kernel)
set_option maxRecDepth 20000 in
theorem gX12_mayStay_X12_up : GoodIn wsX12_mayStay (wsV RX12 280 RX12 yX12_up wsX12_up) := goodIn_app (goodIn_of _ (by decide +kernel)) ggX12_mayStay_X12_up
theorem dX12_mayStay_0 : decode cX12_mayStay 0 = .ok (.iload_n 1, 1) := by decide +kernel
theorem dX12_mayStay_1 : decode cX12_mayStay 1 = .ok (.ifCond .eq 11, 3) := by decide +kernel
theorem dX12_mayStay_4 : decode cX12_mayStay 4 = .ok (.iload_n 1, 1) := by decide +kernel
theorem dX12_mayStay_5 : decode cX12_mayStay 5 = .ok (.aload_n 0, 1) := by decide +kernel
theorem dX12_mayStay_6 : decode cX12_mayStay 6 = .ok (.getfield 19, 3) := by decide +kernel
theorem dX12_mayStay_9 : decode cX12_mayStay 9 = .ok (.if_icmp .ne 5, 3) := by decide +kernel
theorem dX12_mayStay_12 : decode cX12_mayStay 12 = .ok (.iconst 0, 1) := by decide +kernel
theorem dX12_mayStay_13 : decode cX12_mayStay 13 = .ok (.ireturn, 1) := by decide +kernel
theorem dX12_mayStay_14 : decode cX12_mayStay 14 = .ok (.iload_n 1, 1) := by decide +kernel
theorem dX12_mayStay_15 : decode cX12_mayStay 15 = .ok (.istore_n 2, 1) := by decide +kernel
theorem dX12_mayStay_16 : decode cX12_mayStay 16 = .ok (.iload_n 2, 1) := by decide +kernel
theorem dX12_mayStay_17 : decode cX12_mayStay 17 = .ok (.ifCond .le 19, 3) := by decide +kernel
theorem dX12_mayStay_20 : decode cX12_mayStay 20 = .ok (.aload_n 0, 1) := by decide +kernel
theorem dX12_mayStay_21 : decode cX12_mayStay 21 = .ok (.iload_n 2, 1) := by decide +kernel
theorem dX12_mayStay_22 : decode cX12_mayStay 22 = .ok (.invokevirtual 283, 3) := by decide +kernel
theorem dX12_mayStay_25 : decode cX12_mayStay 25 = .ok (.lconst 0, 1) := by decide +kernel
theorem dX12_mayStay_26 : decode cX12_mayStay 26 = .ok (.lcmp, 1) := by decide +kernel
theorem dX12_mayStay_27 : decode cX12_mayStay 27 = .ok (.ifCond .le 9, 3) := by decide +kernel
theorem dX12_mayStay_30 : decode cX12_mayStay 30 = .ok (.iinc 2 (-1), 3) := by decide +kernel
theorem dX12_mayStay_33 : decode cX12_mayStay 33 = .ok (.goto (-17), 3) := by decide +kernel
theorem dX12_mayStay_36 : decode cX12_mayStay 36 = .ok (.iload_n 1, 1) := by decide +kernel
theorem dX12_mayStay_37 : decode cX12_mayStay 37 = .ok (.istore_n 3, 1) := by decide +kernel
theorem dX12_mayStay_38 : decode cX12_mayStay 38 = .ok (.iload_n 3, 1) := by decide +kernel
theorem dX12_mayStay_39 : decode cX12_mayStay 39 = .ok (.aload_n 0, 1) := by decide +kernel
theorem dX12_mayStay_40 : decode cX12_mayStay 40 = .ok (.getfield 19, 3) := by decide +kernel
theorem dX12_mayStay_43 : decode cX12_mayStay 43 = .ok (.if_icmp .ge 19, 3) := by decide +kernel
theorem dX12_mayStay_46 : decode cX12_mayStay 46 = .ok (.aload_n 0, 1) := by decide +kernel
theorem dX12_mayStay_47 : decode cX12_mayStay 47 = .ok (.iload_n 3, 1) := by decide +kernel
theorem dX12_mayStay_48 : decode cX12_mayStay 48 = .ok (.invokevirtual 280, 3) := by decide +kernel
theorem dX12_mayStay_51 : decode cX12_mayStay 51 = .ok (.lconst 0, 1) := by decide +kernel
theorem dX12_mayStay_52 : decode cX12_mayStay 52 = .ok (.lcmp, 1) := by decide +kernel
theorem dX12_mayStay_53 : decode cX12_mayStay 53 = .ok (.ifCond .le 9, 3) := by decide +kernel
theorem dX12_mayStay_56 : decode cX12_mayStay 56 = .ok (.iinc 3 1, 3) := by decide +kernel
theorem dX12_mayStay_59 : decode cX12_mayStay 59 = .ok (.goto (-21), 3) := by decide +kernel
theorem dX12_mayStay_62 : decode cX12_mayStay 62 = .ok (.iload_n 2, 1) := by decide +kernel
theorem dX12_mayStay_63 : decode cX12_mayStay 63 = .ok (.iconst 1, 1) := by decide +kernel
theorem dX12_mayStay_64 : decode cX12_mayStay 64 = .ok (.if_icmp .le 7, 3) := by decide +kernel
theorem dX12_mayStay_67 : decode cX12_mayStay 67 = .ok (.iload_n 2, 1) := by decide +kernel
theorem dX12_mayStay_68 : decode cX12_mayStay 68 = .ok (.goto 4, 3) := by decide +kernel
theorem dX12_mayStay_71 : decode cX12_mayStay 71 = .ok (.iconst 1, 1) := by decide +kernel
theorem dX12_mayStay_72 : decode cX12_mayStay 72 = .ok (.istore 4, 2) := by decide +kernel
theorem dX12_mayStay_74 : decode cX12_mayStay 74 = .ok (.iload 4, 2) := by decide +kernel
theorem dX12_mayStay_76 : decode cX12_mayStay 76 = .ok (.iload_n 3, 1) := by decide +kernel
theorem dX12_mayStay_77 : decode cX12_mayStay 77 = .ok (.if_icmp .gt 42, 3) := by decide +kernel
theorem dX12_mayStay_80 : decode cX12_mayStay 80 = .ok (.iload 4, 2) := by decide +kernel
theorem dX12_mayStay_82 : decode cX12_mayStay 82 = .ok (.aload_n 0, 1) := by decide +kernel
theorem dX12_mayStay_83 : decode cX12_mayStay 83 = .ok (.getfield 19, 3) := by decide +kernel
theorem dX12_mayStay_86 : decode cX12_mayStay 86 = .ok (.if_icmp .ge 33, 3) := by decide +kernel
theorem dX12_mayStay_89 : decode cX12_mayStay 89 = .ok (.aload_n 0, 1) := by decide +kernel
theorem dX12_mayStay_90 : decode cX12_mayStay 90 = .ok (.iload 4, 2) := by decide +kernel
theorem dX12_mayStay_92 : decode cX12_mayStay 92 = .ok (.invokevirtual 280, 3) := by decide +kernel
theorem dX12_mayStay_95 : decode cX12_mayStay 95 = .ok (.lconst 0, 1) := by decide +kernel
theorem dX12_mayStay_96 : decode cX12_mayStay 96 = .ok (.lcmp, 1) := by decide +kernel
theorem dX12_mayStay_97 : decode cX12_mayStay 97 = .ok (.ifCond .ne 16, 3) := by decide +kernel
theorem dX12_mayStay_100 : decode cX12_mayStay 100 = .ok (.aload_n 0, 1) := by decide +kernel
theorem dX12_mayStay_101 : decode cX12_mayStay 101 = .ok (.iload 4, 2) := by decide +kernel
theorem dX12_mayStay_103 : decode cX12_mayStay 103 = .ok (.invokevirtual 283, 3) := by decide +kernel
theorem dX12_mayStay_106 : decode cX12_mayStay 106 = .ok (.lconst 0, 1) := by decide +kernel
theorem dX12_mayStay_107 : decode cX12_mayStay 107 = .ok (.lcmp, 1) := by decide +kernel
theorem dX12_mayStay_108 : decode cX12_mayStay 108 = .ok (.ifCond .ne 5, 3) := by decide +kernel
theorem dX12_mayStay_111 : decode cX12_mayStay 111 = .ok (.iconst 1, 1) := by decide +kernel
theorem dX12_mayStay_112 : decode cX12_mayStay 112 = .ok (.ireturn, 1) := by decide +kernel
theorem dX12_mayStay_113 : decode cX12_mayStay 113 = .ok (.iinc 4 1, 3) := by decide +kernel
theorem dX12_mayStay_116 : decode cX12_mayStay 116 = .ok (.goto (-42), 3) := by decide +kernel
theorem dX12_mayStay_119 : decode cX12_mayStay 119 = .ok (.iconst 0, 1) := by decide +kernel
theorem dX12_mayStay_120 : decode cX12_mayStay 120 = .ok (.ireturn, 1) := by decide +kernel
set_option maxRecDepth 20000 in
theorem ggX12_chain_X12_within : GoodIn wsX12_chain wsX12_within := goodIn_r _ [11] (by decide +kernel) (by decide +kernel)
set_option maxRecDepth 20000 in
theorem gX12_chain_X12_within : GoodIn wsX12_chain (va_wsS RX12 116 yX12_within wsX12_within) := goodIn_app (goodIn_of _ (by decide +kernel)) ggX12_chain_X12_within
set_option maxRecDepth 20000 in
theorem ggX12_chain_X12_mayStay : GoodIn wsX12_chain wsX12_mayStay := goodIn_r _ [15, 2, 16, 17, 18, 10, 19, 20, 21, 22, 23, 24, 25, 26, 27, 28, 29, 30, 31, 32, 81, 82, 83, 84, 85, 86, 87, 88, 89, 90, 91, 92, 93, 94, 95, 96, 97, 98, 99, 100, 101, 102, 103, 104, 105, 106, 107, 108, 109, 110, 111, 112, 113, 114, 115, 116, 117, 118] (by decide +kernel) (by decide +kernel)
set_option maxRecDepth 20000 in
theorem gX12_chain_X12_mayStay : GoodIn wsX12_chain (wsV RX12 299 RX12 yX12_mayStay wsX12_mayStay) := goodIn_app (goodIn_of _ (by decide +kernel)) ggX12_chain_X12_mayStay
set_option maxRecDepth 20000 in
theorem ggX12_chain_X12_laysSteps : GoodIn wsX12_chain wsX12_laysSteps := goodIn_r _ [36, 37, 38, 39, 40, 2, 4, 41, 42, 43, 10, 44, 5, 6, 29, 30, 31, 32, 20, 21, 22, 23, 24, 25, 26, 27, 28, 16, 17, 18, 19, 45, 46, 47, 48, 49, 50, 51, 52, 53, 54, 55, 56, 57, 58, 59, 60, 61, 62, 63, 64, 65, 66, 67, 68, 69, 70, 71, 72, 73, 74, 75, 76, 81, 82, 83, 84, 85, 86, 87, 88, 89, 90, 91, 92, 93, 94, 95, 96, 97, 98, 99, 100, 101, 102, 103, 104, 105, 106, 107, 108, 109, 110, 111, 112, 113, 114, 115, 116, 117, 118] (by decide +kernel) (by decide +kernel)
set_option maxRecDepth 20000 in
theorem gX12_chain_X12_laysSteps : GoodIn wsX12_chain (wsV RX12 302 RX12 yX12_laysSteps wsX12_laysSteps) := goodIn_app (goodIn_of _ (by decide +kernel)) ggX12_chain_X12_laysSteps
set_option maxRecDepth 20000 in
theorem ggX12_chain_X12_goesDown : GoodIn wsX12_chain wsX12_goesDown := goodIn_r _ [80, 5, 6, 2, 4, 37, 38, 39, 40, 45, 46, 47, 10, 48, 49, 50, 51, 52, 53, 54, 55, 56, 73, 74, 75, 76, 61, 62, 63, 64, 81, 82, 83, 84, 85, 86, 87, 88, 89, 90, 91, 92, 93, 94, 95, 96, 97, 98, 99, 100, 101, 102, 103, 104, 105, 106, 107, 108, 109, 110, 111, 112, 113, 114, 115, 116, 117, 118] (by decide +kernel) (by decide +kernel)
set_option maxRecDepth 20000 in
theorem gX12_chain_X12_goesDown : GoodIn wsX12_chain (wsV RX12 306 RX12 yX12_goesDown wsX12_goesDown) := goodIn_app (goodIn_of _ (by decide +kernel)) ggX12_chain_X12_goesDown
theorem dX12_chain_0 : decode cX12_chain 0 = .ok (.aload_n 0, 1) := by decide +kernel
theorem dX12_chain_1 : decode cX12_chain 1 = .ok (.iconst 0, 1) := by decide +kernel
theorem dX12_chain_2 : decode cX12_chain 2 = .ok (.putfield 97, 3) := by decide +kernel
theorem dX12_chain_5 : decode cX12_chain 5 = .ok (.iload_n 1, 1) := by decide +kernel
theorem dX12_chain_6 : decode cX12_chain 6 = .ok (.iconst 0, 1) := by decide +kernel
theorem dX12_chain_7 : decode cX12_chain 7 = .ok (.aload_n 0, 1) := by decide +kernel
theorem dX12_chain_8 : decode cX12_chain 8 = .ok (.getfield 19, 3) := by decide +kernel
theorem dX12_chain_11 : decode cX12_chain 11 = .ok (.invokestatic 116, 3) := by decide +kernel
theorem dX12_chain_14 : decode cX12_chain 14 = .ok (.ifCond .eq 25, 3) := by decide +kernel
theorem dX12_chain_17 : decode cX12_chain 17 = .ok (.iload_n 2, 1) := by decide +kernel
theorem dX12_chain_18 : decode cX12_chain 18 = .ok (.iconst 0, 1) := by decide +kernel
theorem dX12_chain_19 : decode cX12_chain 19 = .ok (.iconst 3, 1) := by decide +kernel
theorem dX12_chain_20 : decode cX12_chain 20 = .ok (.invokestatic 116, 3) := by decide +kernel
theorem dX12_chain_23 : decode cX12_chain 23 = .ok (.ifCond .eq 16, 3) := by decide +kernel
theorem dX12_chain_26 : decode cX12_chain 26 = .ok (.iload_n 2, 1) := by decide +kernel
theorem dX12_chain_27 : decode cX12_chain 27 = .ok (.iconst 1, 1) := by decide +kernel
theorem dX12_chain_28 : decode cX12_chain 28 = .ok (.if_icmp .le 15, 3) := by decide +kernel
theorem dX12_chain_31 : decode cX12_chain 31 = .ok (.aload_n 0, 1) := by decide +kernel
theorem dX12_chain_32 : decode cX12_chain 32 = .ok (.iload_n 1, 1) := by decide +kernel
theorem dX12_chain_33 : decode cX12_chain 33 = .ok (.invokevirtual 299, 3) := by decide +kernel
theorem dX12_chain_36 : decode cX12_chain 36 = .ok (.ifCond .eq 7, 3) := by decide +kernel
theorem dX12_chain_39 : decode cX12_chain 39 = .ok (.ldc2_w 188, 3) := by decide +kernel
theorem dX12_chain_42 : decode cX12_chain 42 = .ok (.lreturn, 1) := by decide +kernel
theorem dX12_chain_43 : decode cX12_chain 43 = .ok (.aload_n 0, 1) := by decide +kernel
theorem dX12_chain_44 : decode cX12_chain 44 = .ok (.iconst 0, 1) := by decide +kernel
theorem dX12_chain_45 : decode cX12_chain 45 = .ok (.putfield 252, 3) := by decide +kernel
theorem dX12_chain_48 : decode cX12_chain 48 = .ok (.aload_n 0, 1) := by decide +kernel
theorem dX12_chain_49 : decode cX12_chain 49 = .ok (.iload_n 2, 1) := by decide +kernel
theorem dX12_chain_50 : decode cX12_chain 50 = .ok (.iconst 1, 1) := by decide +kernel
theorem dX12_chain_51 : decode cX12_chain 51 = .ok (.if_icmp .le 7, 3) := by decide +kernel
theorem dX12_chain_54 : decode cX12_chain 54 = .ok (.iconst 1, 1) := by decide +kernel
theorem dX12_chain_55 : decode cX12_chain 55 = .ok (.goto 4, 3) := by decide +kernel
theorem dX12_chain_58 : decode cX12_chain 58 = .ok (.iconst 0, 1) := by decide +kernel
theorem dX12_chain_59 : decode cX12_chain 59 = .ok (.invokevirtual 302, 3) := by decide +kernel
theorem dX12_chain_62 : decode cX12_chain 62 = .ok (.aload_n 0, 1) := by decide +kernel
theorem dX12_chain_63 : decode cX12_chain 63 = .ok (.getfield 252, 3) := by decide +kernel
theorem dX12_chain_66 : decode cX12_chain 66 = .ok (.ifCond .ne 37, 3) := by decide +kernel
theorem dX12_chain_69 : decode cX12_chain 69 = .ok (.aload_n 0, 1) := by decide +kernel
theorem dX12_chain_70 : decode cX12_chain 70 = .ok (.iload_n 1, 1) := by decide +kernel
theorem dX12_chain_71 : decode cX12_chain 71 = .ok (.iload_n 2, 1) := by decide +kernel
theorem dX12_chain_72 : decode cX12_chain 72 = .ok (.iconst 1, 1) := by decide +kernel
theorem dX12_chain_73 : decode cX12_chain 73 = .ok (.if_icmp .le 7, 3) := by decide +kernel
theorem dX12_chain_76 : decode cX12_chain 76 = .ok (.lconst 0, 1) := by decide +kernel
theorem dX12_chain_77 : decode cX12_chain 77 = .ok (.goto 4, 3) := by decide +kernel
theorem dX12_chain_80 : decode cX12_chain 80 = .ok (.lconst 1, 1) := by decide +kernel
theorem dX12_chain_81 : decode cX12_chain 81 = .ok (.invokevirtual 306, 3) := by decide +kernel
theorem dX12_chain_84 : decode cX12_chain 84 = .ok (.iload_n 2, 1) := by decide +kernel
theorem dX12_chain_85 : decode cX12_chain 85 = .ok (.iconst 1, 1) := by decide +kernel
theorem dX12_chain_86 : decode cX12_chain 86 = .ok (.if_icmp .le 17, 3) := by decide +kernel
theorem dX12_chain_89 : decode cX12_chain 89 = .ok (.iload_n 1, 1) := by decide +kernel
theorem dX12_chain_90 : decode cX12_chain 90 = .ok (.ifCond .ne 13, 3) := by decide +kernel
theorem dX12_chain_93 : decode cX12_chain 93 = .ok (.aload_n 0, 1) := by decide +kernel
theorem dX12_chain_94 : decode cX12_chain 94 = .ok (.lconst 0, 1) := by decide +kernel
theorem dX12_chain_95 : decode cX12_chain 95 = .ok (.putfield 256, 3) := by decide +kernel
theorem dX12_chain_98 : decode cX12_chain 98 = .ok (.aload_n 0, 1) := by decide +kernel
theorem dX12_chain_99 : decode cX12_chain 99 = .ok (.lconst 1, 1) := by decide +kernel
theorem dX12_chain_100 : decode cX12_chain 100 = .ok (.putfield 260, 3) := by decide +kernel
theorem dX12_chain_103 : decode cX12_chain 103 = .ok (.aload_n 0, 1) := by decide +kernel
theorem dX12_chain_104 : decode cX12_chain 104 = .ok (.getfield 252, 3) := by decide +kernel
theorem dX12_chain_107 : decode cX12_chain 107 = .ok (.ifCond .eq 7, 3) := by decide +kernel
theorem dX12_chain_110 : decode cX12_chain 110 = .ok (.ldc2_w 225, 3) := by decide +kernel
theorem dX12_chain_113 : decode cX12_chain 113 = .ok (.lreturn, 1) := by decide +kernel
theorem dX12_chain_114 : decode cX12_chain 114 = .ok (.iload_n 2, 1) := by decide +kernel
theorem dX12_chain_115 : decode cX12_chain 115 = .ok (.iconst 2, 1) := by decide +kernel
theorem dX12_chain_116 : decode cX12_chain 116 = .ok (.irem, 1) := by decide +kernel
theorem dX12_chain_117 : decode cX12_chain 117 = .ok (.ifCond .ne 10, 3) := by decide +kernel
theorem dX12_chain_120 : decode cX12_chain 120 = .ok (.aload_n 0, 1) := by decide +kernel
theorem dX12_chain_121 : decode cX12_chain 121 = .ok (.getfield 256, 3) := by decide +kernel
theorem dX12_chain_124 : decode cX12_chain 124 = .ok (.goto 7, 3) := by decide +kernel
theorem dX12_chain_127 : decode cX12_chain 127 = .ok (.aload_n 0, 1) := by decide +kernel
theorem dX12_chain_128 : decode cX12_chain 128 = .ok (.getfield 260, 3) := by decide +kernel
theorem dX12_chain_131 : decode cX12_chain 131 = .ok (.lreturn, 1) := by decide +kernel
set_option maxRecDepth 20000 in
theorem ggX12_isEntry_X12_within : GoodIn wsX12_isEntry wsX12_within := goodIn_r _ [5] (by decide +kernel) (by decide +kernel)
set_option maxRecDepth 20000 in
theorem gX12_isEntry_X12_within : GoodIn wsX12_isEntry (va_wsS RX12 116 yX12_within wsX12_within) := goodIn_app (goodIn_of _ (by decide +kernel)) ggX12_isEntry_X12_within
theorem dX12_isEntry_0 : decode cX12_isEntry 0 = .ok (.iload_n 1, 1) := by decide +kernel
theorem dX12_isEntry_1 : decode cX12_isEntry 1 = .ok (.iconst 0, 1) := by decide +kernel
theorem dX12_isEntry_2 : decode cX12_isEntry 2 = .ok (.aload_n 0, 1) := by decide +kernel
theorem dX12_isEntry_3 : decode cX12_isEntry 3 = .ok (.getfield 113, 3) := by decide +kernel
theorem dX12_isEntry_6 : decode cX12_isEntry 6 = .ok (.iconst 1, 1) := by decide +kernel
theorem dX12_isEntry_7 : decode cX12_isEntry 7 = .ok (.isub, 1) := by decide +kernel
theorem dX12_isEntry_8 : decode cX12_isEntry 8 = .ok (.invokestatic 116, 3) := by decide +kernel
theorem dX12_isEntry_11 : decode cX12_isEntry 11 = .ok (.ireturn, 1) := by decide +kernel
set_option maxRecDepth 20000 in
theorem ggX12_entry_X12_within : GoodIn wsX12_entry wsX12_within := goodIn_r _ [12] (by decide +kernel) (by decide +kernel)
set_option maxRecDepth 20000 in
theorem gX12_entry_X12_within : GoodIn wsX12_entry (va_wsS RX12 116 yX12_within wsX12_within) := goodIn_app (goodIn_of _ (by decide +kernel)) ggX12_entry_X12_within
set_option maxRecDepth 20000 in
theorem ggX12_entry_X12_acceptedOf : GoodIn wsX12_entry wsX12_acceptedOf := goodIn_r _ [16, 2, 3, 7, 17, 18, 11, 19, 20, 21, 22, 23, 24, 25, 26, 27, 28, 29, 30, 31, 32, 33, 34, 35, 36, 37, 38, 39, 40, 41, 42, 43, 44, 45, 46, 47, 48, 49, 50, 51, 52, 53, 54, 55, 56, 57] (by decide +kernel) (by decide +kernel)
set_option maxRecDepth 20000 in
theorem gX12_entry_X12_acceptedOf : GoodIn wsX12_entry (wsV RX12 310 RX12 yX12_acceptedOf wsX12_acceptedOf) := goodIn_app (goodIn_of _ (by decide +kernel)) ggX12_entry_X12_acceptedOf
theorem dX12_entry_0 : decode cX12_entry 0 = .ok (.aload_n 0, 1) := by decide +kernel
theorem dX12_entry_1 : decode cX12_entry 1 = .ok (.iconst 0, 1) := by decide +kernel
theorem dX12_entry_2 : decode cX12_entry 2 = .ok (.putfield 97, 3) := by decide +kernel
theorem dX12_entry_5 : decode cX12_entry 5 = .ok (.iload_n 1, 1) := by decide +kernel
theorem dX12_entry_6 : decode cX12_entry 6 = .ok (.iconst 0, 1) := by decide +kernel
theorem dX12_entry_7 : decode cX12_entry 7 = .ok (.bipush 7, 2) := by decide +kernel
theorem dX12_entry_9 : decode cX12_entry 9 = .ok (.invokestatic 116, 3) := by decide +kernel
theorem dX12_entry_12 : decode cX12_entry 12 = .ok (.ifCond .eq 49, 3) := by decide +kernel
theorem dX12_entry_15 : decode cX12_entry 15 = .ok (.iload_n 2, 1) := by decide +kernel
theorem dX12_entry_16 : decode cX12_entry 16 = .ok (.iconst (-1), 1) := by decide +kernel
theorem dX12_entry_17 : decode cX12_entry 17 = .ok (.aload_n 0, 1) := by decide +kernel
theorem dX12_entry_18 : decode cX12_entry 18 = .ok (.getfield 113, 3) := by decide +kernel
theorem dX12_entry_21 : decode cX12_entry 21 = .ok (.iconst 1, 1) := by decide +kernel
theorem dX12_entry_22 : decode cX12_entry 22 = .ok (.isub, 1) := by decide +kernel
theorem dX12_entry_23 : decode cX12_entry 23 = .ok (.invokestatic 116, 3) := by decide +kernel
theorem dX12_entry_26 : decode cX12_entry 26 = .ok (.ifCond .eq 35, 3) := by decide +kernel
theorem dX12_entry_29 : decode cX12_entry 29 = .ok (.iload_n 3, 1) := by decide +kernel
theorem dX12_entry_30 : decode cX12_entry 30 = .ok (.iconst (-1), 1) := by decide +kernel
theorem dX12_entry_31 : decode cX12_entry 31 = .ok (.aload_n 0, 1) := by decide +kernel
theorem dX12_entry_32 : decode cX12_entry 32 = .ok (.getfield 113, 3) := by decide +kernel
theorem dX12_entry_35 : decode cX12_entry 35 = .ok (.iconst 1, 1) := by decide +kernel
theorem dX12_entry_36 : decode cX12_entry 36 = .ok (.isub, 1) := by decide +kernel
theorem dX12_entry_37 : decode cX12_entry 37 = .ok (.invokestatic 116, 3) := by decide +kernel
theorem dX12_entry_40 : decode cX12_entry 40 = .ok (.ifCond .eq 21, 3) := by decide +kernel
theorem dX12_entry_43 : decode cX12_entry 43 = .ok (.iload_n 2, 1) := by decide +kernel
theorem dX12_entry_44 : decode cX12_entry 44 = .ok (.ifCond .lt 8, 3) := by decide +kernel
theorem dX12_entry_47 : decode cX12_entry 47 = .ok (.iload_n 2, 1) := by decide +kernel
theorem dX12_entry_48 : decode cX12_entry 48 = .ok (.iload_n 3, 1) := by decide +kernel
theorem dX12_entry_49 : decode cX12_entry 49 = .ok (.if_icmp .eq 12, 3) := by decide +kernel
theorem dX12_entry_52 : decode cX12_entry 52 = .ok (.aload_n 0, 1) := by decide +kernel
theorem dX12_entry_53 : decode cX12_entry 53 = .ok (.getfield 113, 3) := by decide +kernel
theorem dX12_entry_56 : decode cX12_entry 56 = .ok (.bipush 16, 2) := by decide +kernel
theorem dX12_entry_58 : decode cX12_entry 58 = .ok (.if_icmp .ne 5, 3) := by decide +kernel
theorem dX12_entry_61 : decode cX12_entry 61 = .ok (.iconst (-1), 1) := by decide +kernel
theorem dX12_entry_62 : decode cX12_entry 62 = .ok (.ireturn, 1) := by decide +kernel
theorem dX12_entry_63 : decode cX12_entry 63 = .ok (.aload_n 0, 1) := by decide +kernel
theorem dX12_entry_64 : decode cX12_entry 64 = .ok (.getfield 113, 3) := by decide +kernel
theorem dX12_entry_67 : decode cX12_entry 67 = .ok (.istore 4, 2) := by decide +kernel
theorem dX12_entry_69 : decode cX12_entry 69 = .ok (.aload_n 0, 1) := by decide +kernel
theorem dX12_entry_70 : decode cX12_entry 70 = .ok (.getfield 41, 3) := by decide +kernel
theorem dX12_entry_73 : decode cX12_entry 73 = .ok (.iload 4, 2) := by decide +kernel
theorem dX12_entry_75 : decode cX12_entry 75 = .ok (.iload_n 1, 1) := by decide +kernel
theorem dX12_entry_76 : decode cX12_entry 76 = .ok (.iastore, 1) := by decide +kernel
theorem dX12_entry_77 : decode cX12_entry 77 = .ok (.aload_n 0, 1) := by decide +kernel
theorem dX12_entry_78 : decode cX12_entry 78 = .ok (.getfield 44, 3) := by decide +kernel
theorem dX12_entry_81 : decode cX12_entry 81 = .ok (.iload 4, 2) := by decide +kernel
theorem dX12_entry_83 : decode cX12_entry 83 = .ok (.iload_n 2, 1) := by decide +kernel
theorem dX12_entry_84 : decode cX12_entry 84 = .ok (.iastore, 1) := by decide +kernel
theorem dX12_entry_85 : decode cX12_entry 85 = .ok (.aload_n 0, 1) := by decide +kernel
theorem dX12_entry_86 : decode cX12_entry 86 = .ok (.getfield 47, 3) := by decide +kernel
theorem dX12_entry_89 : decode cX12_entry 89 = .ok (.iload 4, 2) := by decide +kernel
theorem dX12_entry_91 : decode cX12_entry 91 = .ok (.iload_n 3, 1) := by decide +kernel
theorem dX12_entry_92 : decode cX12_entry 92 = .ok (.iastore, 1) := by decide +kernel
theorem dX12_entry_93 : decode cX12_entry 93 = .ok (.aload_n 0, 1) := by decide +kernel
theorem dX12_entry_94 : decode cX12_entry 94 = .ok (.getfield 50, 3) := by decide +kernel
theorem dX12_entry_97 : decode cX12_entry 97 = .ok (.iload 4, 2) := by decide +kernel
theorem dX12_entry_99 : decode cX12_entry 99 = .ok (.iconst 0, 1) := by decide +kernel
theorem dX12_entry_100 : decode cX12_entry 100 = .ok (.iastore, 1) := by decide +kernel
theorem dX12_entry_101 : decode cX12_entry 101 = .ok (.iload_n 2, 1) := by decide +kernel
theorem dX12_entry_102 : decode cX12_entry 102 = .ok (.ifCond .lt 23, 3) := by decide +kernel
theorem dX12_entry_105 : decode cX12_entry 105 = .ok (.aload_n 0, 1) := by decide +kernel
theorem dX12_entry_106 : decode cX12_entry 106 = .ok (.getfield 50, 3) := by decide +kernel
theorem dX12_entry_109 : decode cX12_entry 109 = .ok (.iload 4, 2) := by decide +kernel
theorem dX12_entry_111 : decode cX12_entry 111 = .ok (.dup2, 1) := by decide +kernel
theorem dX12_entry_112 : decode cX12_entry 112 = .ok (.iaload, 1) := by decide +kernel
theorem dX12_entry_113 : decode cX12_entry 113 = .ok (.aload_n 0, 1) := by decide +kernel
theorem dX12_entry_114 : decode cX12_entry 114 = .ok (.getfield 50, 3) := by decide +kernel
theorem dX12_entry_117 : decode cX12_entry 117 = .ok (.iload_n 2, 1) := by decide +kernel
theorem dX12_entry_118 : decode cX12_entry 118 = .ok (.iaload, 1) := by decide +kernel
theorem dX12_entry_119 : decode cX12_entry 119 = .ok (.iconst 1, 1) := by decide +kernel
theorem dX12_entry_120 : decode cX12_entry 120 = .ok (.iload_n 2, 1) := by decide +kernel
theorem dX12_entry_121 : decode cX12_entry 121 = .ok (.ishl, 1) := by decide +kernel
theorem dX12_entry_122 : decode cX12_entry 122 = .ok (.ior, 1) := by decide +kernel
theorem dX12_entry_123 : decode cX12_entry 123 = .ok (.ior, 1) := by decide +kernel
theorem dX12_entry_124 : decode cX12_entry 124 = .ok (.iastore, 1) := by decide +kernel
theorem dX12_entry_125 : decode cX12_entry 125 = .ok (.iload_n 3, 1) := by decide +kernel
theorem dX12_entry_126 : decode cX12_entry 126 = .ok (.ifCond .lt 23, 3) := by decide +kernel
theorem dX12_entry_129 : decode cX12_entry 129 = .ok (.aload_n 0, 1) := by decide +kernel
theorem dX12_entry_130 : decode cX12_entry 130 = .ok (.getfield 50, 3) := by decide +kernel
theorem dX12_entry_133 : decode cX12_entry 133 = .ok (.iload 4, 2) := by decide +kernel
theorem dX12_entry_135 : decode cX12_entry 135 = .ok (.dup2, 1) := by decide +kernel
theorem dX12_entry_136 : decode cX12_entry 136 = .ok (.iaload, 1) := by decide +kernel
theorem dX12_entry_137 : decode cX12_entry 137 = .ok (.aload_n 0, 1) := by decide +kernel
theorem dX12_entry_138 : decode cX12_entry 138 = .ok (.getfield 50, 3) := by decide +kernel
theorem dX12_entry_141 : decode cX12_entry 141 = .ok (.iload_n 3, 1) := by decide +kernel
theorem dX12_entry_142 : decode cX12_entry 142 = .ok (.iaload, 1) := by decide +kernel
theorem dX12_entry_143 : decode cX12_entry 143 = .ok (.iconst 1, 1) := by decide +kernel
theorem dX12_entry_144 : decode cX12_entry 144 = .ok (.iload_n 3, 1) := by decide +kernel
theorem dX12_entry_145 : decode cX12_entry 145 = .ok (.ishl, 1) := by decide +kernel
theorem dX12_entry_146 : decode cX12_entry 146 = .ok (.ior, 1) := by decide +kernel
theorem dX12_entry_147 : decode cX12_entry 147 = .ok (.ior, 1) := by decide +kernel
theorem dX12_entry_148 : decode cX12_entry 148 = .ok (.iastore, 1) := by decide +kernel
theorem dX12_entry_149 : decode cX12_entry 149 = .ok (.aload_n 0, 1) := by decide +kernel
theorem dX12_entry_150 : decode cX12_entry 150 = .ok (.dup, 1) := by decide +kernel
theorem dX12_entry_151 : decode cX12_entry 151 = .ok (.getfield 113, 3) := by decide +kernel
theorem dX12_entry_154 : decode cX12_entry 154 = .ok (.iconst 1, 1) := by decide +kernel
theorem dX12_entry_155 : decode cX12_entry 155 = .ok (.iadd, 1) := by decide +kernel
theorem dX12_entry_156 : decode cX12_entry 156 = .ok (.putfield 113, 3) := by decide +kernel
theorem dX12_entry_159 : decode cX12_entry 159 = .ok (.iconst 0, 1) := by decide +kernel
theorem dX12_entry_160 : decode cX12_entry 160 = .ok (.istore 5, 2) := by decide +kernel
theorem dX12_entry_162 : decode cX12_entry 162 = .ok (.iload 5, 2) := by decide +kernel
theorem dX12_entry_164 : decode cX12_entry 164 = .ok (.bipush 8, 2) := by decide +kernel
theorem dX12_entry_166 : decode cX12_entry 166 = .ok (.if_icmp .ge 71, 3) := by decide +kernel
theorem dX12_entry_169 : decode cX12_entry 169 = .ok (.aload_n 0, 1) := by decide +kernel
theorem dX12_entry_170 : decode cX12_entry 170 = .ok (.getfield 7, 3) := by decide +kernel
theorem dX12_entry_173 : decode cX12_entry 173 = .ok (.bipush 96, 2) := by decide +kernel
theorem dX12_entry_175 : decode cX12_entry 175 = .ok (.bipush 8, 2) := by decide +kernel
theorem dX12_entry_177 : decode cX12_entry 177 = .ok (.iload 5, 2) := by decide +kernel
theorem dX12_entry_179 : decode cX12_entry 179 = .ok (.imul, 1) := by decide +kernel
theorem dX12_entry_180 : decode cX12_entry 180 = .ok (.iadd, 1) := by decide +kernel
theorem dX12_entry_181 : decode cX12_entry 181 = .ok (.iload_n 1, 1) := by decide +kernel
theorem dX12_entry_182 : decode cX12_entry 182 = .ok (.iadd, 1) := by decide +kernel
theorem dX12_entry_183 : decode cX12_entry 183 = .ok (.iaload, 1) := by decide +kernel
theorem dX12_entry_184 : decode cX12_entry 184 = .ok (.ifCond .ge 20, 3) := by decide +kernel
theorem dX12_entry_187 : decode cX12_entry 187 = .ok (.aload_n 0, 1) := by decide +kernel
theorem dX12_entry_188 : decode cX12_entry 188 = .ok (.getfield 7, 3) := by decide +kernel
theorem dX12_entry_191 : decode cX12_entry 191 = .ok (.bipush 96, 2) := by decide +kernel
theorem dX12_entry_193 : decode cX12_entry 193 = .ok (.bipush 8, 2) := by decide +kernel
theorem dX12_entry_195 : decode cX12_entry 195 = .ok (.iload 5, 2) := by decide +kernel
theorem dX12_entry_197 : decode cX12_entry 197 = .ok (.imul, 1) := by decide +kernel
theorem dX12_entry_198 : decode cX12_entry 198 = .ok (.iadd, 1) := by decide +kernel
theorem dX12_entry_199 : decode cX12_entry 199 = .ok (.iload_n 1, 1) := by decide +kernel
theorem dX12_entry_200 : decode cX12_entry 200 = .ok (.iadd, 1) := by decide +kernel
theorem dX12_entry_201 : decode cX12_entry 201 = .ok (.iload 4, 2) := by decide +kernel
theorem dX12_entry_203 : decode cX12_entry 203 = .ok (.iastore, 1) := by decide +kernel
theorem dX12_entry_204 : decode cX12_entry 204 = .ok (.aload_n 0, 1) := by decide +kernel
theorem dX12_entry_205 : decode cX12_entry 205 = .ok (.iload 5, 2) := by decide +kernel
theorem dX12_entry_207 : decode cX12_entry 207 = .ok (.iload_n 1, 1) := by decide +kernel
theorem dX12_entry_208 : decode cX12_entry 208 = .ok (.invokevirtual 310, 3) := by decide +kernel
theorem dX12_entry_211 : decode cX12_entry 211 = .ok (.ifCond .lt 20, 3) := by decide +kernel
theorem dX12_entry_214 : decode cX12_entry 214 = .ok (.aload_n 0, 1) := by decide +kernel
theorem dX12_entry_215 : decode cX12_entry 215 = .ok (.getfield 7, 3) := by decide +kernel
theorem dX12_entry_218 : decode cX12_entry 218 = .ok (.bipush 88, 2) := by decide +kernel
theorem dX12_entry_220 : decode cX12_entry 220 = .ok (.iload 5, 2) := by decide +kernel
theorem dX12_entry_222 : decode cX12_entry 222 = .ok (.iadd, 1) := by decide +kernel
theorem dX12_entry_223 : decode cX12_entry 223 = .ok (.dup2, 1) := by decide +kernel
theorem dX12_entry_224 : decode cX12_entry 224 = .ok (.iaload, 1) := by decide +kernel
theorem dX12_entry_225 : decode cX12_entry 225 = .ok (.iconst 1, 1) := by decide +kernel
theorem dX12_entry_226 : decode cX12_entry 226 = .ok (.iload 4, 2) := by decide +kernel
theorem dX12_entry_228 : decode cX12_entry 228 = .ok (.ishl, 1) := by decide +kernel
theorem dX12_entry_229 : decode cX12_entry 229 = .ok (.ior, 1) := by decide +kernel
theorem dX12_entry_230 : decode cX12_entry 230 = .ok (.iastore, 1) := by decide +kernel
theorem dX12_entry_231 : decode cX12_entry 231 = .ok (.iinc 5 1, 3) := by decide +kernel
theorem dX12_entry_234 : decode cX12_entry 234 = .ok (.goto (-72), 3) := by decide +kernel
theorem dX12_entry_237 : decode cX12_entry 237 = .ok (.aload_n 0, 1) := by decide +kernel
theorem dX12_entry_238 : decode cX12_entry 238 = .ok (.iconst 0, 1) := by decide +kernel
theorem dX12_entry_239 : decode cX12_entry 239 = .ok (.putfield 104, 3) := by decide +kernel
theorem dX12_entry_242 : decode cX12_entry 242 = .ok (.iload 4, 2) := by decide +kernel
theorem dX12_entry_244 : decode cX12_entry 244 = .ok (.ireturn, 1) := by decide +kernel
set_option maxRecDepth 20000 in
theorem ggX12_progeny_X12_has : GoodIn wsX12_progeny wsX12_has := goodIn_r _ [6] (by decide +kernel) (by decide +kernel)
set_option maxRecDepth 20000 in
theorem gX12_progeny_X12_has : GoodIn wsX12_progeny (va_wsS RX12 100 yX12_has wsX12_has) := goodIn_app (goodIn_of _ (by decide +kernel)) ggX12_progeny_X12_has
theorem dX12_progeny_0 : decode cX12_progeny 0 = .ok (.iconst 0, 1) := by decide +kernel
theorem dX12_progeny_1 : decode cX12_progeny 1 = .ok (.istore_n 2, 1) := by decide +kernel
theorem dX12_progeny_2 : decode cX12_progeny 2 = .ok (.iconst 0, 1) := by decide +kernel
theorem dX12_progeny_3 : decode cX12_progeny 3 = .ok (.istore_n 3, 1) := by decide +kernel
theorem dX12_progeny_4 : decode cX12_progeny 4 = .ok (.iload_n 3, 1) := by decide +kernel
theorem dX12_progeny_5 : decode cX12_progeny 5 = .ok (.aload_n 0, 1) := by decide +kernel
theorem dX12_progeny_6 : decode cX12_progeny 6 = .ok (.getfield 113, 3) := by decide +kernel
theorem dX12_progeny_9 : decode cX12_progeny 9 = .ok (.if_icmp .ge 28, 3) := by decide +kernel
theorem dX12_progeny_12 : decode cX12_progeny 12 = .ok (.aload_n 0, 1) := by decide +kernel
theorem dX12_progeny_13 : decode cX12_progeny 13 = .ok (.getfield 50, 3) := by decide +kernel
theorem dX12_progeny_16 : decode cX12_progeny 16 = .ok (.iload_n 3, 1) := by decide +kernel
theorem dX12_progeny_17 : decode cX12_progeny 17 = .ok (.iaload, 1) := by decide +kernel
theorem dX12_progeny_18 : decode cX12_progeny 18 = .ok (.iload_n 1, 1) := by decide +kernel
theorem dX12_progeny_19 : decode cX12_progeny 19 = .ok (.invokestatic 100, 3) := by decide +kernel
theorem dX12_progeny_22 : decode cX12_progeny 22 = .ok (.ifCond .eq 9, 3) := by decide +kernel
theorem dX12_progeny_25 : decode cX12_progeny 25 = .ok (.iload_n 2, 1) := by decide +kernel
theorem dX12_progeny_26 : decode cX12_progeny 26 = .ok (.iconst 1, 1) := by decide +kernel
theorem dX12_progeny_27 : decode cX12_progeny 27 = .ok (.iload_n 3, 1) := by decide +kernel
theorem dX12_progeny_28 : decode cX12_progeny 28 = .ok (.ishl, 1) := by decide +kernel
theorem dX12_progeny_29 : decode cX12_progeny 29 = .ok (.ior, 1) := by decide +kernel
theorem dX12_progeny_30 : decode cX12_progeny 30 = .ok (.istore_n 2, 1) := by decide +kernel
theorem dX12_progeny_31 : decode cX12_progeny 31 = .ok (.iinc 3 1, 3) := by decide +kernel
theorem dX12_progeny_34 : decode cX12_progeny 34 = .ok (.goto (-30), 3) := by decide +kernel
theorem dX12_progeny_37 : decode cX12_progeny 37 = .ok (.iload_n 2, 1) := by decide +kernel
theorem dX12_progeny_38 : decode cX12_progeny 38 = .ok (.ireturn, 1) := by decide +kernel
set_option maxRecDepth 20000 in
theorem ggX12_acceptedOf_X12_has : GoodIn wsX12_acceptedOf wsX12_has := goodIn_r _ [7] (by decide +kernel) (by decide +kernel)
set_option maxRecDepth 20000 in
theorem gX12_acceptedOf_X12_has : GoodIn wsX12_acceptedOf (va_wsS RX12 100 yX12_has wsX12_has) := goodIn_app (goodIn_of _ (by decide +kernel)) ggX12_acceptedOf_X12_has
theorem dX12_acceptedOf_0 : decode cX12_acceptedOf 0 = .ok (.iconst 0, 1) := by decide +kernel
theorem dX12_acceptedOf_1 : decode cX12_acceptedOf 1 = .ok (.istore_n 3, 1) := by decide +kernel
theorem dX12_acceptedOf_2 : decode cX12_acceptedOf 2 = .ok (.iload_n 3, 1) := by decide +kernel
theorem dX12_acceptedOf_3 : decode cX12_acceptedOf 3 = .ok (.aload_n 0, 1) := by decide +kernel
theorem dX12_acceptedOf_4 : decode cX12_acceptedOf 4 = .ok (.getfield 113, 3) := by decide +kernel
theorem dX12_acceptedOf_7 : decode cX12_acceptedOf 7 = .ok (.if_icmp .ge 37, 3) := by decide +kernel
theorem dX12_acceptedOf_10 : decode cX12_acceptedOf 10 = .ok (.aload_n 0, 1) := by decide +kernel
theorem dX12_acceptedOf_11 : decode cX12_acceptedOf 11 = .ok (.getfield 41, 3) := by decide +kernel
theorem dX12_acceptedOf_14 : decode cX12_acceptedOf 14 = .ok (.iload_n 3, 1) := by decide +kernel
theorem dX12_acceptedOf_15 : decode cX12_acceptedOf 15 = .ok (.iaload, 1) := by decide +kernel
theorem dX12_acceptedOf_16 : decode cX12_acceptedOf 16 = .ok (.iload_n 2, 1) := by decide +kernel
theorem dX12_acceptedOf_17 : decode cX12_acceptedOf 17 = .ok (.if_icmp .ne 21, 3) := by decide +kernel
theorem dX12_acceptedOf_20 : decode cX12_acceptedOf 20 = .ok (.aload_n 0, 1) := by decide +kernel
theorem dX12_acceptedOf_21 : decode cX12_acceptedOf 21 = .ok (.getfield 7, 3) := by decide +kernel
theorem dX12_acceptedOf_24 : decode cX12_acceptedOf 24 = .ok (.bipush 80, 2) := by decide +kernel
theorem dX12_acceptedOf_26 : decode cX12_acceptedOf 26 = .ok (.iload_n 1, 1) := by decide +kernel
theorem dX12_acceptedOf_27 : decode cX12_acceptedOf 27 = .ok (.iadd, 1) := by decide +kernel
theorem dX12_acceptedOf_28 : decode cX12_acceptedOf 28 = .ok (.iaload, 1) := by decide +kernel
theorem dX12_acceptedOf_29 : decode cX12_acceptedOf 29 = .ok (.iload_n 3, 1) := by decide +kernel
theorem dX12_acceptedOf_30 : decode cX12_acceptedOf 30 = .ok (.invokestatic 100, 3) := by decide +kernel
theorem dX12_acceptedOf_33 : decode cX12_acceptedOf 33 = .ok (.ifCond .eq 5, 3) := by decide +kernel
theorem dX12_acceptedOf_36 : decode cX12_acceptedOf 36 = .ok (.iload_n 3, 1) := by decide +kernel
theorem dX12_acceptedOf_37 : decode cX12_acceptedOf 37 = .ok (.ireturn, 1) := by decide +kernel
theorem dX12_acceptedOf_38 : decode cX12_acceptedOf 38 = .ok (.iinc 3 1, 3) := by decide +kernel
theorem dX12_acceptedOf_41 : decode cX12_acceptedOf 41 = .ok (.goto (-39), 3) := by decide +kernel
theorem dX12_acceptedOf_44 : decode cX12_acceptedOf 44 = .ok (.iconst (-1), 1) := by decide +kernel
theorem dX12_acceptedOf_45 : decode cX12_acceptedOf 45 = .ok (.ireturn, 1) := by decide +kernel
set_option maxRecDepth 20000 in
theorem ggX12_confOf_X12_progeny : GoodIn wsX12_confOf wsX12_progeny := goodIn_r _ [6, 7, 8, 9, 10, 5, 11, 15, 16, 17, 18, 19, 20, 21, 22, 23, 24, 25, 26, 27, 28, 29, 30, 31, 32, 33, 34, 35, 36, 37, 38, 39, 40, 41, 42, 43, 44, 45, 46, 47, 48, 49, 50, 51, 52] (by decide +kernel) (by decide +kernel)
set_option maxRecDepth 20000 in
theorem gX12_confOf_X12_progeny : GoodIn wsX12_confOf (wsV RX12 313 RX12 yX12_progeny wsX12_progeny) := goodIn_app (goodIn_of _ (by decide +kernel)) ggX12_confOf_X12_progeny
set_option maxRecDepth 20000 in
theorem ggX12_confOf_X12_many : GoodIn wsX12_confOf wsX12_many := goodIn_r _ [14, 9, 10, 5, 11] (by decide +kernel) (by decide +kernel)
set_option maxRecDepth 20000 in
theorem gX12_confOf_X12_many : GoodIn wsX12_confOf (va_wsS RX12 127 yX12_many wsX12_many) := goodIn_app (goodIn_of _ (by decide +kernel)) ggX12_confOf_X12_many
theorem dX12_confOf_0 : decode cX12_confOf 0 = .ok (.aload_n 0, 1) := by decide +kernel
theorem dX12_confOf_1 : decode cX12_confOf 1 = .ok (.getfield 7, 3) := by decide +kernel
theorem dX12_confOf_4 : decode cX12_confOf 4 = .ok (.bipush 64, 2) := by decide +kernel
theorem dX12_confOf_6 : decode cX12_confOf 6 = .ok (.iload_n 1, 1) := by decide +kernel
theorem dX12_confOf_7 : decode cX12_confOf 7 = .ok (.iadd, 1) := by decide +kernel
theorem dX12_confOf_8 : decode cX12_confOf 8 = .ok (.iaload, 1) := by decide +kernel
theorem dX12_confOf_9 : decode cX12_confOf 9 = .ok (.aload_n 0, 1) := by decide +kernel
theorem dX12_confOf_10 : decode cX12_confOf 10 = .ok (.iload_n 2, 1) := by decide +kernel
theorem dX12_confOf_11 : decode cX12_confOf 11 = .ok (.invokevirtual 313, 3) := by decide +kernel
theorem dX12_confOf_14 : decode cX12_confOf 14 = .ok (.iconst 1, 1) := by decide +kernel
theorem dX12_confOf_15 : decode cX12_confOf 15 = .ok (.iload_n 2, 1) := by decide +kernel
theorem dX12_confOf_16 : decode cX12_confOf 16 = .ok (.ishl, 1) := by decide +kernel
theorem dX12_confOf_17 : decode cX12_confOf 17 = .ok (.ior, 1) := by decide +kernel
theorem dX12_confOf_18 : decode cX12_confOf 18 = .ok (.iand, 1) := by decide +kernel
theorem dX12_confOf_19 : decode cX12_confOf 19 = .ok (.invokestatic 127, 3) := by decide +kernel
theorem dX12_confOf_22 : decode cX12_confOf 22 = .ok (.ireturn, 1) := by decide +kernel
set_option maxRecDepth 20000 in
theorem ggX12_isStrong_X12_has : GoodIn wsX12_isStrong wsX12_has := goodIn_r _ [8] (by decide +kernel) (by decide +kernel)
set_option maxRecDepth 20000 in
theorem gX12_isStrong_X12_has : GoodIn wsX12_isStrong (va_wsS RX12 100 yX12_has wsX12_has) := goodIn_app (goodIn_of _ (by decide +kernel)) ggX12_isStrong_X12_has
theorem dX12_isStrong_0 : decode cX12_isStrong 0 = .ok (.iconst 0, 1) := by decide +kernel
theorem dX12_isStrong_1 : decode cX12_isStrong 1 = .ok (.istore_n 3, 1) := by decide +kernel
theorem dX12_isStrong_2 : decode cX12_isStrong 2 = .ok (.iload_n 3, 1) := by decide +kernel
theorem dX12_isStrong_3 : decode cX12_isStrong 3 = .ok (.aload_n 0, 1) := by decide +kernel
theorem dX12_isStrong_4 : decode cX12_isStrong 4 = .ok (.getfield 113, 3) := by decide +kernel
theorem dX12_isStrong_7 : decode cX12_isStrong 7 = .ok (.if_icmp .ge 51, 3) := by decide +kernel
theorem dX12_isStrong_10 : decode cX12_isStrong 10 = .ok (.aload_n 0, 1) := by decide +kernel
theorem dX12_isStrong_11 : decode cX12_isStrong 11 = .ok (.getfield 50, 3) := by decide +kernel
theorem dX12_isStrong_14 : decode cX12_isStrong 14 = .ok (.iload_n 2, 1) := by decide +kernel
theorem dX12_isStrong_15 : decode cX12_isStrong 15 = .ok (.iaload, 1) := by decide +kernel
theorem dX12_isStrong_16 : decode cX12_isStrong 16 = .ok (.iconst 1, 1) := by decide +kernel
theorem dX12_isStrong_17 : decode cX12_isStrong 17 = .ok (.iload_n 2, 1) := by decide +kernel
theorem dX12_isStrong_18 : decode cX12_isStrong 18 = .ok (.ishl, 1) := by decide +kernel
theorem dX12_isStrong_19 : decode cX12_isStrong 19 = .ok (.ior, 1) := by decide +kernel
theorem dX12_isStrong_20 : decode cX12_isStrong 20 = .ok (.iload_n 3, 1) := by decide +kernel
theorem dX12_isStrong_21 : decode cX12_isStrong 21 = .ok (.invokestatic 100, 3) := by decide +kernel
theorem dX12_isStrong_24 : decode cX12_isStrong 24 = .ok (.ifCond .eq 28, 3) := by decide +kernel
theorem dX12_isStrong_27 : decode cX12_isStrong 27 = .ok (.aload_n 0, 1) := by decide +kernel
theorem dX12_isStrong_28 : decode cX12_isStrong 28 = .ok (.getfield 7, 3) := by decide +kernel
theorem dX12_isStrong_31 : decode cX12_isStrong 31 = .ok (.bipush 96, 2) := by decide +kernel
theorem dX12_isStrong_33 : decode cX12_isStrong 33 = .ok (.bipush 8, 2) := by decide +kernel
theorem dX12_isStrong_35 : decode cX12_isStrong 35 = .ok (.iload_n 1, 1) := by decide +kernel
theorem dX12_isStrong_36 : decode cX12_isStrong 36 = .ok (.imul, 1) := by decide +kernel
theorem dX12_isStrong_37 : decode cX12_isStrong 37 = .ok (.iadd, 1) := by decide +kernel
theorem dX12_isStrong_38 : decode cX12_isStrong 38 = .ok (.aload_n 0, 1) := by decide +kernel
theorem dX12_isStrong_39 : decode cX12_isStrong 39 = .ok (.getfield 41, 3) := by decide +kernel
theorem dX12_isStrong_42 : decode cX12_isStrong 42 = .ok (.iload_n 3, 1) := by decide +kernel
theorem dX12_isStrong_43 : decode cX12_isStrong 43 = .ok (.iaload, 1) := by decide +kernel
theorem dX12_isStrong_44 : decode cX12_isStrong 44 = .ok (.iadd, 1) := by decide +kernel
theorem dX12_isStrong_45 : decode cX12_isStrong 45 = .ok (.iaload, 1) := by decide +kernel
theorem dX12_isStrong_46 : decode cX12_isStrong 46 = .ok (.iload_n 3, 1) := by decide +kernel
theorem dX12_isStrong_47 : decode cX12_isStrong 47 = .ok (.if_icmp .eq 5, 3) := by decide +kernel
theorem dX12_isStrong_50 : decode cX12_isStrong 50 = .ok (.iconst 0, 1) := by decide +kernel
theorem dX12_isStrong_51 : decode cX12_isStrong 51 = .ok (.ireturn, 1) := by decide +kernel
theorem dX12_isStrong_52 : decode cX12_isStrong 52 = .ok (.iinc 3 1, 3) := by decide +kernel
theorem dX12_isStrong_55 : decode cX12_isStrong 55 = .ok (.goto (-53), 3) := by decide +kernel
theorem dX12_isStrong_58 : decode cX12_isStrong 58 = .ok (.iconst 1, 1) := by decide +kernel
theorem dX12_isStrong_59 : decode cX12_isStrong 59 = .ok (.ireturn, 1) := by decide +kernel
set_option maxRecDepth 20000 in
theorem ggX12_saysYes_X12_has : GoodIn wsX12_saysYes wsX12_has := goodIn_r _ [5] (by decide +kernel) (by decide +kernel)
set_option maxRecDepth 20000 in
theorem gX12_saysYes_X12_has : GoodIn wsX12_saysYes (va_wsS RX12 100 yX12_has wsX12_has) := goodIn_app (goodIn_of _ (by decide +kernel)) ggX12_saysYes_X12_has
set_option maxRecDepth 20000 in
theorem ggX12_saysYes_X12_isStrong : GoodIn wsX12_saysYes wsX12_isStrong := goodIn_r _ [9, 10, 11, 1, 12, 2, 3, 4, 5, 13, 14, 15, 16, 17, 18, 19, 20, 21, 22, 23, 24, 25, 26, 27, 28, 29, 30, 31, 32, 33, 34, 35, 36, 37, 38, 39, 40, 41, 42, 43, 44, 45, 46, 47, 48, 49, 50] (by decide +kernel) (by decide +kernel)
set_option maxRecDepth 20000 in
theorem gX12_saysYes_X12_isStrong : GoodIn wsX12_saysYes (wsV RX12 316 RX12 yX12_isStrong wsX12_isStrong) := goodIn_app (goodIn_of _ (by decide +kernel)) ggX12_saysYes_X12_isStrong
theorem dX12_saysYes_0 : decode cX12_saysYes 0 = .ok (.aload_n 0, 1) := by decide +kernel
theorem dX12_saysYes_1 : decode cX12_saysYes 1 = .ok (.getfield 7, 3) := by decide +kernel
theorem dX12_saysYes_4 : decode cX12_saysYes 4 = .ok (.bipush 56, 2) := by decide +kernel
theorem dX12_saysYes_6 : decode cX12_saysYes 6 = .ok (.iload_n 2, 1) := by decide +kernel
theorem dX12_saysYes_7 : decode cX12_saysYes 7 = .ok (.iadd, 1) := by decide +kernel
theorem dX12_saysYes_8 : decode cX12_saysYes 8 = .ok (.iaload, 1) := by decide +kernel
theorem dX12_saysYes_9 : decode cX12_saysYes 9 = .ok (.iload_n 1, 1) := by decide +kernel
theorem dX12_saysYes_10 : decode cX12_saysYes 10 = .ok (.invokestatic 100, 3) := by decide +kernel
theorem dX12_saysYes_13 : decode cX12_saysYes 13 = .ok (.ifCond .ne 5, 3) := by decide +kernel
theorem dX12_saysYes_16 : decode cX12_saysYes 16 = .ok (.iconst 0, 1) := by decide +kernel
theorem dX12_saysYes_17 : decode cX12_saysYes 17 = .ok (.ireturn, 1) := by decide +kernel
theorem dX12_saysYes_18 : decode cX12_saysYes 18 = .ok (.aload_n 0, 1) := by decide +kernel
theorem dX12_saysYes_19 : decode cX12_saysYes 19 = .ok (.getfield 7, 3) := by decide +kernel
theorem dX12_saysYes_22 : decode cX12_saysYes 22 = .ok (.bipush 48, 2) := by decide +kernel
theorem dX12_saysYes_24 : decode cX12_saysYes 24 = .ok (.iload_n 1, 1) := by decide +kernel
theorem dX12_saysYes_25 : decode cX12_saysYes 25 = .ok (.iadd, 1) := by decide +kernel
theorem dX12_saysYes_26 : decode cX12_saysYes 26 = .ok (.iaload, 1) := by decide +kernel
theorem dX12_saysYes_27 : decode cX12_saysYes 27 = .ok (.istore 4, 2) := by decide +kernel
theorem dX12_saysYes_29 : decode cX12_saysYes 29 = .ok (.iload 4, 2) := by decide +kernel
theorem dX12_saysYes_31 : decode cX12_saysYes 31 = .ok (.ifCond .ne 12, 3) := by decide +kernel
theorem dX12_saysYes_34 : decode cX12_saysYes 34 = .ok (.aload_n 0, 1) := by decide +kernel
theorem dX12_saysYes_35 : decode cX12_saysYes 35 = .ok (.iload_n 1, 1) := by decide +kernel
theorem dX12_saysYes_36 : decode cX12_saysYes 36 = .ok (.iload_n 3, 1) := by decide +kernel
theorem dX12_saysYes_37 : decode cX12_saysYes 37 = .ok (.invokevirtual 316, 3) := by decide +kernel
theorem dX12_saysYes_40 : decode cX12_saysYes 40 = .ok (.goto 29, 3) := by decide +kernel
theorem dX12_saysYes_43 : decode cX12_saysYes 43 = .ok (.iload 4, 2) := by decide +kernel
theorem dX12_saysYes_45 : decode cX12_saysYes 45 = .ok (.iconst 2, 1) := by decide +kernel
theorem dX12_saysYes_46 : decode cX12_saysYes 46 = .ok (.if_icmp .eq 18, 3) := by decide +kernel
theorem dX12_saysYes_49 : decode cX12_saysYes 49 = .ok (.iload 4, 2) := by decide +kernel
theorem dX12_saysYes_51 : decode cX12_saysYes 51 = .ok (.iconst 3, 1) := by decide +kernel
theorem dX12_saysYes_52 : decode cX12_saysYes 52 = .ok (.if_icmp .ne 16, 3) := by decide +kernel
theorem dX12_saysYes_55 : decode cX12_saysYes 55 = .ok (.aload_n 0, 1) := by decide +kernel
theorem dX12_saysYes_56 : decode cX12_saysYes 56 = .ok (.iload_n 2, 1) := by decide +kernel
theorem dX12_saysYes_57 : decode cX12_saysYes 57 = .ok (.iload_n 3, 1) := by decide +kernel
theorem dX12_saysYes_58 : decode cX12_saysYes 58 = .ok (.invokevirtual 316, 3) := by decide +kernel
theorem dX12_saysYes_61 : decode cX12_saysYes 61 = .ok (.ifCond .ne 7, 3) := by decide +kernel
theorem dX12_saysYes_64 : decode cX12_saysYes 64 = .ok (.iconst 1, 1) := by decide +kernel
theorem dX12_saysYes_65 : decode cX12_saysYes 65 = .ok (.goto 4, 3) := by decide +kernel
theorem dX12_saysYes_68 : decode cX12_saysYes 68 = .ok (.iconst 0, 1) := by decide +kernel
theorem dX12_saysYes_69 : decode cX12_saysYes 69 = .ok (.ireturn, 1) := by decide +kernel
set_option maxRecDepth 20000 in
theorem ggX12_canPoll_X12_isNode : GoodIn wsX12_canPoll wsX12_isNode := goodIn_r _ [6, 7, 8, 9, 5, 10, 27, 28, 29, 30, 31, 32, 33, 34, 35, 36, 37, 38, 39, 40, 41, 42, 43, 44, 45, 46, 47, 48, 49, 50, 51, 52, 53, 54, 55, 56, 57, 58, 59, 60, 61, 62, 63, 64] (by decide +kernel) (by decide +kernel)
set_option maxRecDepth 20000 in
theorem gX12_canPoll_X12_isNode : GoodIn wsX12_canPoll (wsV RX12 120 RX12 yX12_isNode wsX12_isNode) := goodIn_app (goodIn_of _ (by decide +kernel)) ggX12_canPoll_X12_isNode
set_option maxRecDepth 20000 in
theorem ggX12_canPoll_X12_isEntry : GoodIn wsX12_canPoll wsX12_isEntry := goodIn_r _ [14, 15, 8, 9, 5, 10, 27, 28, 29, 30, 31, 32, 33, 34, 35, 36, 37, 38, 39, 40, 41, 42, 43, 44, 45, 46, 47, 48, 49, 50, 51, 52, 53, 54, 55, 56, 57, 58, 59, 60, 61, 62, 63, 64] (by decide +kernel) (by decide +kernel)
set_option maxRecDepth 20000 in
theorem gX12_canPoll_X12_isEntry : GoodIn wsX12_canPoll (wsV RX12 319 RX12 yX12_isEntry wsX12_isEntry) := goodIn_app (goodIn_of _ (by decide +kernel)) ggX12_canPoll_X12_isEntry
set_option maxRecDepth 20000 in
theorem ggX12_canPoll_X12_isSample : GoodIn wsX12_canPoll wsX12_isSample := goodIn_r _ [19, 7, 20, 21, 22, 5, 23, 24, 25, 26, 27, 28, 29, 30, 31, 32, 33, 34, 35, 36, 37, 38, 39, 40, 41, 42, 43, 44, 45, 46, 47, 48, 49, 50, 51, 52, 53, 54, 55, 56, 57, 58, 59, 60, 61, 62, 63, 64] (by decide +kernel) (by decide +kernel)
set_option maxRecDepth 20000 in
theorem gX12_canPoll_X12_isSample : GoodIn wsX12_canPoll (wsV RX12 139 RX12 yX12_isSample wsX12_isSample) := goodIn_app (goodIn_of _ (by decide +kernel)) ggX12_canPoll_X12_isSample
set_option maxRecDepth 20000 in
theorem ggX12_canPoll_X12_has : GoodIn wsX12_canPoll wsX12_has := goodIn_r _ [23] (by decide +kernel) (by decide +kernel)
set_option maxRecDepth 20000 in
theorem gX12_canPoll_X12_has : GoodIn wsX12_canPoll (va_wsS RX12 100 yX12_has wsX12_has) := goodIn_app (goodIn_of _ (by decide +kernel)) ggX12_canPoll_X12_has
theorem dX12_canPoll_0 : decode cX12_canPoll 0 = .ok (.aload_n 0, 1) := by decide +kernel
theorem dX12_canPoll_1 : decode cX12_canPoll 1 = .ok (.iload_n 1, 1) := by decide +kernel
theorem dX12_canPoll_2 : decode cX12_canPoll 2 = .ok (.invokevirtual 120, 3) := by decide +kernel
theorem dX12_canPoll_5 : decode cX12_canPoll 5 = .ok (.ifCond .eq 52, 3) := by decide +kernel
theorem dX12_canPoll_8 : decode cX12_canPoll 8 = .ok (.aload_n 0, 1) := by decide +kernel
theorem dX12_canPoll_9 : decode cX12_canPoll 9 = .ok (.iload_n 2, 1) := by decide +kernel
theorem dX12_canPoll_10 : decode cX12_canPoll 10 = .ok (.invokevirtual 319, 3) := by decide +kernel
theorem dX12_canPoll_13 : decode cX12_canPoll 13 = .ok (.ifCond .eq 44, 3) := by decide +kernel
theorem dX12_canPoll_16 : decode cX12_canPoll 16 = .ok (.aload_n 0, 1) := by decide +kernel
theorem dX12_canPoll_17 : decode cX12_canPoll 17 = .ok (.iload_n 1, 1) := by decide +kernel
theorem dX12_canPoll_18 : decode cX12_canPoll 18 = .ok (.iload_n 3, 1) := by decide +kernel
theorem dX12_canPoll_19 : decode cX12_canPoll 19 = .ok (.invokevirtual 139, 3) := by decide +kernel
theorem dX12_canPoll_22 : decode cX12_canPoll 22 = .ok (.ifCond .eq 35, 3) := by decide +kernel
theorem dX12_canPoll_25 : decode cX12_canPoll 25 = .ok (.aload_n 0, 1) := by decide +kernel
theorem dX12_canPoll_26 : decode cX12_canPoll 26 = .ok (.getfield 7, 3) := by decide +kernel
theorem dX12_canPoll_29 : decode cX12_canPoll 29 = .ok (.bipush 48, 2) := by decide +kernel
theorem dX12_canPoll_31 : decode cX12_canPoll 31 = .ok (.iload_n 1, 1) := by decide +kernel
theorem dX12_canPoll_32 : decode cX12_canPoll 32 = .ok (.iadd, 1) := by decide +kernel
theorem dX12_canPoll_33 : decode cX12_canPoll 33 = .ok (.iaload, 1) := by decide +kernel
theorem dX12_canPoll_34 : decode cX12_canPoll 34 = .ok (.ifCond .ne 23, 3) := by decide +kernel
theorem dX12_canPoll_37 : decode cX12_canPoll 37 = .ok (.aload_n 0, 1) := by decide +kernel
theorem dX12_canPoll_38 : decode cX12_canPoll 38 = .ok (.getfield 7, 3) := by decide +kernel
theorem dX12_canPoll_41 : decode cX12_canPoll 41 = .ok (.bipush 72, 2) := by decide +kernel
theorem dX12_canPoll_43 : decode cX12_canPoll 43 = .ok (.iload_n 1, 1) := by decide +kernel
theorem dX12_canPoll_44 : decode cX12_canPoll 44 = .ok (.iadd, 1) := by decide +kernel
theorem dX12_canPoll_45 : decode cX12_canPoll 45 = .ok (.iaload, 1) := by decide +kernel
theorem dX12_canPoll_46 : decode cX12_canPoll 46 = .ok (.iload_n 2, 1) := by decide +kernel
theorem dX12_canPoll_47 : decode cX12_canPoll 47 = .ok (.invokestatic 100, 3) := by decide +kernel
theorem dX12_canPoll_50 : decode cX12_canPoll 50 = .ok (.ifCond .ne 7, 3) := by decide +kernel
theorem dX12_canPoll_53 : decode cX12_canPoll 53 = .ok (.iconst 1, 1) := by decide +kernel
theorem dX12_canPoll_54 : decode cX12_canPoll 54 = .ok (.goto 4, 3) := by decide +kernel
theorem dX12_canPoll_57 : decode cX12_canPoll 57 = .ok (.iconst 0, 1) := by decide +kernel
theorem dX12_canPoll_58 : decode cX12_canPoll 58 = .ok (.ireturn, 1) := by decide +kernel
set_option maxRecDepth 20000 in
theorem ggX12_yesOf_X12_has : GoodIn wsX12_yesOf wsX12_has := goodIn_r _ [5] (by decide +kernel) (by decide +kernel)
set_option maxRecDepth 20000 in
theorem gX12_yesOf_X12_has : GoodIn wsX12_yesOf (va_wsS RX12 100 yX12_has wsX12_has) := goodIn_app (goodIn_of _ (by decide +kernel)) ggX12_yesOf_X12_has
set_option maxRecDepth 20000 in
theorem ggX12_yesOf_X12_saysYes : GoodIn wsX12_yesOf wsX12_saysYes := goodIn_r _ [9, 10, 2, 3, 4, 5, 11, 12, 13, 14, 15, 16, 17, 18, 19, 20, 21, 22, 23, 24, 25, 26, 27, 28, 29, 30, 31, 32, 33, 34, 35, 36, 37, 38, 39, 40, 41, 42, 43, 44, 45, 46, 47, 48, 49, 50, 51, 52, 53, 54, 55] (by decide +kernel) (by decide +kernel)
set_option maxRecDepth 20000 in
theorem gX12_yesOf_X12_saysYes : GoodIn wsX12_yesOf (wsV RX12 322 RX12 yX12_saysYes wsX12_saysYes) := goodIn_app (goodIn_of _ (by decide +kernel)) ggX12_yesOf_X12_saysYes
theorem dX12_yesOf_0 : decode cX12_yesOf 0 = .ok (.iconst 0, 1) := by decide +kernel
theorem dX12_yesOf_1 : decode cX12_yesOf 1 = .ok (.istore 4, 2) := by decide +kernel
theorem dX12_yesOf_3 : decode cX12_yesOf 3 = .ok (.iconst 0, 1) := by decide +kernel
theorem dX12_yesOf_4 : decode cX12_yesOf 4 = .ok (.istore 5, 2) := by decide +kernel
theorem dX12_yesOf_6 : decode cX12_yesOf 6 = .ok (.iload 5, 2) := by decide +kernel
theorem dX12_yesOf_8 : decode cX12_yesOf 8 = .ok (.aload_n 0, 1) := by decide +kernel
theorem dX12_yesOf_9 : decode cX12_yesOf 9 = .ok (.getfield 19, 3) := by decide +kernel
theorem dX12_yesOf_12 : decode cX12_yesOf 12 = .ok (.if_icmp .ge 32, 3) := by decide +kernel
theorem dX12_yesOf_15 : decode cX12_yesOf 15 = .ok (.iload_n 3, 1) := by decide +kernel
theorem dX12_yesOf_16 : decode cX12_yesOf 16 = .ok (.iload 5, 2) := by decide +kernel
theorem dX12_yesOf_18 : decode cX12_yesOf 18 = .ok (.invokestatic 100, 3) := by decide +kernel
theorem dX12_yesOf_21 : decode cX12_yesOf 21 = .ok (.ifCond .eq 17, 3) := by decide +kernel
theorem dX12_yesOf_24 : decode cX12_yesOf 24 = .ok (.aload_n 0, 1) := by decide +kernel
theorem dX12_yesOf_25 : decode cX12_yesOf 25 = .ok (.iload 5, 2) := by decide +kernel
theorem dX12_yesOf_27 : decode cX12_yesOf 27 = .ok (.iload_n 1, 1) := by decide +kernel
theorem dX12_yesOf_28 : decode cX12_yesOf 28 = .ok (.iload_n 2, 1) := by decide +kernel
theorem dX12_yesOf_29 : decode cX12_yesOf 29 = .ok (.invokevirtual 322, 3) := by decide +kernel
theorem dX12_yesOf_32 : decode cX12_yesOf 32 = .ok (.ifCond .eq 6, 3) := by decide +kernel
theorem dX12_yesOf_35 : decode cX12_yesOf 35 = .ok (.iinc 4 1, 3) := by decide +kernel
theorem dX12_yesOf_38 : decode cX12_yesOf 38 = .ok (.iinc 5 1, 3) := by decide +kernel
theorem dX12_yesOf_41 : decode cX12_yesOf 41 = .ok (.goto (-35), 3) := by decide +kernel
theorem dX12_yesOf_44 : decode cX12_yesOf 44 = .ok (.iload 4, 2) := by decide +kernel
theorem dX12_yesOf_46 : decode cX12_yesOf 46 = .ok (.ireturn, 1) := by decide +kernel
set_option maxRecDepth 20000 in
theorem ggX12_pollsOne_X12_yesOf : GoodIn wsX12_pollsOne wsX12_yesOf := goodIn_r _ [11, 12, 13, 14, 10, 15, 16, 17, 18, 19, 2, 20, 21, 22, 23, 5, 4, 6, 59, 60, 61, 62, 63, 64, 65, 66, 67, 68, 69, 70, 71, 72, 73, 74, 75, 76, 77, 78, 79, 80, 81, 82, 83, 84, 85, 86, 87, 88, 89, 90, 91, 92, 93, 94, 95, 96] (by decide +kernel) (by decide +kernel)
set_option maxRecDepth 20000 in
theorem gX12_pollsOne_X12_yesOf : GoodIn wsX12_pollsOne (wsV RX12 325 RX12 yX12_yesOf wsX12_yesOf) := goodIn_app (goodIn_of _ (by decide +kernel)) ggX12_pollsOne_X12_yesOf
set_option maxRecDepth 20000 in
theorem ggX12_pollsOne_X12_has : GoodIn wsX12_pollsOne wsX12_has := goodIn_r _ [15] (by decide +kernel) (by decide +kernel)
set_option maxRecDepth 20000 in
theorem gX12_pollsOne_X12_has : GoodIn wsX12_pollsOne (va_wsS RX12 100 yX12_has wsX12_has) := goodIn_app (goodIn_of _ (by decide +kernel)) ggX12_pollsOne_X12_has
set_option maxRecDepth 20000 in
theorem ggX12_pollsOne_X12_acceptedOf : GoodIn wsX12_pollsOne wsX12_acceptedOf := goodIn_r _ [27, 5, 6, 2, 13, 14, 10, 15, 59, 60, 61, 62, 63, 64, 65, 66, 67, 68, 69, 70, 71, 72, 73, 74, 75, 76, 77, 78, 79, 80, 81, 82, 83, 84, 85, 86, 87, 88, 89, 90, 91, 92, 93, 94, 95, 96] (by decide +kernel) (by decide +kernel)
set_option maxRecDepth 20000 in
theorem gX12_pollsOne_X12_acceptedOf : GoodIn wsX12_pollsOne (wsV RX12 310 RX12 yX12_acceptedOf wsX12_acceptedOf) := goodIn_app (goodIn_of _ (by decide +kernel)) ggX12_pollsOne_X12_acceptedOf
set_option maxRecDepth 20000 in
theorem ggX12_pollsOne_X12_marks : GoodIn wsX12_pollsOne wsX12_marks := goodIn_r _ [31, 6, 2, 32, 33, 34, 10, 35, 36, 37, 38, 39, 5, 4, 13, 14, 15, 40, 41, 42, 59, 60, 61, 62, 63, 64, 65, 66, 67, 68, 69, 70, 71, 72, 73, 74, 75, 76, 77, 78, 79, 80, 81, 82, 83, 84, 85, 86, 87, 88, 89, 90, 91, 92, 93, 94, 95, 96] (by decide +kernel) (by decide +kernel)
set_option maxRecDepth 20000 in
theorem gX12_pollsOne_X12_marks : GoodIn wsX12_pollsOne (wsV RX12 329 RX12 yX12_marks wsX12_marks) := goodIn_app (goodIn_of _ (by decide +kernel)) ggX12_pollsOne_X12_marks
set_option maxRecDepth 20000 in
theorem ggX12_pollsOne_X12_accepts : GoodIn wsX12_pollsOne wsX12_accepts := goodIn_r _ [46, 6, 2, 47, 48, 5, 24, 25, 26, 10, 27, 13, 14, 15, 49, 50, 51, 52, 53, 54, 55, 56, 57, 58, 59, 60, 61, 62, 63, 64, 65, 66, 67, 68, 69, 70, 71, 72, 73, 74, 75, 76, 77, 78, 79, 80, 81, 82, 83, 84, 85, 86, 87, 88, 89, 90, 91, 92, 93, 94, 95, 96] (by decide +kernel) (by decide +kernel)
set_option maxRecDepth 20000 in
theorem gX12_pollsOne_X12_accepts : GoodIn wsX12_pollsOne (wsV RX12 333 RX12 yX12_accepts wsX12_accepts) := goodIn_app (goodIn_of _ (by decide +kernel)) ggX12_pollsOne_X12_accepts
theorem dX12_pollsOne_0 : decode cX12_pollsOne 0 = .ok (.aload_n 0, 1) := by decide +kernel
theorem dX12_pollsOne_1 : decode cX12_pollsOne 1 = .ok (.iload_n 1, 1) := by decide +kernel
theorem dX12_pollsOne_2 : decode cX12_pollsOne 2 = .ok (.iload_n 2, 1) := by decide +kernel
theorem dX12_pollsOne_3 : decode cX12_pollsOne 3 = .ok (.iload_n 3, 1) := by decide +kernel
theorem dX12_pollsOne_4 : decode cX12_pollsOne 4 = .ok (.invokevirtual 325, 3) := by decide +kernel
theorem dX12_pollsOne_7 : decode cX12_pollsOne 7 = .ok (.aload_n 0, 1) := by decide +kernel
theorem dX12_pollsOne_8 : decode cX12_pollsOne 8 = .ok (.getfield 26, 3) := by decide +kernel
theorem dX12_pollsOne_11 : decode cX12_pollsOne 11 = .ok (.if_icmp .lt 7, 3) := by decide +kernel
theorem dX12_pollsOne_14 : decode cX12_pollsOne 14 = .ok (.iconst 1, 1) := by decide +kernel
theorem dX12_pollsOne_15 : decode cX12_pollsOne 15 = .ok (.goto 4, 3) := by decide +kernel
theorem dX12_pollsOne_18 : decode cX12_pollsOne 18 = .ok (.iconst 0, 1) := by decide +kernel
theorem dX12_pollsOne_19 : decode cX12_pollsOne 19 = .ok (.istore 4, 2) := by decide +kernel
theorem dX12_pollsOne_21 : decode cX12_pollsOne 21 = .ok (.aload_n 0, 1) := by decide +kernel
theorem dX12_pollsOne_22 : decode cX12_pollsOne 22 = .ok (.getfield 7, 3) := by decide +kernel
theorem dX12_pollsOne_25 : decode cX12_pollsOne 25 = .ok (.bipush 72, 2) := by decide +kernel
theorem dX12_pollsOne_27 : decode cX12_pollsOne 27 = .ok (.iload_n 1, 1) := by decide +kernel
theorem dX12_pollsOne_28 : decode cX12_pollsOne 28 = .ok (.iadd, 1) := by decide +kernel
theorem dX12_pollsOne_29 : decode cX12_pollsOne 29 = .ok (.dup2, 1) := by decide +kernel
theorem dX12_pollsOne_30 : decode cX12_pollsOne 30 = .ok (.iaload, 1) := by decide +kernel
theorem dX12_pollsOne_31 : decode cX12_pollsOne 31 = .ok (.iconst 1, 1) := by decide +kernel
theorem dX12_pollsOne_32 : decode cX12_pollsOne 32 = .ok (.iload_n 2, 1) := by decide +kernel
theorem dX12_pollsOne_33 : decode cX12_pollsOne 33 = .ok (.ishl, 1) := by decide +kernel
theorem dX12_pollsOne_34 : decode cX12_pollsOne 34 = .ok (.ior, 1) := by decide +kernel
theorem dX12_pollsOne_35 : decode cX12_pollsOne 35 = .ok (.iastore, 1) := by decide +kernel
theorem dX12_pollsOne_36 : decode cX12_pollsOne 36 = .ok (.aload_n 0, 1) := by decide +kernel
theorem dX12_pollsOne_37 : decode cX12_pollsOne 37 = .ok (.dup, 1) := by decide +kernel
theorem dX12_pollsOne_38 : decode cX12_pollsOne 38 = .ok (.getfield 110, 3) := by decide +kernel
theorem dX12_pollsOne_41 : decode cX12_pollsOne 41 = .ok (.iconst 1, 1) := by decide +kernel
theorem dX12_pollsOne_42 : decode cX12_pollsOne 42 = .ok (.iadd, 1) := by decide +kernel
theorem dX12_pollsOne_43 : decode cX12_pollsOne 43 = .ok (.putfield 110, 3) := by decide +kernel
theorem dX12_pollsOne_46 : decode cX12_pollsOne 46 = .ok (.iload 4, 2) := by decide +kernel
theorem dX12_pollsOne_48 : decode cX12_pollsOne 48 = .ok (.ifCond .eq 18, 3) := by decide +kernel
theorem dX12_pollsOne_51 : decode cX12_pollsOne 51 = .ok (.aload_n 0, 1) := by decide +kernel
theorem dX12_pollsOne_52 : decode cX12_pollsOne 52 = .ok (.getfield 7, 3) := by decide +kernel
theorem dX12_pollsOne_55 : decode cX12_pollsOne 55 = .ok (.bipush 64, 2) := by decide +kernel
theorem dX12_pollsOne_57 : decode cX12_pollsOne 57 = .ok (.iload_n 1, 1) := by decide +kernel
theorem dX12_pollsOne_58 : decode cX12_pollsOne 58 = .ok (.iadd, 1) := by decide +kernel
theorem dX12_pollsOne_59 : decode cX12_pollsOne 59 = .ok (.dup2, 1) := by decide +kernel
theorem dX12_pollsOne_60 : decode cX12_pollsOne 60 = .ok (.iaload, 1) := by decide +kernel
theorem dX12_pollsOne_61 : decode cX12_pollsOne 61 = .ok (.iconst 1, 1) := by decide +kernel
theorem dX12_pollsOne_62 : decode cX12_pollsOne 62 = .ok (.iload_n 2, 1) := by decide +kernel
theorem dX12_pollsOne_63 : decode cX12_pollsOne 63 = .ok (.ishl, 1) := by decide +kernel
theorem dX12_pollsOne_64 : decode cX12_pollsOne 64 = .ok (.ior, 1) := by decide +kernel
theorem dX12_pollsOne_65 : decode cX12_pollsOne 65 = .ok (.iastore, 1) := by decide +kernel
theorem dX12_pollsOne_66 : decode cX12_pollsOne 66 = .ok (.aload_n 0, 1) := by decide +kernel
theorem dX12_pollsOne_67 : decode cX12_pollsOne 67 = .ok (.getfield 50, 3) := by decide +kernel
theorem dX12_pollsOne_70 : decode cX12_pollsOne 70 = .ok (.iload_n 2, 1) := by decide +kernel
theorem dX12_pollsOne_71 : decode cX12_pollsOne 71 = .ok (.iaload, 1) := by decide +kernel
theorem dX12_pollsOne_72 : decode cX12_pollsOne 72 = .ok (.iconst 1, 1) := by decide +kernel
theorem dX12_pollsOne_73 : decode cX12_pollsOne 73 = .ok (.iload_n 2, 1) := by decide +kernel
theorem dX12_pollsOne_74 : decode cX12_pollsOne 74 = .ok (.ishl, 1) := by decide +kernel
theorem dX12_pollsOne_75 : decode cX12_pollsOne 75 = .ok (.ior, 1) := by decide +kernel
theorem dX12_pollsOne_76 : decode cX12_pollsOne 76 = .ok (.istore 5, 2) := by decide +kernel
theorem dX12_pollsOne_78 : decode cX12_pollsOne 78 = .ok (.iconst 0, 1) := by decide +kernel
theorem dX12_pollsOne_79 : decode cX12_pollsOne 79 = .ok (.istore 6, 2) := by decide +kernel
theorem dX12_pollsOne_81 : decode cX12_pollsOne 81 = .ok (.iload 6, 2) := by decide +kernel
theorem dX12_pollsOne_83 : decode cX12_pollsOne 83 = .ok (.aload_n 0, 1) := by decide +kernel
theorem dX12_pollsOne_84 : decode cX12_pollsOne 84 = .ok (.getfield 113, 3) := by decide +kernel
theorem dX12_pollsOne_87 : decode cX12_pollsOne 87 = .ok (.if_icmp .ge 43, 3) := by decide +kernel
theorem dX12_pollsOne_90 : decode cX12_pollsOne 90 = .ok (.iload 5, 2) := by decide +kernel
theorem dX12_pollsOne_92 : decode cX12_pollsOne 92 = .ok (.iload 6, 2) := by decide +kernel
theorem dX12_pollsOne_94 : decode cX12_pollsOne 94 = .ok (.invokestatic 100, 3) := by decide +kernel
theorem dX12_pollsOne_97 : decode cX12_pollsOne 97 = .ok (.ifCond .eq 27, 3) := by decide +kernel
theorem dX12_pollsOne_100 : decode cX12_pollsOne 100 = .ok (.aload_n 0, 1) := by decide +kernel
theorem dX12_pollsOne_101 : decode cX12_pollsOne 101 = .ok (.iload_n 1, 1) := by decide +kernel
theorem dX12_pollsOne_102 : decode cX12_pollsOne 102 = .ok (.aload_n 0, 1) := by decide +kernel
theorem dX12_pollsOne_103 : decode cX12_pollsOne 103 = .ok (.getfield 41, 3) := by decide +kernel
theorem dX12_pollsOne_106 : decode cX12_pollsOne 106 = .ok (.iload 6, 2) := by decide +kernel
theorem dX12_pollsOne_108 : decode cX12_pollsOne 108 = .ok (.iaload, 1) := by decide +kernel
theorem dX12_pollsOne_109 : decode cX12_pollsOne 109 = .ok (.invokevirtual 310, 3) := by decide +kernel
theorem dX12_pollsOne_112 : decode cX12_pollsOne 112 = .ok (.ifCond .ge 12, 3) := by decide +kernel
theorem dX12_pollsOne_115 : decode cX12_pollsOne 115 = .ok (.aload_n 0, 1) := by decide +kernel
theorem dX12_pollsOne_116 : decode cX12_pollsOne 116 = .ok (.iload_n 1, 1) := by decide +kernel
theorem dX12_pollsOne_117 : decode cX12_pollsOne 117 = .ok (.iload 6, 2) := by decide +kernel
theorem dX12_pollsOne_119 : decode cX12_pollsOne 119 = .ok (.iload 4, 2) := by decide +kernel
theorem dX12_pollsOne_121 : decode cX12_pollsOne 121 = .ok (.invokevirtual 329, 3) := by decide +kernel
theorem dX12_pollsOne_124 : decode cX12_pollsOne 124 = .ok (.iinc 6 1, 3) := by decide +kernel
theorem dX12_pollsOne_127 : decode cX12_pollsOne 127 = .ok (.goto (-46), 3) := by decide +kernel
theorem dX12_pollsOne_130 : decode cX12_pollsOne 130 = .ok (.iconst 0, 1) := by decide +kernel
theorem dX12_pollsOne_131 : decode cX12_pollsOne 131 = .ok (.istore 6, 2) := by decide +kernel
theorem dX12_pollsOne_133 : decode cX12_pollsOne 133 = .ok (.iconst 0, 1) := by decide +kernel
theorem dX12_pollsOne_134 : decode cX12_pollsOne 134 = .ok (.istore 7, 2) := by decide +kernel
theorem dX12_pollsOne_136 : decode cX12_pollsOne 136 = .ok (.iload 7, 2) := by decide +kernel
theorem dX12_pollsOne_138 : decode cX12_pollsOne 138 = .ok (.aload_n 0, 1) := by decide +kernel
theorem dX12_pollsOne_139 : decode cX12_pollsOne 139 = .ok (.getfield 113, 3) := by decide +kernel
theorem dX12_pollsOne_142 : decode cX12_pollsOne 142 = .ok (.if_icmp .ge 32, 3) := by decide +kernel
theorem dX12_pollsOne_145 : decode cX12_pollsOne 145 = .ok (.iload 5, 2) := by decide +kernel
theorem dX12_pollsOne_147 : decode cX12_pollsOne 147 = .ok (.iload 7, 2) := by decide +kernel
theorem dX12_pollsOne_149 : decode cX12_pollsOne 149 = .ok (.invokestatic 100, 3) := by decide +kernel
theorem dX12_pollsOne_152 : decode cX12_pollsOne 152 = .ok (.ifCond .eq 16, 3) := by decide +kernel
theorem dX12_pollsOne_155 : decode cX12_pollsOne 155 = .ok (.aload_n 0, 1) := by decide +kernel
theorem dX12_pollsOne_156 : decode cX12_pollsOne 156 = .ok (.iload_n 1, 1) := by decide +kernel
theorem dX12_pollsOne_157 : decode cX12_pollsOne 157 = .ok (.iload 7, 2) := by decide +kernel
theorem dX12_pollsOne_159 : decode cX12_pollsOne 159 = .ok (.invokevirtual 333, 3) := by decide +kernel
theorem dX12_pollsOne_162 : decode cX12_pollsOne 162 = .ok (.ifCond .eq 6, 3) := by decide +kernel
theorem dX12_pollsOne_165 : decode cX12_pollsOne 165 = .ok (.iconst 1, 1) := by decide +kernel
theorem dX12_pollsOne_166 : decode cX12_pollsOne 166 = .ok (.istore 6, 2) := by decide +kernel
theorem dX12_pollsOne_168 : decode cX12_pollsOne 168 = .ok (.iinc 7 1, 3) := by decide +kernel
theorem dX12_pollsOne_171 : decode cX12_pollsOne 171 = .ok (.goto (-35), 3) := by decide +kernel
theorem dX12_pollsOne_174 : decode cX12_pollsOne 174 = .ok (.iload 6, 2) := by decide +kernel
theorem dX12_pollsOne_176 : decode cX12_pollsOne 176 = .ok (.ifCond .eq 7, 3) := by decide +kernel
theorem dX12_pollsOne_179 : decode cX12_pollsOne 179 = .ok (.iconst 2, 1) := by decide +kernel
theorem dX12_pollsOne_180 : decode cX12_pollsOne 180 = .ok (.goto 13, 3) := by decide +kernel
theorem dX12_pollsOne_183 : decode cX12_pollsOne 183 = .ok (.iload 4, 2) := by decide +kernel
theorem dX12_pollsOne_185 : decode cX12_pollsOne 185 = .ok (.ifCond .eq 7, 3) := by decide +kernel
theorem dX12_pollsOne_188 : decode cX12_pollsOne 188 = .ok (.iconst 1, 1) := by decide +kernel
theorem dX12_pollsOne_189 : decode cX12_pollsOne 189 = .ok (.goto 4, 3) := by decide +kernel
theorem dX12_pollsOne_192 : decode cX12_pollsOne 192 = .ok (.iconst 0, 1) := by decide +kernel
theorem dX12_pollsOne_193 : decode cX12_pollsOne 193 = .ok (.ireturn, 1) := by decide +kernel
set_option maxRecDepth 20000 in
theorem ggX12_marks_X12_confOf : GoodIn wsX12_marks wsX12_confOf := goodIn_r _ [7, 2, 8, 9, 10, 6, 11, 12, 13, 14, 15, 16, 17, 18, 19, 20, 21, 22, 23, 24, 25, 26, 27, 28, 29, 30, 31, 32, 33, 34, 35, 36, 37, 38, 39, 40, 41, 42, 43, 44, 45, 46, 47, 48, 49, 50, 51, 52, 53, 54, 55, 56, 57] (by decide +kernel) (by decide +kernel)
set_option maxRecDepth 20000 in
theorem gX12_marks_X12_confOf : GoodIn wsX12_marks (wsV RX12 336 RX12 yX12_confOf wsX12_confOf) := goodIn_app (goodIn_of _ (by decide +kernel)) ggX12_marks_X12_confOf
theorem dX12_marks_0 : decode cX12_marks 0 = .ok (.bipush 8, 2) := by decide +kernel
theorem dX12_marks_2 : decode cX12_marks 2 = .ok (.iload_n 1, 1) := by decide +kernel
theorem dX12_marks_3 : decode cX12_marks 3 = .ok (.imul, 1) := by decide +kernel
theorem dX12_marks_4 : decode cX12_marks 4 = .ok (.aload_n 0, 1) := by decide +kernel
theorem dX12_marks_5 : decode cX12_marks 5 = .ok (.getfield 41, 3) := by decide +kernel
theorem dX12_marks_8 : decode cX12_marks 8 = .ok (.iload_n 2, 1) := by decide +kernel
theorem dX12_marks_9 : decode cX12_marks 9 = .ok (.iaload, 1) := by decide +kernel
theorem dX12_marks_10 : decode cX12_marks 10 = .ok (.iadd, 1) := by decide +kernel
theorem dX12_marks_11 : decode cX12_marks 11 = .ok (.istore 4, 2) := by decide +kernel
theorem dX12_marks_13 : decode cX12_marks 13 = .ok (.iload_n 3, 1) := by decide +kernel
theorem dX12_marks_14 : decode cX12_marks 14 = .ok (.ifCond .ne 16, 3) := by decide +kernel
theorem dX12_marks_17 : decode cX12_marks 17 = .ok (.aload_n 0, 1) := by decide +kernel
theorem dX12_marks_18 : decode cX12_marks 18 = .ok (.getfield 7, 3) := by decide +kernel
theorem dX12_marks_21 : decode cX12_marks 21 = .ok (.sipush 224, 3) := by decide +kernel
theorem dX12_marks_24 : decode cX12_marks 24 = .ok (.iload 4, 2) := by decide +kernel
theorem dX12_marks_26 : decode cX12_marks 26 = .ok (.iadd, 1) := by decide +kernel
theorem dX12_marks_27 : decode cX12_marks 27 = .ok (.iconst 0, 1) := by decide +kernel
theorem dX12_marks_28 : decode cX12_marks 28 = .ok (.iastore, 1) := by decide +kernel
theorem dX12_marks_29 : decode cX12_marks 29 = .ok (.return_, 1) := by decide +kernel
theorem dX12_marks_30 : decode cX12_marks 30 = .ok (.aload_n 0, 1) := by decide +kernel
theorem dX12_marks_31 : decode cX12_marks 31 = .ok (.iload_n 1, 1) := by decide +kernel
theorem dX12_marks_32 : decode cX12_marks 32 = .ok (.iload_n 2, 1) := by decide +kernel
theorem dX12_marks_33 : decode cX12_marks 33 = .ok (.invokevirtual 336, 3) := by decide +kernel
theorem dX12_marks_36 : decode cX12_marks 36 = .ok (.aload_n 0, 1) := by decide +kernel
theorem dX12_marks_37 : decode cX12_marks 37 = .ok (.iload_n 1, 1) := by decide +kernel
theorem dX12_marks_38 : decode cX12_marks 38 = .ok (.aload_n 0, 1) := by decide +kernel
theorem dX12_marks_39 : decode cX12_marks 39 = .ok (.getfield 7, 3) := by decide +kernel
theorem dX12_marks_42 : decode cX12_marks 42 = .ok (.bipush 96, 2) := by decide +kernel
theorem dX12_marks_44 : decode cX12_marks 44 = .ok (.iload 4, 2) := by decide +kernel
theorem dX12_marks_46 : decode cX12_marks 46 = .ok (.iadd, 1) := by decide +kernel
theorem dX12_marks_47 : decode cX12_marks 47 = .ok (.iaload, 1) := by decide +kernel
theorem dX12_marks_48 : decode cX12_marks 48 = .ok (.invokevirtual 336, 3) := by decide +kernel
theorem dX12_marks_51 : decode cX12_marks 51 = .ok (.if_icmp .le 14, 3) := by decide +kernel
theorem dX12_marks_54 : decode cX12_marks 54 = .ok (.aload_n 0, 1) := by decide +kernel
theorem dX12_marks_55 : decode cX12_marks 55 = .ok (.getfield 7, 3) := by decide +kernel
theorem dX12_marks_58 : decode cX12_marks 58 = .ok (.bipush 96, 2) := by decide +kernel
theorem dX12_marks_60 : decode cX12_marks 60 = .ok (.iload 4, 2) := by decide +kernel
theorem dX12_marks_62 : decode cX12_marks 62 = .ok (.iadd, 1) := by decide +kernel
theorem dX12_marks_63 : decode cX12_marks 63 = .ok (.iload_n 2, 1) := by decide +kernel
theorem dX12_marks_64 : decode cX12_marks 64 = .ok (.iastore, 1) := by decide +kernel
theorem dX12_marks_65 : decode cX12_marks 65 = .ok (.aload_n 0, 1) := by decide +kernel
theorem dX12_marks_66 : decode cX12_marks 66 = .ok (.getfield 7, 3) := by decide +kernel
theorem dX12_marks_69 : decode cX12_marks 69 = .ok (.sipush 160, 3) := by decide +kernel
theorem dX12_marks_72 : decode cX12_marks 72 = .ok (.iload 4, 2) := by decide +kernel
theorem dX12_marks_74 : decode cX12_marks 74 = .ok (.iadd, 1) := by decide +kernel
theorem dX12_marks_75 : decode cX12_marks 75 = .ok (.iaload, 1) := by decide +kernel
theorem dX12_marks_76 : decode cX12_marks 76 = .ok (.iload_n 2, 1) := by decide +kernel
theorem dX12_marks_77 : decode cX12_marks 77 = .ok (.if_icmp .ne 21, 3) := by decide +kernel
theorem dX12_marks_80 : decode cX12_marks 80 = .ok (.aload_n 0, 1) := by decide +kernel
theorem dX12_marks_81 : decode cX12_marks 81 = .ok (.getfield 7, 3) := by decide +kernel
theorem dX12_marks_84 : decode cX12_marks 84 = .ok (.sipush 224, 3) := by decide +kernel
theorem dX12_marks_87 : decode cX12_marks 87 = .ok (.iload 4, 2) := by decide +kernel
theorem dX12_marks_89 : decode cX12_marks 89 = .ok (.iadd, 1) := by decide +kernel
theorem dX12_marks_90 : decode cX12_marks 90 = .ok (.dup2, 1) := by decide +kernel
theorem dX12_marks_91 : decode cX12_marks 91 = .ok (.iaload, 1) := by decide +kernel
theorem dX12_marks_92 : decode cX12_marks 92 = .ok (.iconst 1, 1) := by decide +kernel
theorem dX12_marks_93 : decode cX12_marks 93 = .ok (.iadd, 1) := by decide +kernel
theorem dX12_marks_94 : decode cX12_marks 94 = .ok (.iastore, 1) := by decide +kernel
theorem dX12_marks_95 : decode cX12_marks 95 = .ok (.goto 27, 3) := by decide +kernel
theorem dX12_marks_98 : decode cX12_marks 98 = .ok (.aload_n 0, 1) := by decide +kernel
theorem dX12_marks_99 : decode cX12_marks 99 = .ok (.getfield 7, 3) := by decide +kernel
theorem dX12_marks_102 : decode cX12_marks 102 = .ok (.sipush 160, 3) := by decide +kernel
theorem dX12_marks_105 : decode cX12_marks 105 = .ok (.iload 4, 2) := by decide +kernel
theorem dX12_marks_107 : decode cX12_marks 107 = .ok (.iadd, 1) := by decide +kernel
theorem dX12_marks_108 : decode cX12_marks 108 = .ok (.iload_n 2, 1) := by decide +kernel
theorem dX12_marks_109 : decode cX12_marks 109 = .ok (.iastore, 1) := by decide +kernel
theorem dX12_marks_110 : decode cX12_marks 110 = .ok (.aload_n 0, 1) := by decide +kernel
theorem dX12_marks_111 : decode cX12_marks 111 = .ok (.getfield 7, 3) := by decide +kernel
theorem dX12_marks_114 : decode cX12_marks 114 = .ok (.sipush 224, 3) := by decide +kernel
theorem dX12_marks_117 : decode cX12_marks 117 = .ok (.iload 4, 2) := by decide +kernel
theorem dX12_marks_119 : decode cX12_marks 119 = .ok (.iadd, 1) := by decide +kernel
theorem dX12_marks_120 : decode cX12_marks 120 = .ok (.iconst 1, 1) := by decide +kernel
theorem dX12_marks_121 : decode cX12_marks 121 = .ok (.iastore, 1) := by decide +kernel
theorem dX12_marks_122 : decode cX12_marks 122 = .ok (.return_, 1) := by decide +kernel
set_option maxRecDepth 20000 in
theorem ggX12_accepts_X12_acceptedOf : GoodIn wsX12_accepts wsX12_acceptedOf := goodIn_r _ [10, 5, 1, 2, 11, 12, 9, 13, 24, 25, 26, 27, 28, 29, 30, 31, 32, 33, 34, 35, 36, 37, 38, 39, 40, 41, 42, 43, 44, 45, 46, 47, 48, 49, 50, 51, 52, 53, 54, 55, 56, 57, 58, 59, 60, 61] (by decide +kernel) (by decide +kernel)
set_option maxRecDepth 20000 in
theorem gX12_accepts_X12_acceptedOf : GoodIn wsX12_accepts (wsV RX12 310 RX12 yX12_acceptedOf wsX12_acceptedOf) := goodIn_app (goodIn_of _ (by decide +kernel)) ggX12_accepts_X12_acceptedOf
set_option maxRecDepth 20000 in
theorem ggX12_accepts_X12_isAlone : GoodIn wsX12_accepts wsX12_isAlone := goodIn_r _ [17, 5, 1, 24, 25, 26, 27, 28, 29, 30, 31, 32, 33, 34, 35, 36, 37, 38, 39, 40, 41, 42, 43, 44, 45, 46, 47, 48, 49, 50, 51, 52, 53, 54, 55, 56, 57, 58, 59, 60, 61] (by decide +kernel) (by decide +kernel)
set_option maxRecDepth 20000 in
theorem gX12_accepts_X12_isAlone : GoodIn wsX12_accepts (wsV RX12 339 RX12 yX12_isAlone wsX12_isAlone) := goodIn_app (goodIn_of _ (by decide +kernel)) ggX12_accepts_X12_isAlone
set_option maxRecDepth 20000 in
theorem ggX12_accepts_X12_areParentsAccepted : GoodIn wsX12_accepts wsX12_areParentsAccepted := goodIn_r _ [21, 22, 2, 23, 11, 12, 9, 13, 24, 25, 26, 27, 28, 29, 30, 31, 32, 33, 34, 35, 36, 37, 38, 39, 40, 41, 42, 43, 44, 45, 46, 47, 48, 49, 50, 51, 52, 53, 54, 55, 56, 57, 58, 59, 60, 61] (by decide +kernel) (by decide +kernel)
set_option maxRecDepth 20000 in
theorem gX12_accepts_X12_areParentsAccepted : GoodIn wsX12_accepts (wsV RX12 342 RX12 yX12_areParentsAccepted wsX12_areParentsAccepted) := goodIn_app (goodIn_of _ (by decide +kernel)) ggX12_accepts_X12_areParentsAccepted
theorem dX12_accepts_0 : decode cX12_accepts 0 = .ok (.bipush 8, 2) := by decide +kernel
theorem dX12_accepts_2 : decode cX12_accepts 2 = .ok (.iload_n 1, 1) := by decide +kernel
theorem dX12_accepts_3 : decode cX12_accepts 3 = .ok (.imul, 1) := by decide +kernel
theorem dX12_accepts_4 : decode cX12_accepts 4 = .ok (.aload_n 0, 1) := by decide +kernel
theorem dX12_accepts_5 : decode cX12_accepts 5 = .ok (.getfield 41, 3) := by decide +kernel
theorem dX12_accepts_8 : decode cX12_accepts 8 = .ok (.iload_n 2, 1) := by decide +kernel
theorem dX12_accepts_9 : decode cX12_accepts 9 = .ok (.iaload, 1) := by decide +kernel
theorem dX12_accepts_10 : decode cX12_accepts 10 = .ok (.iadd, 1) := by decide +kernel
theorem dX12_accepts_11 : decode cX12_accepts 11 = .ok (.istore_n 3, 1) := by decide +kernel
theorem dX12_accepts_12 : decode cX12_accepts 12 = .ok (.aload_n 0, 1) := by decide +kernel
theorem dX12_accepts_13 : decode cX12_accepts 13 = .ok (.iload_n 1, 1) := by decide +kernel
theorem dX12_accepts_14 : decode cX12_accepts 14 = .ok (.aload_n 0, 1) := by decide +kernel
theorem dX12_accepts_15 : decode cX12_accepts 15 = .ok (.getfield 41, 3) := by decide +kernel
theorem dX12_accepts_18 : decode cX12_accepts 18 = .ok (.iload_n 2, 1) := by decide +kernel
theorem dX12_accepts_19 : decode cX12_accepts 19 = .ok (.iaload, 1) := by decide +kernel
theorem dX12_accepts_20 : decode cX12_accepts 20 = .ok (.invokevirtual 310, 3) := by decide +kernel
theorem dX12_accepts_23 : decode cX12_accepts 23 = .ok (.ifCond .ge 30, 3) := by decide +kernel
theorem dX12_accepts_26 : decode cX12_accepts 26 = .ok (.aload_n 0, 1) := by decide +kernel
theorem dX12_accepts_27 : decode cX12_accepts 27 = .ok (.getfield 7, 3) := by decide +kernel
theorem dX12_accepts_30 : decode cX12_accepts 30 = .ok (.sipush 160, 3) := by decide +kernel
theorem dX12_accepts_33 : decode cX12_accepts 33 = .ok (.iload_n 3, 1) := by decide +kernel
theorem dX12_accepts_34 : decode cX12_accepts 34 = .ok (.iadd, 1) := by decide +kernel
theorem dX12_accepts_35 : decode cX12_accepts 35 = .ok (.iaload, 1) := by decide +kernel
theorem dX12_accepts_36 : decode cX12_accepts 36 = .ok (.iload_n 2, 1) := by decide +kernel
theorem dX12_accepts_37 : decode cX12_accepts 37 = .ok (.if_icmp .ne 16, 3) := by decide +kernel
theorem dX12_accepts_40 : decode cX12_accepts 40 = .ok (.aload_n 0, 1) := by decide +kernel
theorem dX12_accepts_41 : decode cX12_accepts 41 = .ok (.getfield 7, 3) := by decide +kernel
theorem dX12_accepts_44 : decode cX12_accepts 44 = .ok (.bipush 96, 2) := by decide +kernel
theorem dX12_accepts_46 : decode cX12_accepts 46 = .ok (.iload_n 3, 1) := by decide +kernel
theorem dX12_accepts_47 : decode cX12_accepts 47 = .ok (.iadd, 1) := by decide +kernel
theorem dX12_accepts_48 : decode cX12_accepts 48 = .ok (.iaload, 1) := by decide +kernel
theorem dX12_accepts_49 : decode cX12_accepts 49 = .ok (.iload_n 2, 1) := by decide +kernel
theorem dX12_accepts_50 : decode cX12_accepts 50 = .ok (.if_icmp .eq 5, 3) := by decide +kernel
theorem dX12_accepts_53 : decode cX12_accepts 53 = .ok (.iconst 0, 1) := by decide +kernel
theorem dX12_accepts_54 : decode cX12_accepts 54 = .ok (.ireturn, 1) := by decide +kernel
theorem dX12_accepts_55 : decode cX12_accepts 55 = .ok (.aload_n 0, 1) := by decide +kernel
theorem dX12_accepts_56 : decode cX12_accepts 56 = .ok (.iload_n 2, 1) := by decide +kernel
theorem dX12_accepts_57 : decode cX12_accepts 57 = .ok (.invokevirtual 339, 3) := by decide +kernel
theorem dX12_accepts_60 : decode cX12_accepts 60 = .ok (.ifCond .eq 33, 3) := by decide +kernel
theorem dX12_accepts_63 : decode cX12_accepts 63 = .ok (.aload_n 0, 1) := by decide +kernel
theorem dX12_accepts_64 : decode cX12_accepts 64 = .ok (.iload_n 1, 1) := by decide +kernel
theorem dX12_accepts_65 : decode cX12_accepts 65 = .ok (.iload_n 2, 1) := by decide +kernel
theorem dX12_accepts_66 : decode cX12_accepts 66 = .ok (.invokevirtual 342, 3) := by decide +kernel
theorem dX12_accepts_69 : decode cX12_accepts 69 = .ok (.ifCond .eq 24, 3) := by decide +kernel
theorem dX12_accepts_72 : decode cX12_accepts 72 = .ok (.aload_n 0, 1) := by decide +kernel
theorem dX12_accepts_73 : decode cX12_accepts 73 = .ok (.getfield 7, 3) := by decide +kernel
theorem dX12_accepts_76 : decode cX12_accepts 76 = .ok (.sipush 224, 3) := by decide +kernel
theorem dX12_accepts_79 : decode cX12_accepts 79 = .ok (.iload_n 3, 1) := by decide +kernel
theorem dX12_accepts_80 : decode cX12_accepts 80 = .ok (.iadd, 1) := by decide +kernel
theorem dX12_accepts_81 : decode cX12_accepts 81 = .ok (.iaload, 1) := by decide +kernel
theorem dX12_accepts_82 : decode cX12_accepts 82 = .ok (.aload_n 0, 1) := by decide +kernel
theorem dX12_accepts_83 : decode cX12_accepts 83 = .ok (.getfield 32, 3) := by decide +kernel
theorem dX12_accepts_86 : decode cX12_accepts 86 = .ok (.if_icmp .lt 7, 3) := by decide +kernel
theorem dX12_accepts_89 : decode cX12_accepts 89 = .ok (.iconst 1, 1) := by decide +kernel
theorem dX12_accepts_90 : decode cX12_accepts 90 = .ok (.goto 4, 3) := by decide +kernel
theorem dX12_accepts_93 : decode cX12_accepts 93 = .ok (.iconst 0, 1) := by decide +kernel
theorem dX12_accepts_94 : decode cX12_accepts 94 = .ok (.istore 4, 2) := by decide +kernel
theorem dX12_accepts_96 : decode cX12_accepts 96 = .ok (.aload_n 0, 1) := by decide +kernel
theorem dX12_accepts_97 : decode cX12_accepts 97 = .ok (.getfield 7, 3) := by decide +kernel
theorem dX12_accepts_100 : decode cX12_accepts 100 = .ok (.sipush 224, 3) := by decide +kernel
theorem dX12_accepts_103 : decode cX12_accepts 103 = .ok (.iload_n 3, 1) := by decide +kernel
theorem dX12_accepts_104 : decode cX12_accepts 104 = .ok (.iadd, 1) := by decide +kernel
theorem dX12_accepts_105 : decode cX12_accepts 105 = .ok (.iaload, 1) := by decide +kernel
theorem dX12_accepts_106 : decode cX12_accepts 106 = .ok (.aload_n 0, 1) := by decide +kernel
theorem dX12_accepts_107 : decode cX12_accepts 107 = .ok (.getfield 29, 3) := by decide +kernel
theorem dX12_accepts_110 : decode cX12_accepts 110 = .ok (.if_icmp .ge 10, 3) := by decide +kernel
theorem dX12_accepts_113 : decode cX12_accepts 113 = .ok (.iload 4, 2) := by decide +kernel
theorem dX12_accepts_115 : decode cX12_accepts 115 = .ok (.ifCond .ne 5, 3) := by decide +kernel
theorem dX12_accepts_118 : decode cX12_accepts 118 = .ok (.iconst 0, 1) := by decide +kernel
theorem dX12_accepts_119 : decode cX12_accepts 119 = .ok (.ireturn, 1) := by decide +kernel
theorem dX12_accepts_120 : decode cX12_accepts 120 = .ok (.aload_n 0, 1) := by decide +kernel
theorem dX12_accepts_121 : decode cX12_accepts 121 = .ok (.getfield 7, 3) := by decide +kernel
theorem dX12_accepts_124 : decode cX12_accepts 124 = .ok (.bipush 80, 2) := by decide +kernel
theorem dX12_accepts_126 : decode cX12_accepts 126 = .ok (.iload_n 1, 1) := by decide +kernel
theorem dX12_accepts_127 : decode cX12_accepts 127 = .ok (.iadd, 1) := by decide +kernel
theorem dX12_accepts_128 : decode cX12_accepts 128 = .ok (.dup2, 1) := by decide +kernel
theorem dX12_accepts_129 : decode cX12_accepts 129 = .ok (.iaload, 1) := by decide +kernel
theorem dX12_accepts_130 : decode cX12_accepts 130 = .ok (.iconst 1, 1) := by decide +kernel
theorem dX12_accepts_131 : decode cX12_accepts 131 = .ok (.iload_n 2, 1) := by decide +kernel
theorem dX12_accepts_132 : decode cX12_accepts 132 = .ok (.ishl, 1) := by decide +kernel
theorem dX12_accepts_133 : decode cX12_accepts 133 = .ok (.ior, 1) := by decide +kernel
theorem dX12_accepts_134 : decode cX12_accepts 134 = .ok (.iastore, 1) := by decide +kernel
theorem dX12_accepts_135 : decode cX12_accepts 135 = .ok (.iconst 0, 1) := by decide +kernel
theorem dX12_accepts_136 : decode cX12_accepts 136 = .ok (.istore 5, 2) := by decide +kernel
theorem dX12_accepts_138 : decode cX12_accepts 138 = .ok (.iload 5, 2) := by decide +kernel
theorem dX12_accepts_140 : decode cX12_accepts 140 = .ok (.aload_n 0, 1) := by decide +kernel
theorem dX12_accepts_141 : decode cX12_accepts 141 = .ok (.getfield 113, 3) := by decide +kernel
theorem dX12_accepts_144 : decode cX12_accepts 144 = .ok (.if_icmp .ge 47, 3) := by decide +kernel
theorem dX12_accepts_147 : decode cX12_accepts 147 = .ok (.iload 5, 2) := by decide +kernel
theorem dX12_accepts_149 : decode cX12_accepts 149 = .ok (.iload_n 2, 1) := by decide +kernel
theorem dX12_accepts_150 : decode cX12_accepts 150 = .ok (.if_icmp .eq 35, 3) := by decide +kernel
theorem dX12_accepts_153 : decode cX12_accepts 153 = .ok (.aload_n 0, 1) := by decide +kernel
theorem dX12_accepts_154 : decode cX12_accepts 154 = .ok (.getfield 41, 3) := by decide +kernel
theorem dX12_accepts_157 : decode cX12_accepts 157 = .ok (.iload 5, 2) := by decide +kernel
theorem dX12_accepts_159 : decode cX12_accepts 159 = .ok (.iaload, 1) := by decide +kernel
theorem dX12_accepts_160 : decode cX12_accepts 160 = .ok (.aload_n 0, 1) := by decide +kernel
theorem dX12_accepts_161 : decode cX12_accepts 161 = .ok (.getfield 41, 3) := by decide +kernel
theorem dX12_accepts_164 : decode cX12_accepts 164 = .ok (.iload_n 2, 1) := by decide +kernel
theorem dX12_accepts_165 : decode cX12_accepts 165 = .ok (.iaload, 1) := by decide +kernel
theorem dX12_accepts_166 : decode cX12_accepts 166 = .ok (.if_icmp .ne 19, 3) := by decide +kernel
theorem dX12_accepts_169 : decode cX12_accepts 169 = .ok (.aload_n 0, 1) := by decide +kernel
theorem dX12_accepts_170 : decode cX12_accepts 170 = .ok (.getfield 7, 3) := by decide +kernel
theorem dX12_accepts_173 : decode cX12_accepts 173 = .ok (.bipush 88, 2) := by decide +kernel
theorem dX12_accepts_175 : decode cX12_accepts 175 = .ok (.iload_n 1, 1) := by decide +kernel
theorem dX12_accepts_176 : decode cX12_accepts 176 = .ok (.iadd, 1) := by decide +kernel
theorem dX12_accepts_177 : decode cX12_accepts 177 = .ok (.dup2, 1) := by decide +kernel
theorem dX12_accepts_178 : decode cX12_accepts 178 = .ok (.iaload, 1) := by decide +kernel
theorem dX12_accepts_179 : decode cX12_accepts 179 = .ok (.iconst 1, 1) := by decide +kernel
theorem dX12_accepts_180 : decode cX12_accepts 180 = .ok (.iload 5, 2) := by decide +kernel
theorem dX12_accepts_182 : decode cX12_accepts 182 = .ok (.ishl, 1) := by decide +kernel
theorem dX12_accepts_183 : decode cX12_accepts 183 = .ok (.ior, 1) := by decide +kernel
theorem dX12_accepts_184 : decode cX12_accepts 184 = .ok (.iastore, 1) := by decide +kernel
theorem dX12_accepts_185 : decode cX12_accepts 185 = .ok (.iinc 5 1, 3) := by decide +kernel
theorem dX12_accepts_188 : decode cX12_accepts 188 = .ok (.goto (-50), 3) := by decide +kernel
theorem dX12_accepts_191 : decode cX12_accepts 191 = .ok (.iconst 1, 1) := by decide +kernel
theorem dX12_accepts_192 : decode cX12_accepts 192 = .ok (.ireturn, 1) := by decide +kernel
theorem dX12_isAlone_0 : decode cX12_isAlone 0 = .ok (.iconst 0, 1) := by decide +kernel
theorem dX12_isAlone_1 : decode cX12_isAlone 1 = .ok (.istore_n 2, 1) := by decide +kernel
theorem dX12_isAlone_2 : decode cX12_isAlone 2 = .ok (.iload_n 2, 1) := by decide +kernel
theorem dX12_isAlone_3 : decode cX12_isAlone 3 = .ok (.aload_n 0, 1) := by decide +kernel
theorem dX12_isAlone_4 : decode cX12_isAlone 4 = .ok (.getfield 113, 3) := by decide +kernel
theorem dX12_isAlone_7 : decode cX12_isAlone 7 = .ok (.if_icmp .ge 31, 3) := by decide +kernel
theorem dX12_isAlone_10 : decode cX12_isAlone 10 = .ok (.iload_n 2, 1) := by decide +kernel
theorem dX12_isAlone_11 : decode cX12_isAlone 11 = .ok (.iload_n 1, 1) := by decide +kernel
theorem dX12_isAlone_12 : decode cX12_isAlone 12 = .ok (.if_icmp .eq 20, 3) := by decide +kernel
theorem dX12_isAlone_15 : decode cX12_isAlone 15 = .ok (.aload_n 0, 1) := by decide +kernel
theorem dX12_isAlone_16 : decode cX12_isAlone 16 = .ok (.getfield 41, 3) := by decide +kernel
theorem dX12_isAlone_19 : decode cX12_isAlone 19 = .ok (.iload_n 2, 1) := by decide +kernel
theorem dX12_isAlone_20 : decode cX12_isAlone 20 = .ok (.iaload, 1) := by decide +kernel
theorem dX12_isAlone_21 : decode cX12_isAlone 21 = .ok (.aload_n 0, 1) := by decide +kernel
theorem dX12_isAlone_22 : decode cX12_isAlone 22 = .ok (.getfield 41, 3) := by decide +kernel
theorem dX12_isAlone_25 : decode cX12_isAlone 25 = .ok (.iload_n 1, 1) := by decide +kernel
theorem dX12_isAlone_26 : decode cX12_isAlone 26 = .ok (.iaload, 1) := by decide +kernel
theorem dX12_isAlone_27 : decode cX12_isAlone 27 = .ok (.if_icmp .ne 5, 3) := by decide +kernel
theorem dX12_isAlone_30 : decode cX12_isAlone 30 = .ok (.iconst 0, 1) := by decide +kernel
theorem dX12_isAlone_31 : decode cX12_isAlone 31 = .ok (.ireturn, 1) := by decide +kernel
theorem dX12_isAlone_32 : decode cX12_isAlone 32 = .ok (.iinc 2 1, 3) := by decide +kernel
theorem dX12_isAlone_35 : decode cX12_isAlone 35 = .ok (.goto (-33), 3) := by decide +kernel
theorem dX12_isAlone_38 : decode cX12_isAlone 38 = .ok (.iconst 1, 1) := by decide +kernel
theorem dX12_isAlone_39 : decode cX12_isAlone 39 = .ok (.ireturn, 1) := by decide +kernel
set_option maxRecDepth 20000 in
theorem ggX12_areParentsAccepted_X12_has : GoodIn wsX12_areParentsAccepted wsX12_has := goodIn_r _ [7] (by decide +kernel) (by decide +kernel)
set_option maxRecDepth 20000 in
theorem gX12_areParentsAccepted_X12_has : GoodIn wsX12_areParentsAccepted (va_wsS RX12 100 yX12_has wsX12_has) := goodIn_app (goodIn_of _ (by decide +kernel)) ggX12_areParentsAccepted_X12_has
theorem dX12_areParentsAccepted_0 : decode cX12_areParentsAccepted 0 = .ok (.aload_n 0, 1) := by decide +kernel
theorem dX12_areParentsAccepted_1 : decode cX12_areParentsAccepted 1 = .ok (.getfield 44, 3) := by decide +kernel
theorem dX12_areParentsAccepted_4 : decode cX12_areParentsAccepted 4 = .ok (.iload_n 2, 1) := by decide +kernel
theorem dX12_areParentsAccepted_5 : decode cX12_areParentsAccepted 5 = .ok (.iaload, 1) := by decide +kernel
theorem dX12_areParentsAccepted_6 : decode cX12_areParentsAccepted 6 = .ok (.ifCond .lt 26, 3) := by decide +kernel
theorem dX12_areParentsAccepted_9 : decode cX12_areParentsAccepted 9 = .ok (.aload_n 0, 1) := by decide +kernel
theorem dX12_areParentsAccepted_10 : decode cX12_areParentsAccepted 10 = .ok (.getfield 7, 3) := by decide +kernel
theorem dX12_areParentsAccepted_13 : decode cX12_areParentsAccepted 13 = .ok (.bipush 80, 2) := by decide +kernel
theorem dX12_areParentsAccepted_15 : decode cX12_areParentsAccepted 15 = .ok (.iload_n 1, 1) := by decide +kernel
theorem dX12_areParentsAccepted_16 : decode cX12_areParentsAccepted 16 = .ok (.iadd, 1) := by decide +kernel
theorem dX12_areParentsAccepted_17 : decode cX12_areParentsAccepted 17 = .ok (.iaload, 1) := by decide +kernel
theorem dX12_areParentsAccepted_18 : decode cX12_areParentsAccepted 18 = .ok (.aload_n 0, 1) := by decide +kernel
theorem dX12_areParentsAccepted_19 : decode cX12_areParentsAccepted 19 = .ok (.getfield 44, 3) := by decide +kernel
theorem dX12_areParentsAccepted_22 : decode cX12_areParentsAccepted 22 = .ok (.iload_n 2, 1) := by decide +kernel
theorem dX12_areParentsAccepted_23 : decode cX12_areParentsAccepted 23 = .ok (.iaload, 1) := by decide +kernel
theorem dX12_areParentsAccepted_24 : decode cX12_areParentsAccepted 24 = .ok (.invokestatic 100, 3) := by decide +kernel
theorem dX12_areParentsAccepted_27 : decode cX12_areParentsAccepted 27 = .ok (.ifCond .ne 5, 3) := by decide +kernel
theorem dX12_areParentsAccepted_30 : decode cX12_areParentsAccepted 30 = .ok (.iconst 0, 1) := by decide +kernel
theorem dX12_areParentsAccepted_31 : decode cX12_areParentsAccepted 31 = .ok (.ireturn, 1) := by decide +kernel
theorem dX12_areParentsAccepted_32 : decode cX12_areParentsAccepted 32 = .ok (.aload_n 0, 1) := by decide +kernel
theorem dX12_areParentsAccepted_33 : decode cX12_areParentsAccepted 33 = .ok (.getfield 47, 3) := by decide +kernel
theorem dX12_areParentsAccepted_36 : decode cX12_areParentsAccepted 36 = .ok (.iload_n 2, 1) := by decide +kernel
theorem dX12_areParentsAccepted_37 : decode cX12_areParentsAccepted 37 = .ok (.iaload, 1) := by decide +kernel
theorem dX12_areParentsAccepted_38 : decode cX12_areParentsAccepted 38 = .ok (.ifCond .lt 24, 3) := by decide +kernel
theorem dX12_areParentsAccepted_41 : decode cX12_areParentsAccepted 41 = .ok (.aload_n 0, 1) := by decide +kernel
theorem dX12_areParentsAccepted_42 : decode cX12_areParentsAccepted 42 = .ok (.getfield 7, 3) := by decide +kernel
theorem dX12_areParentsAccepted_45 : decode cX12_areParentsAccepted 45 = .ok (.bipush 80, 2) := by decide +kernel
theorem dX12_areParentsAccepted_47 : decode cX12_areParentsAccepted 47 = .ok (.iload_n 1, 1) := by decide +kernel
theorem dX12_areParentsAccepted_48 : decode cX12_areParentsAccepted 48 = .ok (.iadd, 1) := by decide +kernel
theorem dX12_areParentsAccepted_49 : decode cX12_areParentsAccepted 49 = .ok (.iaload, 1) := by decide +kernel
theorem dX12_areParentsAccepted_50 : decode cX12_areParentsAccepted 50 = .ok (.aload_n 0, 1) := by decide +kernel
theorem dX12_areParentsAccepted_51 : decode cX12_areParentsAccepted 51 = .ok (.getfield 47, 3) := by decide +kernel
theorem dX12_areParentsAccepted_54 : decode cX12_areParentsAccepted 54 = .ok (.iload_n 2, 1) := by decide +kernel
theorem dX12_areParentsAccepted_55 : decode cX12_areParentsAccepted 55 = .ok (.iaload, 1) := by decide +kernel
theorem dX12_areParentsAccepted_56 : decode cX12_areParentsAccepted 56 = .ok (.invokestatic 100, 3) := by decide +kernel
theorem dX12_areParentsAccepted_59 : decode cX12_areParentsAccepted 59 = .ok (.ifCond .eq 7, 3) := by decide +kernel
theorem dX12_areParentsAccepted_62 : decode cX12_areParentsAccepted 62 = .ok (.iconst 1, 1) := by decide +kernel
theorem dX12_areParentsAccepted_63 : decode cX12_areParentsAccepted 63 = .ok (.goto 4, 3) := by decide +kernel
theorem dX12_areParentsAccepted_66 : decode cX12_areParentsAccepted 66 = .ok (.iconst 0, 1) := by decide +kernel
theorem dX12_areParentsAccepted_67 : decode cX12_areParentsAccepted 67 = .ok (.ireturn, 1) := by decide +kernel
set_option maxRecDepth 20000 in
theorem ggX12_poll_X12_canPoll : GoodIn wsX12_poll wsX12_canPoll := goodIn_r _ [6, 7, 8, 9, 10, 5, 11, 12, 13, 14, 15, 16, 17, 18, 19, 20, 21, 22, 23, 24, 25, 26, 27, 28, 29, 30, 31, 90, 91, 92, 93, 94, 95, 96, 97, 98, 99, 100, 101, 102, 103, 104, 105, 106, 107, 108, 109, 110, 111, 112, 113, 114, 115, 116, 117, 118, 119, 120, 121, 122, 123, 124, 125, 126, 127] (by decide +kernel) (by decide +kernel)
set_option maxRecDepth 20000 in
theorem gX12_poll_X12_canPoll : GoodIn wsX12_poll (wsV RX12 345 RX12 yX12_canPoll wsX12_canPoll) := goodIn_app (goodIn_of _ (by decide +kernel)) ggX12_poll_X12_canPoll
set_option maxRecDepth 20000 in
theorem ggX12_poll_X12_keeps : GoodIn wsX12_poll wsX12_keeps := goodIn_r _ [35, 36, 37, 7, 90, 91, 92, 93, 94, 95, 96, 97, 98, 99, 100, 101, 102, 103, 104, 105, 106, 107, 108, 109, 110, 111, 112, 113, 114, 115, 116, 117, 118, 119, 120, 121, 122, 123, 124, 125, 126, 127] (by decide +kernel) (by decide +kernel)
set_option maxRecDepth 20000 in
theorem gX12_poll_X12_keeps : GoodIn wsX12_poll (wsV RX12 124 RX12 yX12_keeps wsX12_keeps) := goodIn_app (goodIn_of _ (by decide +kernel)) ggX12_poll_X12_keeps
set_option maxRecDepth 20000 in
theorem ggX12_poll_X12_pollsOne : GoodIn wsX12_poll wsX12_pollsOne := goodIn_r _ [41, 42, 7, 43, 44, 20, 45, 46, 47, 48, 5, 49, 12, 26, 27, 28, 50, 51, 52, 53, 54, 55, 56, 57, 58, 59, 60, 61, 62, 63, 64, 65, 66, 67, 68, 69, 70, 71, 72, 73, 29, 30, 31, 74, 75, 76, 77, 78, 79, 80, 81, 82, 83, 84, 85, 86, 87, 88, 89, 90, 91, 92, 93, 94, 95, 96, 97, 98, 99, 100, 101, 102, 103, 104, 105, 106, 107, 108, 109, 110, 111, 112, 113, 114, 115, 116, 117, 118, 119, 120, 121, 122, 123, 124, 125, 126, 127] (by decide +kernel) (by decide +kernel)
set_option maxRecDepth 20000 in
theorem gX12_poll_X12_pollsOne : GoodIn wsX12_poll (wsV RX12 348 RX12 yX12_pollsOne wsX12_pollsOne) := goodIn_app (goodIn_of _ (by decide +kernel)) ggX12_poll_X12_pollsOne
theorem dX12_poll_0 : decode cX12_poll 0 = .ok (.aload_n 0, 1) := by decide +kernel
theorem dX12_poll_1 : decode cX12_poll 1 = .ok (.iconst 0, 1) := by decide +kernel
theorem dX12_poll_2 : decode cX12_poll 2 = .ok (.putfield 97, 3) := by decide +kernel
theorem dX12_poll_5 : decode cX12_poll 5 = .ok (.aload_n 0, 1) := by decide +kernel
theorem dX12_poll_6 : decode cX12_poll 6 = .ok (.iload_n 1, 1) := by decide +kernel
theorem dX12_poll_7 : decode cX12_poll 7 = .ok (.iload_n 2, 1) := by decide +kernel
theorem dX12_poll_8 : decode cX12_poll 8 = .ok (.iload_n 3, 1) := by decide +kernel
theorem dX12_poll_9 : decode cX12_poll 9 = .ok (.invokevirtual 345, 3) := by decide +kernel
theorem dX12_poll_12 : decode cX12_poll 12 = .ok (.ifCond .ne 5, 3) := by decide +kernel
theorem dX12_poll_15 : decode cX12_poll 15 = .ok (.iconst (-1), 1) := by decide +kernel
theorem dX12_poll_16 : decode cX12_poll 16 = .ok (.ireturn, 1) := by decide +kernel
theorem dX12_poll_17 : decode cX12_poll 17 = .ok (.aload_n 0, 1) := by decide +kernel
theorem dX12_poll_18 : decode cX12_poll 18 = .ok (.invokevirtual 124, 3) := by decide +kernel
theorem dX12_poll_21 : decode cX12_poll 21 = .ok (.aload_n 0, 1) := by decide +kernel
theorem dX12_poll_22 : decode cX12_poll 22 = .ok (.iload_n 1, 1) := by decide +kernel
theorem dX12_poll_23 : decode cX12_poll 23 = .ok (.iload_n 2, 1) := by decide +kernel
theorem dX12_poll_24 : decode cX12_poll 24 = .ok (.iload_n 3, 1) := by decide +kernel
theorem dX12_poll_25 : decode cX12_poll 25 = .ok (.invokevirtual 348, 3) := by decide +kernel
theorem dX12_poll_28 : decode cX12_poll 28 = .ok (.ireturn, 1) := by decide +kernel
set_option maxRecDepth 20000 in
theorem ggX12_yes_X12_canPoll : GoodIn wsX12_yes wsX12_canPoll := goodIn_r _ [6, 7, 8, 9, 10, 5, 11, 12, 13, 14, 15, 16, 17, 18, 19, 20, 21, 22, 23, 24, 25, 26, 27, 28, 29, 30, 31, 46, 47, 48, 49, 50, 51, 52, 53, 54, 55, 56, 57, 58, 59, 60, 61, 62, 63, 64, 65, 66, 67, 68, 69, 70, 71, 72, 73, 74, 75, 76, 77, 78, 79, 80, 81, 82, 83] (by decide +kernel) (by decide +kernel)
set_option maxRecDepth 20000 in
theorem gX12_yes_X12_canPoll : GoodIn wsX12_yes (wsV RX12 345 RX12 yX12_canPoll wsX12_canPoll) := goodIn_app (goodIn_of _ (by decide +kernel)) ggX12_yes_X12_canPoll
set_option maxRecDepth 20000 in
theorem ggX12_yes_X12_yesOf : GoodIn wsX12_yes wsX12_yesOf := goodIn_r _ [35, 12, 26, 27, 5, 28, 36, 37, 38, 39, 7, 40, 41, 42, 43, 20, 44, 45, 46, 47, 48, 49, 50, 51, 52, 53, 54, 55, 56, 57, 58, 59, 60, 61, 62, 63, 64, 65, 66, 67, 68, 69, 70, 71, 72, 73, 74, 75, 76, 77, 78, 79, 80, 81, 82, 83] (by decide +kernel) (by decide +kernel)
set_option maxRecDepth 20000 in
theorem gX12_yes_X12_yesOf : GoodIn wsX12_yes (wsV RX12 325 RX12 yX12_yesOf wsX12_yesOf) := goodIn_app (goodIn_of _ (by decide +kernel)) ggX12_yes_X12_yesOf
theorem dX12_yes_0 : decode cX12_yes 0 = .ok (.aload_n 0, 1) := by decide +kernel
theorem dX12_yes_1 : decode cX12_yes 1 = .ok (.iconst 0, 1) := by decide +kernel
theorem dX12_yes_2 : decode cX12_yes 2 = .ok (.putfield 97, 3) := by decide +kernel
theorem dX12_yes_5 : decode cX12_yes 5 = .ok (.aload_n 0, 1) := by decide +kernel
theorem dX12_yes_6 : decode cX12_yes 6 = .ok (.iload_n 1, 1) := by decide +kernel
theorem dX12_yes_7 : decode cX12_yes 7 = .ok (.iload_n 2, 1) := by decide +kernel
theorem dX12_yes_8 : decode cX12_yes 8 = .ok (.iload_n 3, 1) := by decide +kernel
theorem dX12_yes_9 : decode cX12_yes 9 = .ok (.invokevirtual 345, 3) := by decide +kernel
theorem dX12_yes_12 : decode cX12_yes 12 = .ok (.ifCond .eq 13, 3) := by decide +kernel
theorem dX12_yes_15 : decode cX12_yes 15 = .ok (.aload_n 0, 1) := by decide +kernel
theorem dX12_yes_16 : decode cX12_yes 16 = .ok (.iload_n 1, 1) := by decide +kernel
theorem dX12_yes_17 : decode cX12_yes 17 = .ok (.iload_n 2, 1) := by decide +kernel
theorem dX12_yes_18 : decode cX12_yes 18 = .ok (.iload_n 3, 1) := by decide +kernel
theorem dX12_yes_19 : decode cX12_yes 19 = .ok (.invokevirtual 325, 3) := by decide +kernel
theorem dX12_yes_22 : decode cX12_yes 22 = .ok (.goto 4, 3) := by decide +kernel
theorem dX12_yes_25 : decode cX12_yes 25 = .ok (.iconst (-1), 1) := by decide +kernel
theorem dX12_yes_26 : decode cX12_yes 26 = .ok (.ireturn, 1) := by decide +kernel
set_option maxRecDepth 20000 in
theorem ggX12_polls_X12_within : GoodIn wsX12_polls wsX12_within := goodIn_r _ [9] (by decide +kernel) (by decide +kernel)
set_option maxRecDepth 20000 in
theorem gX12_polls_X12_within : GoodIn wsX12_polls (va_wsS RX12 116 yX12_within wsX12_within) := goodIn_app (goodIn_of _ (by decide +kernel)) ggX12_polls_X12_within
set_option maxRecDepth 20000 in
theorem ggX12_polls_X12_keeps : GoodIn wsX12_polls wsX12_keeps := goodIn_r _ [13, 14, 15, 5, 87, 88, 89, 90, 91, 92, 93, 94, 95, 96, 97, 98, 99, 100, 101, 102, 103, 104, 105, 106, 107, 108, 109, 110, 111, 112, 113, 114, 115, 116, 117, 118, 119, 120, 121, 122, 123, 124] (by decide +kernel) (by decide +kernel)
set_option maxRecDepth 20000 in
theorem gX12_polls_X12_keeps : GoodIn wsX12_polls (wsV RX12 124 RX12 yX12_keeps wsX12_keeps) := goodIn_app (goodIn_of _ (by decide +kernel)) ggX12_polls_X12_keeps
set_option maxRecDepth 20000 in
theorem ggX12_polls_X12_draw : GoodIn wsX12_polls wsX12_draw := goodIn_r _ [19, 2, 20, 87, 88, 89, 90, 91, 92, 93, 94, 95, 96, 97, 98, 99, 100, 101, 102, 103, 104, 105, 106, 107, 108, 109, 110, 111, 112, 113, 114, 115, 116, 117, 118, 119, 120, 121, 122, 123, 124] (by decide +kernel) (by decide +kernel)
set_option maxRecDepth 20000 in
theorem gX12_polls_X12_draw : GoodIn wsX12_polls (wsV RX12 156 RX12 yX12_draw wsX12_draw) := goodIn_app (goodIn_of _ (by decide +kernel)) ggX12_polls_X12_draw
set_option maxRecDepth 20000 in
theorem ggX12_polls_X12_many : GoodIn wsX12_polls wsX12_many := goodIn_r _ [23, 24, 25, 8, 26] (by decide +kernel) (by decide +kernel)
set_option maxRecDepth 20000 in
theorem gX12_polls_X12_many : GoodIn wsX12_polls (va_wsS RX12 127 yX12_many wsX12_many) := goodIn_app (goodIn_of _ (by decide +kernel)) ggX12_polls_X12_many
set_option maxRecDepth 20000 in
theorem ggX12_polls_X12_nth : GoodIn wsX12_polls wsX12_nth := goodIn_r _ [29, 24, 25, 8, 26] (by decide +kernel) (by decide +kernel)
set_option maxRecDepth 20000 in
theorem gX12_polls_X12_nth : GoodIn wsX12_polls (va_wsS RX12 159 yX12_nth wsX12_nth) := goodIn_app (goodIn_of _ (by decide +kernel)) ggX12_polls_X12_nth
set_option maxRecDepth 20000 in
theorem ggX12_polls_X12_drawSample : GoodIn wsX12_polls wsX12_drawSample := goodIn_r _ [33, 3, 34, 21, 22, 8, 23, 24, 25, 26, 16, 17, 18, 19, 2, 20, 27, 28, 29, 87, 88, 89, 90, 91, 92, 93, 94, 95, 96, 97, 98, 99, 100, 101, 102, 103, 104, 105, 106, 107, 108, 109, 110, 111, 112, 113, 114, 115, 116, 117, 118, 119, 120, 121, 122, 123, 124] (by decide +kernel) (by decide +kernel)
set_option maxRecDepth 20000 in
theorem gX12_polls_X12_drawSample : GoodIn wsX12_polls (wsV RX12 162 RX12 yX12_drawSample wsX12_drawSample) := goodIn_app (goodIn_of _ (by decide +kernel)) ggX12_polls_X12_drawSample
set_option maxRecDepth 20000 in
theorem ggX12_polls_X12_pollsOne : GoodIn wsX12_polls wsX12_pollsOne := goodIn_r _ [38, 39, 5, 40, 41, 4, 42, 43, 44, 45, 8, 46, 3, 24, 25, 26, 47, 48, 49, 50, 51, 52, 53, 54, 55, 56, 57, 58, 59, 60, 61, 62, 63, 64, 65, 66, 67, 68, 69, 70, 21, 22, 23, 71, 72, 73, 74, 75, 76, 77, 78, 79, 80, 81, 82, 83, 84, 85, 86, 87, 88, 89, 90, 91, 92, 93, 94, 95, 96, 97, 98, 99, 100, 101, 102, 103, 104, 105, 106, 107, 108, 109, 110, 111, 112, 113, 114, 115, 116, 117, 118, 119, 120, 121, 122, 123, 124] (by decide +kernel) (by decide +kernel)
set_option maxRecDepth 20000 in
theorem gX12_polls_X12_pollsOne : GoodIn wsX12_polls (wsV RX12 348 RX12 yX12_pollsOne wsX12_pollsOne) := goodIn_app (goodIn_of _ (by decide +kernel)) ggX12_polls_X12_pollsOne
set_option maxRecDepth 20000 in
theorem ggX12_polls_X12_has : GoodIn wsX12_polls wsX12_has := goodIn_r _ [26] (by decide +kernel) (by decide +kernel)
set_option maxRecDepth 20000 in
theorem gX12_polls_X12_has : GoodIn wsX12_polls (va_wsS RX12 100 yX12_has wsX12_has) := goodIn_app (goodIn_of _ (by decide +kernel)) ggX12_polls_X12_has
theorem dX12_polls_0 : decode cX12_polls 0 = .ok (.aload_n 0, 1) := by decide +kernel
theorem dX12_polls_1 : decode cX12_polls 1 = .ok (.iconst 0, 1) := by decide +kernel
theorem dX12_polls_2 : decode cX12_polls 2 = .ok (.putfield 97, 3) := by decide +kernel
theorem dX12_polls_5 : decode cX12_polls 5 = .ok (.iload_n 1, 1) := by decide +kernel
theorem dX12_polls_6 : decode cX12_polls 6 = .ok (.iconst 1, 1) := by decide +kernel
theorem dX12_polls_7 : decode cX12_polls 7 = .ok (.bipush 100, 2) := by decide +kernel
theorem dX12_polls_9 : decode cX12_polls 9 = .ok (.invokestatic 116, 3) := by decide +kernel
theorem dX12_polls_12 : decode cX12_polls 12 = .ok (.ifCond .ne 5, 3) := by decide +kernel
theorem dX12_polls_15 : decode cX12_polls 15 = .ok (.iconst (-1), 1) := by decide +kernel
theorem dX12_polls_16 : decode cX12_polls 16 = .ok (.ireturn, 1) := by decide +kernel
theorem dX12_polls_17 : decode cX12_polls 17 = .ok (.aload_n 0, 1) := by decide +kernel
theorem dX12_polls_18 : decode cX12_polls 18 = .ok (.invokevirtual 124, 3) := by decide +kernel
theorem dX12_polls_21 : decode cX12_polls 21 = .ok (.aload_n 0, 1) := by decide +kernel
theorem dX12_polls_22 : decode cX12_polls 22 = .ok (.iload_n 2, 1) := by decide +kernel
theorem dX12_polls_23 : decode cX12_polls 23 = .ok (.putfield 152, 3) := by decide +kernel
theorem dX12_polls_26 : decode cX12_polls 26 = .ok (.iconst 0, 1) := by decide +kernel
theorem dX12_polls_27 : decode cX12_polls 27 = .ok (.istore_n 3, 1) := by decide +kernel
theorem dX12_polls_28 : decode cX12_polls 28 = .ok (.iconst 0, 1) := by decide +kernel
theorem dX12_polls_29 : decode cX12_polls 29 = .ok (.istore 4, 2) := by decide +kernel
theorem dX12_polls_31 : decode cX12_polls 31 = .ok (.iload 4, 2) := by decide +kernel
theorem dX12_polls_33 : decode cX12_polls 33 = .ok (.iload_n 1, 1) := by decide +kernel
theorem dX12_polls_34 : decode cX12_polls 34 = .ok (.if_icmp .ge 121, 3) := by decide +kernel
theorem dX12_polls_37 : decode cX12_polls 37 = .ok (.aload_n 0, 1) := by decide +kernel
theorem dX12_polls_38 : decode cX12_polls 38 = .ok (.aload_n 0, 1) := by decide +kernel
theorem dX12_polls_39 : decode cX12_polls 39 = .ok (.getfield 19, 3) := by decide +kernel
theorem dX12_polls_42 : decode cX12_polls 42 = .ok (.invokevirtual 156, 3) := by decide +kernel
theorem dX12_polls_45 : decode cX12_polls 45 = .ok (.istore 5, 2) := by decide +kernel
theorem dX12_polls_47 : decode cX12_polls 47 = .ok (.iconst 1, 1) := by decide +kernel
theorem dX12_polls_48 : decode cX12_polls 48 = .ok (.aload_n 0, 1) := by decide +kernel
theorem dX12_polls_49 : decode cX12_polls 49 = .ok (.getfield 113, 3) := by decide +kernel
theorem dX12_polls_52 : decode cX12_polls 52 = .ok (.ishl, 1) := by decide +kernel
theorem dX12_polls_53 : decode cX12_polls 53 = .ok (.iconst 1, 1) := by decide +kernel
theorem dX12_polls_54 : decode cX12_polls 54 = .ok (.isub, 1) := by decide +kernel
theorem dX12_polls_55 : decode cX12_polls 55 = .ok (.aload_n 0, 1) := by decide +kernel
theorem dX12_polls_56 : decode cX12_polls 56 = .ok (.getfield 7, 3) := by decide +kernel
theorem dX12_polls_59 : decode cX12_polls 59 = .ok (.bipush 72, 2) := by decide +kernel
theorem dX12_polls_61 : decode cX12_polls 61 = .ok (.iload 5, 2) := by decide +kernel
theorem dX12_polls_63 : decode cX12_polls 63 = .ok (.iadd, 1) := by decide +kernel
theorem dX12_polls_64 : decode cX12_polls 64 = .ok (.iaload, 1) := by decide +kernel
theorem dX12_polls_65 : decode cX12_polls 65 = .ok (.iconst (-1), 1) := by decide +kernel
theorem dX12_polls_66 : decode cX12_polls 66 = .ok (.ixor, 1) := by decide +kernel
theorem dX12_polls_67 : decode cX12_polls 67 = .ok (.iand, 1) := by decide +kernel
theorem dX12_polls_68 : decode cX12_polls 68 = .ok (.istore 6, 2) := by decide +kernel
theorem dX12_polls_70 : decode cX12_polls 70 = .ok (.aload_n 0, 1) := by decide +kernel
theorem dX12_polls_71 : decode cX12_polls 71 = .ok (.getfield 7, 3) := by decide +kernel
theorem dX12_polls_74 : decode cX12_polls 74 = .ok (.bipush 48, 2) := by decide +kernel
theorem dX12_polls_76 : decode cX12_polls 76 = .ok (.iload 5, 2) := by decide +kernel
theorem dX12_polls_78 : decode cX12_polls 78 = .ok (.iadd, 1) := by decide +kernel
theorem dX12_polls_79 : decode cX12_polls 79 = .ok (.iaload, 1) := by decide +kernel
theorem dX12_polls_80 : decode cX12_polls 80 = .ok (.ifCond .ne 69, 3) := by decide +kernel
theorem dX12_polls_83 : decode cX12_polls 83 = .ok (.iload 6, 2) := by decide +kernel
theorem dX12_polls_85 : decode cX12_polls 85 = .ok (.ifCond .ne 6, 3) := by decide +kernel
theorem dX12_polls_88 : decode cX12_polls 88 = .ok (.goto 61, 3) := by decide +kernel
theorem dX12_polls_91 : decode cX12_polls 91 = .ok (.iload 6, 2) := by decide +kernel
theorem dX12_polls_93 : decode cX12_polls 93 = .ok (.aload_n 0, 1) := by decide +kernel
theorem dX12_polls_94 : decode cX12_polls 94 = .ok (.iload 6, 2) := by decide +kernel
theorem dX12_polls_96 : decode cX12_polls 96 = .ok (.invokestatic 127, 3) := by decide +kernel
theorem dX12_polls_99 : decode cX12_polls 99 = .ok (.invokevirtual 156, 3) := by decide +kernel
theorem dX12_polls_102 : decode cX12_polls 102 = .ok (.invokestatic 159, 3) := by decide +kernel
theorem dX12_polls_105 : decode cX12_polls 105 = .ok (.istore 7, 2) := by decide +kernel
theorem dX12_polls_107 : decode cX12_polls 107 = .ok (.aload_n 0, 1) := by decide +kernel
theorem dX12_polls_108 : decode cX12_polls 108 = .ok (.iload 5, 2) := by decide +kernel
theorem dX12_polls_110 : decode cX12_polls 110 = .ok (.invokevirtual 162, 3) := by decide +kernel
theorem dX12_polls_113 : decode cX12_polls 113 = .ok (.istore 8, 2) := by decide +kernel
theorem dX12_polls_115 : decode cX12_polls 115 = .ok (.aload_n 0, 1) := by decide +kernel
theorem dX12_polls_116 : decode cX12_polls 116 = .ok (.iload 5, 2) := by decide +kernel
theorem dX12_polls_118 : decode cX12_polls 118 = .ok (.iload 7, 2) := by decide +kernel
theorem dX12_polls_120 : decode cX12_polls 120 = .ok (.iload 8, 2) := by decide +kernel
theorem dX12_polls_122 : decode cX12_polls 122 = .ok (.invokevirtual 348, 3) := by decide +kernel
theorem dX12_polls_125 : decode cX12_polls 125 = .ok (.ifCond .le 24, 3) := by decide +kernel
theorem dX12_polls_128 : decode cX12_polls 128 = .ok (.aload_n 0, 1) := by decide +kernel
theorem dX12_polls_129 : decode cX12_polls 129 = .ok (.getfield 7, 3) := by decide +kernel
theorem dX12_polls_132 : decode cX12_polls 132 = .ok (.bipush 64, 2) := by decide +kernel
theorem dX12_polls_134 : decode cX12_polls 134 = .ok (.iload 5, 2) := by decide +kernel
theorem dX12_polls_136 : decode cX12_polls 136 = .ok (.iadd, 1) := by decide +kernel
theorem dX12_polls_137 : decode cX12_polls 137 = .ok (.iaload, 1) := by decide +kernel
theorem dX12_polls_138 : decode cX12_polls 138 = .ok (.iload 7, 2) := by decide +kernel
theorem dX12_polls_140 : decode cX12_polls 140 = .ok (.invokestatic 100, 3) := by decide +kernel
theorem dX12_polls_143 : decode cX12_polls 143 = .ok (.ifCond .eq 6, 3) := by decide +kernel
theorem dX12_polls_146 : decode cX12_polls 146 = .ok (.iinc 3 1, 3) := by decide +kernel
theorem dX12_polls_149 : decode cX12_polls 149 = .ok (.iinc 4 1, 3) := by decide +kernel
theorem dX12_polls_152 : decode cX12_polls 152 = .ok (.goto (-121), 3) := by decide +kernel
theorem dX12_polls_155 : decode cX12_polls 155 = .ok (.iload_n 3, 1) := by decide +kernel
theorem dX12_polls_156 : decode cX12_polls 156 = .ok (.ireturn, 1) := by decide +kernel
set_option maxRecDepth 20000 in
theorem ggX12_deepOf_X12_deepOf : GoodIn wsX12_deepOf wsX12_deepOf := goodIn_r _ [0, 1, 2, 3, 4, 5, 6, 7, 8, 9, 10, 11, 12, 13, 14, 15, 16, 17, 18, 19, 20, 21, 22, 23, 24, 25, 26, 27, 28, 29, 30, 31, 32, 33, 34, 35, 36, 37, 38, 39, 40, 41, 42, 43, 44] (by decide +kernel) (by decide +kernel)
set_option maxRecDepth 20000 in
theorem gX12_deepOf_X12_deepOf : GoodIn wsX12_deepOf (wsV RX12 351 RX12 yX12_deepOf wsX12_deepOf) := goodIn_app (goodIn_of _ (by decide +kernel)) ggX12_deepOf_X12_deepOf
theorem dX12_deepOf_0 : decode cX12_deepOf 0 = .ok (.iconst (-1), 1) := by decide +kernel
theorem dX12_deepOf_1 : decode cX12_deepOf 1 = .ok (.istore_n 2, 1) := by decide +kernel
theorem dX12_deepOf_2 : decode cX12_deepOf 2 = .ok (.aload_n 0, 1) := by decide +kernel
theorem dX12_deepOf_3 : decode cX12_deepOf 3 = .ok (.getfield 44, 3) := by decide +kernel
theorem dX12_deepOf_6 : decode cX12_deepOf 6 = .ok (.iload_n 1, 1) := by decide +kernel
theorem dX12_deepOf_7 : decode cX12_deepOf 7 = .ok (.iaload, 1) := by decide +kernel
theorem dX12_deepOf_8 : decode cX12_deepOf 8 = .ok (.ifCond .lt 14, 3) := by decide +kernel
theorem dX12_deepOf_11 : decode cX12_deepOf 11 = .ok (.aload_n 0, 1) := by decide +kernel
theorem dX12_deepOf_12 : decode cX12_deepOf 12 = .ok (.aload_n 0, 1) := by decide +kernel
theorem dX12_deepOf_13 : decode cX12_deepOf 13 = .ok (.getfield 44, 3) := by decide +kernel
theorem dX12_deepOf_16 : decode cX12_deepOf 16 = .ok (.iload_n 1, 1) := by decide +kernel
theorem dX12_deepOf_17 : decode cX12_deepOf 17 = .ok (.iaload, 1) := by decide +kernel
theorem dX12_deepOf_18 : decode cX12_deepOf 18 = .ok (.invokevirtual 351, 3) := by decide +kernel
theorem dX12_deepOf_21 : decode cX12_deepOf 21 = .ok (.istore_n 2, 1) := by decide +kernel
theorem dX12_deepOf_22 : decode cX12_deepOf 22 = .ok (.aload_n 0, 1) := by decide +kernel
theorem dX12_deepOf_23 : decode cX12_deepOf 23 = .ok (.getfield 47, 3) := by decide +kernel
theorem dX12_deepOf_26 : decode cX12_deepOf 26 = .ok (.iload_n 1, 1) := by decide +kernel
theorem dX12_deepOf_27 : decode cX12_deepOf 27 = .ok (.iaload, 1) := by decide +kernel
theorem dX12_deepOf_28 : decode cX12_deepOf 28 = .ok (.ifCond .lt 28, 3) := by decide +kernel
theorem dX12_deepOf_31 : decode cX12_deepOf 31 = .ok (.aload_n 0, 1) := by decide +kernel
theorem dX12_deepOf_32 : decode cX12_deepOf 32 = .ok (.aload_n 0, 1) := by decide +kernel
theorem dX12_deepOf_33 : decode cX12_deepOf 33 = .ok (.getfield 47, 3) := by decide +kernel
theorem dX12_deepOf_36 : decode cX12_deepOf 36 = .ok (.iload_n 1, 1) := by decide +kernel
theorem dX12_deepOf_37 : decode cX12_deepOf 37 = .ok (.iaload, 1) := by decide +kernel
theorem dX12_deepOf_38 : decode cX12_deepOf 38 = .ok (.invokevirtual 351, 3) := by decide +kernel
theorem dX12_deepOf_41 : decode cX12_deepOf 41 = .ok (.iload_n 2, 1) := by decide +kernel
theorem dX12_deepOf_42 : decode cX12_deepOf 42 = .ok (.if_icmp .le 14, 3) := by decide +kernel
theorem dX12_deepOf_45 : decode cX12_deepOf 45 = .ok (.aload_n 0, 1) := by decide +kernel
theorem dX12_deepOf_46 : decode cX12_deepOf 46 = .ok (.aload_n 0, 1) := by decide +kernel
theorem dX12_deepOf_47 : decode cX12_deepOf 47 = .ok (.getfield 47, 3) := by decide +kernel
theorem dX12_deepOf_50 : decode cX12_deepOf 50 = .ok (.iload_n 1, 1) := by decide +kernel
theorem dX12_deepOf_51 : decode cX12_deepOf 51 = .ok (.iaload, 1) := by decide +kernel
theorem dX12_deepOf_52 : decode cX12_deepOf 52 = .ok (.invokevirtual 351, 3) := by decide +kernel
theorem dX12_deepOf_55 : decode cX12_deepOf 55 = .ok (.istore_n 2, 1) := by decide +kernel
theorem dX12_deepOf_56 : decode cX12_deepOf 56 = .ok (.iload_n 2, 1) := by decide +kernel
theorem dX12_deepOf_57 : decode cX12_deepOf 57 = .ok (.iconst 1, 1) := by decide +kernel
theorem dX12_deepOf_58 : decode cX12_deepOf 58 = .ok (.iadd, 1) := by decide +kernel
theorem dX12_deepOf_59 : decode cX12_deepOf 59 = .ok (.ireturn, 1) := by decide +kernel
set_option maxRecDepth 20000 in
theorem ggX12_byHow_X12_has : GoodIn wsX12_byHow wsX12_has := goodIn_r _ [6] (by decide +kernel) (by decide +kernel)
set_option maxRecDepth 20000 in
theorem gX12_byHow_X12_has : GoodIn wsX12_byHow (va_wsS RX12 100 yX12_has wsX12_has) := goodIn_app (goodIn_of _ (by decide +kernel)) ggX12_byHow_X12_has
theorem dX12_byHow_0 : decode cX12_byHow 0 = .ok (.iconst 0, 1) := by decide +kernel
theorem dX12_byHow_1 : decode cX12_byHow 1 = .ok (.istore_n 3, 1) := by decide +kernel
theorem dX12_byHow_2 : decode cX12_byHow 2 = .ok (.iconst 0, 1) := by decide +kernel
theorem dX12_byHow_3 : decode cX12_byHow 3 = .ok (.istore 4, 2) := by decide +kernel
theorem dX12_byHow_5 : decode cX12_byHow 5 = .ok (.iload 4, 2) := by decide +kernel
theorem dX12_byHow_7 : decode cX12_byHow 7 = .ok (.aload_n 0, 1) := by decide +kernel
theorem dX12_byHow_8 : decode cX12_byHow 8 = .ok (.getfield 19, 3) := by decide +kernel
theorem dX12_byHow_11 : decode cX12_byHow 11 = .ok (.if_icmp .ge 41, 3) := by decide +kernel
theorem dX12_byHow_14 : decode cX12_byHow 14 = .ok (.aload_n 0, 1) := by decide +kernel
theorem dX12_byHow_15 : decode cX12_byHow 15 = .ok (.getfield 7, 3) := by decide +kernel
theorem dX12_byHow_18 : decode cX12_byHow 18 = .ok (.bipush 48, 2) := by decide +kernel
theorem dX12_byHow_20 : decode cX12_byHow 20 = .ok (.iload 4, 2) := by decide +kernel
theorem dX12_byHow_22 : decode cX12_byHow 22 = .ok (.iadd, 1) := by decide +kernel
theorem dX12_byHow_23 : decode cX12_byHow 23 = .ok (.iaload, 1) := by decide +kernel
theorem dX12_byHow_24 : decode cX12_byHow 24 = .ok (.ifCond .ne 22, 3) := by decide +kernel
theorem dX12_byHow_27 : decode cX12_byHow 27 = .ok (.aload_n 0, 1) := by decide +kernel
theorem dX12_byHow_28 : decode cX12_byHow 28 = .ok (.getfield 7, 3) := by decide +kernel
theorem dX12_byHow_31 : decode cX12_byHow 31 = .ok (.iload_n 1, 1) := by decide +kernel
theorem dX12_byHow_32 : decode cX12_byHow 32 = .ok (.iload 4, 2) := by decide +kernel
theorem dX12_byHow_34 : decode cX12_byHow 34 = .ok (.iadd, 1) := by decide +kernel
theorem dX12_byHow_35 : decode cX12_byHow 35 = .ok (.iaload, 1) := by decide +kernel
theorem dX12_byHow_36 : decode cX12_byHow 36 = .ok (.iload_n 2, 1) := by decide +kernel
theorem dX12_byHow_37 : decode cX12_byHow 37 = .ok (.invokestatic 100, 3) := by decide +kernel
theorem dX12_byHow_40 : decode cX12_byHow 40 = .ok (.ifCond .eq 6, 3) := by decide +kernel
theorem dX12_byHow_43 : decode cX12_byHow 43 = .ok (.iinc 3 1, 3) := by decide +kernel
theorem dX12_byHow_46 : decode cX12_byHow 46 = .ok (.iinc 4 1, 3) := by decide +kernel
theorem dX12_byHow_49 : decode cX12_byHow 49 = .ok (.goto (-44), 3) := by decide +kernel
theorem dX12_byHow_52 : decode cX12_byHow 52 = .ok (.iload_n 3, 1) := by decide +kernel
theorem dX12_byHow_53 : decode cX12_byHow 53 = .ok (.ireturn, 1) := by decide +kernel
set_option maxRecDepth 20000 in
theorem ggX12_of_X12_isEntry : GoodIn wsX12_of wsX12_isEntry := goodIn_r _ [10, 11, 12, 13, 9, 14, 32, 33, 34, 35, 36, 37, 38, 39, 40, 41, 42, 43, 44, 45, 46, 47, 48, 49, 50, 51, 52, 53, 54, 55, 56, 57, 58, 59, 60, 61, 62, 63, 64, 65, 66, 67, 68, 69] (by decide +kernel) (by decide +kernel)
set_option maxRecDepth 20000 in
theorem gX12_of_X12_isEntry : GoodIn wsX12_of (wsV RX12 319 RX12 yX12_isEntry wsX12_isEntry) := goodIn_app (goodIn_of _ (by decide +kernel)) ggX12_of_X12_isEntry
set_option maxRecDepth 20000 in
theorem ggX12_of_X12_progeny : GoodIn wsX12_of wsX12_progeny := goodIn_r _ [18, 11, 5, 19, 20, 9, 21, 32, 33, 34, 35, 36, 37, 38, 39, 40, 41, 42, 43, 44, 45, 46, 47, 48, 49, 50, 51, 52, 53, 54, 55, 56, 57, 58, 59, 60, 61, 62, 63, 64, 65, 66, 67, 68, 69] (by decide +kernel) (by decide +kernel)
set_option maxRecDepth 20000 in
theorem gX12_of_X12_progeny : GoodIn wsX12_of (wsV RX12 313 RX12 yX12_progeny wsX12_progeny) := goodIn_app (goodIn_of _ (by decide +kernel)) ggX12_of_X12_progeny
set_option maxRecDepth 20000 in
theorem ggX12_of_X12_deepOf : GoodIn wsX12_of wsX12_deepOf := goodIn_r _ [25, 3, 4, 22, 23, 24, 9, 32, 33, 34, 35, 36, 37, 38, 39, 40, 41, 42, 43, 44, 45, 46, 47, 48, 49, 50, 51, 52, 53, 54, 55, 56, 57, 58, 59, 60, 61, 62, 63, 64, 65, 66, 67, 68, 69] (by decide +kernel) (by decide +kernel)
set_option maxRecDepth 20000 in
theorem gX12_of_X12_deepOf : GoodIn wsX12_of (wsV RX12 351 RX12 yX12_deepOf wsX12_deepOf) := goodIn_app (goodIn_of _ (by decide +kernel)) ggX12_of_X12_deepOf
set_option maxRecDepth 20000 in
theorem ggX12_of_X12_byHow : GoodIn wsX12_of wsX12_byHow := goodIn_r _ [29, 30, 31, 19, 20, 9, 21, 32, 33, 34, 35, 36, 37, 38, 39, 40, 41, 42, 43, 44, 45, 46, 47, 48, 49, 50, 51, 52, 53, 54, 55, 56, 57, 58, 59, 60, 61, 62, 63, 64, 65, 66, 67, 68, 69] (by decide +kernel) (by decide +kernel)
set_option maxRecDepth 20000 in
theorem gX12_of_X12_byHow : GoodIn wsX12_of (wsV RX12 354 RX12 yX12_byHow wsX12_byHow) := goodIn_app (goodIn_of _ (by decide +kernel)) ggX12_of_X12_byHow
theorem dX12_of_0 : decode cX12_of 0 = .ok (.aload_n 0, 1) := by decide +kernel
theorem dX12_of_1 : decode cX12_of 1 = .ok (.iconst 0, 1) := by decide +kernel
theorem dX12_of_2 : decode cX12_of 2 = .ok (.putfield 97, 3) := by decide +kernel
theorem dX12_of_5 : decode cX12_of 5 = .ok (.aload_n 0, 1) := by decide +kernel
theorem dX12_of_6 : decode cX12_of 6 = .ok (.iload_n 1, 1) := by decide +kernel
theorem dX12_of_7 : decode cX12_of 7 = .ok (.invokevirtual 319, 3) := by decide +kernel
theorem dX12_of_10 : decode cX12_of 10 = .ok (.ifCond .ne 6, 3) := by decide +kernel
theorem dX12_of_13 : decode cX12_of 13 = .ok (.bipush (-2), 2) := by decide +kernel
theorem dX12_of_15 : decode cX12_of 15 = .ok (.ireturn, 1) := by decide +kernel
theorem dX12_of_16 : decode cX12_of 16 = .ok (.iload_n 2, 1) := by decide +kernel
theorem dX12_of_17 : decode cX12_of 17 = .ok (.tableswitch 103 0 7 #[47, 54, 61, 68, 75, 81, 87, 95], 47) := by decide +kernel
theorem dX12_of_64 : decode cX12_of 64 = .ok (.aload_n 0, 1) := by decide +kernel
theorem dX12_of_65 : decode cX12_of 65 = .ok (.getfield 41, 3) := by decide +kernel
theorem dX12_of_68 : decode cX12_of 68 = .ok (.iload_n 1, 1) := by decide +kernel
theorem dX12_of_69 : decode cX12_of 69 = .ok (.iaload, 1) := by decide +kernel
theorem dX12_of_70 : decode cX12_of 70 = .ok (.ireturn, 1) := by decide +kernel
theorem dX12_of_71 : decode cX12_of 71 = .ok (.aload_n 0, 1) := by decide +kernel
theorem dX12_of_72 : decode cX12_of 72 = .ok (.getfield 44, 3) := by decide +kernel
theorem dX12_of_75 : decode cX12_of 75 = .ok (.iload_n 1, 1) := by decide +kernel
theorem dX12_of_76 : decode cX12_of 76 = .ok (.iaload, 1) := by decide +kernel
theorem dX12_of_77 : decode cX12_of 77 = .ok (.ireturn, 1) := by decide +kernel
theorem dX12_of_78 : decode cX12_of 78 = .ok (.aload_n 0, 1) := by decide +kernel
theorem dX12_of_79 : decode cX12_of 79 = .ok (.getfield 47, 3) := by decide +kernel
theorem dX12_of_82 : decode cX12_of 82 = .ok (.iload_n 1, 1) := by decide +kernel
theorem dX12_of_83 : decode cX12_of 83 = .ok (.iaload, 1) := by decide +kernel
theorem dX12_of_84 : decode cX12_of 84 = .ok (.ireturn, 1) := by decide +kernel
theorem dX12_of_85 : decode cX12_of 85 = .ok (.aload_n 0, 1) := by decide +kernel
theorem dX12_of_86 : decode cX12_of 86 = .ok (.getfield 50, 3) := by decide +kernel
theorem dX12_of_89 : decode cX12_of 89 = .ok (.iload_n 1, 1) := by decide +kernel
theorem dX12_of_90 : decode cX12_of 90 = .ok (.iaload, 1) := by decide +kernel
theorem dX12_of_91 : decode cX12_of 91 = .ok (.ireturn, 1) := by decide +kernel
theorem dX12_of_92 : decode cX12_of 92 = .ok (.aload_n 0, 1) := by decide +kernel
theorem dX12_of_93 : decode cX12_of 93 = .ok (.iload_n 1, 1) := by decide +kernel
theorem dX12_of_94 : decode cX12_of 94 = .ok (.invokevirtual 313, 3) := by decide +kernel
theorem dX12_of_97 : decode cX12_of 97 = .ok (.ireturn, 1) := by decide +kernel
theorem dX12_of_98 : decode cX12_of 98 = .ok (.aload_n 0, 1) := by decide +kernel
theorem dX12_of_99 : decode cX12_of 99 = .ok (.iload_n 1, 1) := by decide +kernel
theorem dX12_of_100 : decode cX12_of 100 = .ok (.invokevirtual 351, 3) := by decide +kernel
theorem dX12_of_103 : decode cX12_of 103 = .ok (.ireturn, 1) := by decide +kernel
theorem dX12_of_104 : decode cX12_of 104 = .ok (.aload_n 0, 1) := by decide +kernel
theorem dX12_of_105 : decode cX12_of 105 = .ok (.bipush 80, 2) := by decide +kernel
theorem dX12_of_107 : decode cX12_of 107 = .ok (.iload_n 1, 1) := by decide +kernel
theorem dX12_of_108 : decode cX12_of 108 = .ok (.invokevirtual 354, 3) := by decide +kernel
theorem dX12_of_111 : decode cX12_of 111 = .ok (.ireturn, 1) := by decide +kernel
theorem dX12_of_112 : decode cX12_of 112 = .ok (.aload_n 0, 1) := by decide +kernel
theorem dX12_of_113 : decode cX12_of 113 = .ok (.bipush 88, 2) := by decide +kernel
theorem dX12_of_115 : decode cX12_of 115 = .ok (.iload_n 1, 1) := by decide +kernel
theorem dX12_of_116 : decode cX12_of 116 = .ok (.invokevirtual 354, 3) := by decide +kernel
theorem dX12_of_119 : decode cX12_of 119 = .ok (.ireturn, 1) := by decide +kernel
theorem dX12_of_120 : decode cX12_of 120 = .ok (.bipush (-2), 2) := by decide +kernel
theorem dX12_of_122 : decode cX12_of 122 = .ok (.ireturn, 1) := by decide +kernel
set_option maxRecDepth 20000 in
theorem ggX12_isHonest_X12_isNode : GoodIn wsX12_isHonest wsX12_isNode := goodIn_r _ [6, 7, 8, 9, 5, 10, 11, 12, 13, 14, 15, 16, 17, 18, 19, 20, 21, 22, 23, 24, 25, 26, 27, 28, 29, 30, 31, 32, 33, 34, 35, 36, 37, 38, 39, 40, 41, 42, 43, 44, 45, 46, 47, 48] (by decide +kernel) (by decide +kernel)
set_option maxRecDepth 20000 in
theorem gX12_isHonest_X12_isNode : GoodIn wsX12_isHonest (wsV RX12 120 RX12 yX12_isNode wsX12_isNode) := goodIn_app (goodIn_of _ (by decide +kernel)) ggX12_isHonest_X12_isNode
theorem dX12_isHonest_0 : decode cX12_isHonest 0 = .ok (.aload_n 0, 1) := by decide +kernel
theorem dX12_isHonest_1 : decode cX12_isHonest 1 = .ok (.iload_n 1, 1) := by decide +kernel
theorem dX12_isHonest_2 : decode cX12_isHonest 2 = .ok (.invokevirtual 120, 3) := by decide +kernel
theorem dX12_isHonest_5 : decode cX12_isHonest 5 = .ok (.ifCond .eq 19, 3) := by decide +kernel
theorem dX12_isHonest_8 : decode cX12_isHonest 8 = .ok (.aload_n 0, 1) := by decide +kernel
theorem dX12_isHonest_9 : decode cX12_isHonest 9 = .ok (.getfield 7, 3) := by decide +kernel
theorem dX12_isHonest_12 : decode cX12_isHonest 12 = .ok (.bipush 48, 2) := by decide +kernel
theorem dX12_isHonest_14 : decode cX12_isHonest 14 = .ok (.iload_n 1, 1) := by decide +kernel
theorem dX12_isHonest_15 : decode cX12_isHonest 15 = .ok (.iadd, 1) := by decide +kernel
theorem dX12_isHonest_16 : decode cX12_isHonest 16 = .ok (.iaload, 1) := by decide +kernel
theorem dX12_isHonest_17 : decode cX12_isHonest 17 = .ok (.ifCond .ne 7, 3) := by decide +kernel
theorem dX12_isHonest_20 : decode cX12_isHonest 20 = .ok (.iconst 1, 1) := by decide +kernel
theorem dX12_isHonest_21 : decode cX12_isHonest 21 = .ok (.goto 4, 3) := by decide +kernel
theorem dX12_isHonest_24 : decode cX12_isHonest 24 = .ok (.iconst 0, 1) := by decide +kernel
theorem dX12_isHonest_25 : decode cX12_isHonest 25 = .ok (.ireturn, 1) := by decide +kernel
set_option maxRecDepth 20000 in
theorem ggX12_standOf_X12_has : GoodIn wsX12_standOf wsX12_has := goodIn_r _ [5] (by decide +kernel) (by decide +kernel)
set_option maxRecDepth 20000 in
theorem gX12_standOf_X12_has : GoodIn wsX12_standOf (va_wsS RX12 100 yX12_has wsX12_has) := goodIn_app (goodIn_of _ (by decide +kernel)) ggX12_standOf_X12_has
theorem dX12_standOf_0 : decode cX12_standOf 0 = .ok (.aload_n 0, 1) := by decide +kernel
theorem dX12_standOf_1 : decode cX12_standOf 1 = .ok (.getfield 7, 3) := by decide +kernel
theorem dX12_standOf_4 : decode cX12_standOf 4 = .ok (.bipush 80, 2) := by decide +kernel
theorem dX12_standOf_6 : decode cX12_standOf 6 = .ok (.iload_n 1, 1) := by decide +kernel
theorem dX12_standOf_7 : decode cX12_standOf 7 = .ok (.iadd, 1) := by decide +kernel
theorem dX12_standOf_8 : decode cX12_standOf 8 = .ok (.iaload, 1) := by decide +kernel
theorem dX12_standOf_9 : decode cX12_standOf 9 = .ok (.iload_n 2, 1) := by decide +kernel
theorem dX12_standOf_10 : decode cX12_standOf 10 = .ok (.invokestatic 100, 3) := by decide +kernel
theorem dX12_standOf_13 : decode cX12_standOf 13 = .ok (.ifCond .eq 7, 3) := by decide +kernel
theorem dX12_standOf_16 : decode cX12_standOf 16 = .ok (.iconst 1, 1) := by decide +kernel
theorem dX12_standOf_17 : decode cX12_standOf 17 = .ok (.goto 24, 3) := by decide +kernel
theorem dX12_standOf_20 : decode cX12_standOf 20 = .ok (.aload_n 0, 1) := by decide +kernel
theorem dX12_standOf_21 : decode cX12_standOf 21 = .ok (.getfield 7, 3) := by decide +kernel
theorem dX12_standOf_24 : decode cX12_standOf 24 = .ok (.bipush 88, 2) := by decide +kernel
theorem dX12_standOf_26 : decode cX12_standOf 26 = .ok (.iload_n 1, 1) := by decide +kernel
theorem dX12_standOf_27 : decode cX12_standOf 27 = .ok (.iadd, 1) := by decide +kernel
theorem dX12_standOf_28 : decode cX12_standOf 28 = .ok (.iaload, 1) := by decide +kernel
theorem dX12_standOf_29 : decode cX12_standOf 29 = .ok (.iload_n 2, 1) := by decide +kernel
theorem dX12_standOf_30 : decode cX12_standOf 30 = .ok (.invokestatic 100, 3) := by decide +kernel
theorem dX12_standOf_33 : decode cX12_standOf 33 = .ok (.ifCond .eq 7, 3) := by decide +kernel
theorem dX12_standOf_36 : decode cX12_standOf 36 = .ok (.iconst 2, 1) := by decide +kernel
theorem dX12_standOf_37 : decode cX12_standOf 37 = .ok (.goto 4, 3) := by decide +kernel
theorem dX12_standOf_40 : decode cX12_standOf 40 = .ok (.iconst 0, 1) := by decide +kernel
theorem dX12_standOf_41 : decode cX12_standOf 41 = .ok (.ireturn, 1) := by decide +kernel
set_option maxRecDepth 20000 in
theorem ggX12_view_X12_isHonest : GoodIn wsX12_view wsX12_isHonest := goodIn_r _ [7, 2, 8, 9, 10, 6, 11, 12, 13, 14, 15, 45, 46, 47, 48, 49, 50, 51, 52, 53, 54, 55, 56, 57, 58, 59, 60, 61, 62, 63, 64, 65, 66, 67, 68, 69, 70, 71, 72, 73, 74, 75, 76, 77, 78, 79, 80, 81, 82] (by decide +kernel) (by decide +kernel)
set_option maxRecDepth 20000 in
theorem gX12_view_X12_isHonest : GoodIn wsX12_view (wsV RX12 357 RX12 yX12_isHonest wsX12_isHonest) := goodIn_app (goodIn_of _ (by decide +kernel)) ggX12_view_X12_isHonest
set_option maxRecDepth 20000 in
theorem ggX12_view_X12_isEntry : GoodIn wsX12_view wsX12_isEntry := goodIn_r _ [19, 20, 13, 14, 6, 15, 45, 46, 47, 48, 49, 50, 51, 52, 53, 54, 55, 56, 57, 58, 59, 60, 61, 62, 63, 64, 65, 66, 67, 68, 69, 70, 71, 72, 73, 74, 75, 76, 77, 78, 79, 80, 81, 82] (by decide +kernel) (by decide +kernel)
set_option maxRecDepth 20000 in
theorem gX12_view_X12_isEntry : GoodIn wsX12_view (wsV RX12 319 RX12 yX12_isEntry wsX12_isEntry) := goodIn_app (goodIn_of _ (by decide +kernel)) ggX12_view_X12_isEntry
set_option maxRecDepth 20000 in
theorem ggX12_view_X12_within : GoodIn wsX12_view wsX12_within := goodIn_r _ [15] (by decide +kernel) (by decide +kernel)
set_option maxRecDepth 20000 in
theorem gX12_view_X12_within : GoodIn wsX12_view (va_wsS RX12 116 yX12_within wsX12_within) := goodIn_app (goodIn_of _ (by decide +kernel)) ggX12_view_X12_within
set_option maxRecDepth 20000 in
theorem ggX12_view_X12_confOf : GoodIn wsX12_view wsX12_confOf := goodIn_r _ [24, 2, 25, 26, 27, 6, 28, 20, 29, 30, 31, 32, 33, 34, 35, 45, 46, 47, 48, 49, 50, 51, 52, 53, 54, 55, 56, 57, 58, 59, 60, 61, 62, 63, 64, 65, 66, 67, 68, 69, 70, 71, 72, 73, 74, 75, 76, 77, 78, 79, 80, 81, 82] (by decide +kernel) (by decide +kernel)
set_option maxRecDepth 20000 in
theorem gX12_view_X12_confOf : GoodIn wsX12_view (wsV RX12 336 RX12 yX12_confOf wsX12_confOf) := goodIn_app (goodIn_of _ (by decide +kernel)) ggX12_view_X12_confOf
set_option maxRecDepth 20000 in
theorem ggX12_view_X12_isStrong : GoodIn wsX12_view wsX12_isStrong := goodIn_r _ [39, 20, 29, 2, 40, 30, 31, 6, 32, 45, 46, 47, 48, 49, 50, 51, 52, 53, 54, 55, 56, 57, 58, 59, 60, 61, 62, 63, 64, 65, 66, 67, 68, 69, 70, 71, 72, 73, 74, 75, 76, 77, 78, 79, 80, 81, 82] (by decide +kernel) (by decide +kernel)
set_option maxRecDepth 20000 in
theorem gX12_view_X12_isStrong : GoodIn wsX12_view (wsV RX12 316 RX12 yX12_isStrong wsX12_isStrong) := goodIn_app (goodIn_of _ (by decide +kernel)) ggX12_view_X12_isStrong
set_option maxRecDepth 20000 in
theorem ggX12_view_X12_standOf : GoodIn wsX12_view wsX12_standOf := goodIn_r _ [44, 2, 30, 31, 6, 32, 45, 46, 47, 48, 49, 50, 51, 52, 53, 54, 55, 56, 57, 58, 59, 60, 61, 62, 63, 64, 65, 66, 67, 68, 69, 70, 71, 72, 73, 74, 75, 76, 77, 78, 79, 80, 81, 82] (by decide +kernel) (by decide +kernel)
set_option maxRecDepth 20000 in
theorem gX12_view_X12_standOf : GoodIn wsX12_view (wsV RX12 360 RX12 yX12_standOf wsX12_standOf) := goodIn_app (goodIn_of _ (by decide +kernel)) ggX12_view_X12_standOf
theorem dX12_view_0 : decode cX12_view 0 = .ok (.aload_n 0, 1) := by decide +kernel
theorem dX12_view_1 : decode cX12_view 1 = .ok (.aload_n 0, 1) := by decide +kernel
theorem dX12_view_2 : decode cX12_view 2 = .ok (.iload_n 1, 1) := by decide +kernel
theorem dX12_view_3 : decode cX12_view 3 = .ok (.invokevirtual 357, 3) := by decide +kernel
theorem dX12_view_6 : decode cX12_view 6 = .ok (.ifCond .eq 24, 3) := by decide +kernel
theorem dX12_view_9 : decode cX12_view 9 = .ok (.aload_n 0, 1) := by decide +kernel
theorem dX12_view_10 : decode cX12_view 10 = .ok (.iload_n 2, 1) := by decide +kernel
theorem dX12_view_11 : decode cX12_view 11 = .ok (.invokevirtual 319, 3) := by decide +kernel
theorem dX12_view_14 : decode cX12_view 14 = .ok (.ifCond .eq 16, 3) := by decide +kernel
theorem dX12_view_17 : decode cX12_view 17 = .ok (.iload_n 3, 1) := by decide +kernel
theorem dX12_view_18 : decode cX12_view 18 = .ok (.iconst 0, 1) := by decide +kernel
theorem dX12_view_19 : decode cX12_view 19 = .ok (.iconst 4, 1) := by decide +kernel
theorem dX12_view_20 : decode cX12_view 20 = .ok (.invokestatic 116, 3) := by decide +kernel
theorem dX12_view_23 : decode cX12_view 23 = .ok (.ifCond .eq 7, 3) := by decide +kernel
theorem dX12_view_26 : decode cX12_view 26 = .ok (.iconst 0, 1) := by decide +kernel
theorem dX12_view_27 : decode cX12_view 27 = .ok (.goto 4, 3) := by decide +kernel
theorem dX12_view_30 : decode cX12_view 30 = .ok (.iconst 1, 1) := by decide +kernel
theorem dX12_view_31 : decode cX12_view 31 = .ok (.putfield 97, 3) := by decide +kernel
theorem dX12_view_34 : decode cX12_view 34 = .ok (.aload_n 0, 1) := by decide +kernel
theorem dX12_view_35 : decode cX12_view 35 = .ok (.getfield 97, 3) := by decide +kernel
theorem dX12_view_38 : decode cX12_view 38 = .ok (.iconst 1, 1) := by decide +kernel
theorem dX12_view_39 : decode cX12_view 39 = .ok (.if_icmp .ne 5, 3) := by decide +kernel
theorem dX12_view_42 : decode cX12_view 42 = .ok (.iconst 0, 1) := by decide +kernel
theorem dX12_view_43 : decode cX12_view 43 = .ok (.ireturn, 1) := by decide +kernel
theorem dX12_view_44 : decode cX12_view 44 = .ok (.iload_n 3, 1) := by decide +kernel
theorem dX12_view_45 : decode cX12_view 45 = .ok (.tableswitch 81 0 3 #[31, 45, 59, 66], 31) := by decide +kernel
theorem dX12_view_76 : decode cX12_view 76 = .ok (.aload_n 0, 1) := by decide +kernel
theorem dX12_view_77 : decode cX12_view 77 = .ok (.getfield 7, 3) := by decide +kernel
theorem dX12_view_80 : decode cX12_view 80 = .ok (.bipush 64, 2) := by decide +kernel
theorem dX12_view_82 : decode cX12_view 82 = .ok (.iload_n 1, 1) := by decide +kernel
theorem dX12_view_83 : decode cX12_view 83 = .ok (.iadd, 1) := by decide +kernel
theorem dX12_view_84 : decode cX12_view 84 = .ok (.iaload, 1) := by decide +kernel
theorem dX12_view_85 : decode cX12_view 85 = .ok (.iload_n 2, 1) := by decide +kernel
theorem dX12_view_86 : decode cX12_view 86 = .ok (.ishr, 1) := by decide +kernel
theorem dX12_view_87 : decode cX12_view 87 = .ok (.iconst 1, 1) := by decide +kernel
theorem dX12_view_88 : decode cX12_view 88 = .ok (.iand, 1) := by decide +kernel
theorem dX12_view_89 : decode cX12_view 89 = .ok (.ireturn, 1) := by decide +kernel
theorem dX12_view_90 : decode cX12_view 90 = .ok (.aload_n 0, 1) := by decide +kernel
theorem dX12_view_91 : decode cX12_view 91 = .ok (.getfield 7, 3) := by decide +kernel
theorem dX12_view_94 : decode cX12_view 94 = .ok (.bipush 72, 2) := by decide +kernel
theorem dX12_view_96 : decode cX12_view 96 = .ok (.iload_n 1, 1) := by decide +kernel
theorem dX12_view_97 : decode cX12_view 97 = .ok (.iadd, 1) := by decide +kernel
theorem dX12_view_98 : decode cX12_view 98 = .ok (.iaload, 1) := by decide +kernel
theorem dX12_view_99 : decode cX12_view 99 = .ok (.iload_n 2, 1) := by decide +kernel
theorem dX12_view_100 : decode cX12_view 100 = .ok (.ishr, 1) := by decide +kernel
theorem dX12_view_101 : decode cX12_view 101 = .ok (.iconst 1, 1) := by decide +kernel
theorem dX12_view_102 : decode cX12_view 102 = .ok (.iand, 1) := by decide +kernel
theorem dX12_view_103 : decode cX12_view 103 = .ok (.ireturn, 1) := by decide +kernel
theorem dX12_view_104 : decode cX12_view 104 = .ok (.aload_n 0, 1) := by decide +kernel
theorem dX12_view_105 : decode cX12_view 105 = .ok (.iload_n 1, 1) := by decide +kernel
theorem dX12_view_106 : decode cX12_view 106 = .ok (.iload_n 2, 1) := by decide +kernel
theorem dX12_view_107 : decode cX12_view 107 = .ok (.invokevirtual 336, 3) := by decide +kernel
theorem dX12_view_110 : decode cX12_view 110 = .ok (.ireturn, 1) := by decide +kernel
theorem dX12_view_111 : decode cX12_view 111 = .ok (.aload_n 0, 1) := by decide +kernel
theorem dX12_view_112 : decode cX12_view 112 = .ok (.iload_n 1, 1) := by decide +kernel
theorem dX12_view_113 : decode cX12_view 113 = .ok (.iload_n 2, 1) := by decide +kernel
theorem dX12_view_114 : decode cX12_view 114 = .ok (.invokevirtual 316, 3) := by decide +kernel
theorem dX12_view_117 : decode cX12_view 117 = .ok (.ifCond .eq 7, 3) := by decide +kernel
theorem dX12_view_120 : decode cX12_view 120 = .ok (.iconst 1, 1) := by decide +kernel
theorem dX12_view_121 : decode cX12_view 121 = .ok (.goto 4, 3) := by decide +kernel
theorem dX12_view_124 : decode cX12_view 124 = .ok (.iconst 0, 1) := by decide +kernel
theorem dX12_view_125 : decode cX12_view 125 = .ok (.ireturn, 1) := by decide +kernel
theorem dX12_view_126 : decode cX12_view 126 = .ok (.aload_n 0, 1) := by decide +kernel
theorem dX12_view_127 : decode cX12_view 127 = .ok (.iload_n 1, 1) := by decide +kernel
theorem dX12_view_128 : decode cX12_view 128 = .ok (.iload_n 2, 1) := by decide +kernel
theorem dX12_view_129 : decode cX12_view 129 = .ok (.invokevirtual 360, 3) := by decide +kernel
theorem dX12_view_132 : decode cX12_view 132 = .ok (.ireturn, 1) := by decide +kernel
set_option maxRecDepth 20000 in
theorem ggX12_set_X12_isHonest : GoodIn wsX12_set wsX12_isHonest := goodIn_r _ [7, 2, 8, 9, 10, 6, 11, 12, 13, 14, 15, 25, 26, 27, 28, 29, 30, 31, 32, 33, 34, 35, 36, 37, 38, 39, 40, 41, 42, 43, 44, 45, 46, 47, 48, 49, 50, 51, 52, 53, 54, 55, 56, 57, 58, 59, 60, 61, 62] (by decide +kernel) (by decide +kernel)
set_option maxRecDepth 20000 in
theorem gX12_set_X12_isHonest : GoodIn wsX12_set (wsV RX12 357 RX12 yX12_isHonest wsX12_isHonest) := goodIn_app (goodIn_of _ (by decide +kernel)) ggX12_set_X12_isHonest
set_option maxRecDepth 20000 in
theorem ggX12_set_X12_within : GoodIn wsX12_set wsX12_within := goodIn_r _ [15] (by decide +kernel) (by decide +kernel)
set_option maxRecDepth 20000 in
theorem gX12_set_X12_within : GoodIn wsX12_set (va_wsS RX12 116 yX12_within wsX12_within) := goodIn_app (goodIn_of _ (by decide +kernel)) ggX12_set_X12_within
set_option maxRecDepth 20000 in
theorem ggX12_set_X12_acceptedOf : GoodIn wsX12_set wsX12_acceptedOf := goodIn_r _ [19, 20, 21, 2, 22, 23, 6, 24, 25, 26, 27, 28, 29, 30, 31, 32, 33, 34, 35, 36, 37, 38, 39, 40, 41, 42, 43, 44, 45, 46, 47, 48, 49, 50, 51, 52, 53, 54, 55, 56, 57, 58, 59, 60, 61, 62] (by decide +kernel) (by decide +kernel)
set_option maxRecDepth 20000 in
theorem gX12_set_X12_acceptedOf : GoodIn wsX12_set (wsV RX12 310 RX12 yX12_acceptedOf wsX12_acceptedOf) := goodIn_app (goodIn_of _ (by decide +kernel)) ggX12_set_X12_acceptedOf
theorem dX12_set_0 : decode cX12_set 0 = .ok (.aload_n 0, 1) := by decide +kernel
theorem dX12_set_1 : decode cX12_set 1 = .ok (.aload_n 0, 1) := by decide +kernel
theorem dX12_set_2 : decode cX12_set 2 = .ok (.iload_n 1, 1) := by decide +kernel
theorem dX12_set_3 : decode cX12_set 3 = .ok (.invokevirtual 357, 3) := by decide +kernel
theorem dX12_set_6 : decode cX12_set 6 = .ok (.ifCond .eq 26, 3) := by decide +kernel
theorem dX12_set_9 : decode cX12_set 9 = .ok (.iload_n 2, 1) := by decide +kernel
theorem dX12_set_10 : decode cX12_set 10 = .ok (.iconst 0, 1) := by decide +kernel
theorem dX12_set_11 : decode cX12_set 11 = .ok (.bipush 7, 2) := by decide +kernel
theorem dX12_set_13 : decode cX12_set 13 = .ok (.invokestatic 116, 3) := by decide +kernel
theorem dX12_set_16 : decode cX12_set 16 = .ok (.ifCond .eq 16, 3) := by decide +kernel
theorem dX12_set_19 : decode cX12_set 19 = .ok (.iload_n 3, 1) := by decide +kernel
theorem dX12_set_20 : decode cX12_set 20 = .ok (.iconst 0, 1) := by decide +kernel
theorem dX12_set_21 : decode cX12_set 21 = .ok (.iconst 3, 1) := by decide +kernel
theorem dX12_set_22 : decode cX12_set 22 = .ok (.invokestatic 116, 3) := by decide +kernel
theorem dX12_set_25 : decode cX12_set 25 = .ok (.ifCond .eq 7, 3) := by decide +kernel
theorem dX12_set_28 : decode cX12_set 28 = .ok (.iconst 0, 1) := by decide +kernel
theorem dX12_set_29 : decode cX12_set 29 = .ok (.goto 4, 3) := by decide +kernel
theorem dX12_set_32 : decode cX12_set 32 = .ok (.iconst 1, 1) := by decide +kernel
theorem dX12_set_33 : decode cX12_set 33 = .ok (.putfield 97, 3) := by decide +kernel
theorem dX12_set_36 : decode cX12_set 36 = .ok (.aload_n 0, 1) := by decide +kernel
theorem dX12_set_37 : decode cX12_set 37 = .ok (.getfield 97, 3) := by decide +kernel
theorem dX12_set_40 : decode cX12_set 40 = .ok (.iconst 1, 1) := by decide +kernel
theorem dX12_set_41 : decode cX12_set 41 = .ok (.if_icmp .ne 5, 3) := by decide +kernel
theorem dX12_set_44 : decode cX12_set 44 = .ok (.iconst 0, 1) := by decide +kernel
theorem dX12_set_45 : decode cX12_set 45 = .ok (.ireturn, 1) := by decide +kernel
theorem dX12_set_46 : decode cX12_set 46 = .ok (.bipush 8, 2) := by decide +kernel
theorem dX12_set_48 : decode cX12_set 48 = .ok (.iload_n 1, 1) := by decide +kernel
theorem dX12_set_49 : decode cX12_set 49 = .ok (.imul, 1) := by decide +kernel
theorem dX12_set_50 : decode cX12_set 50 = .ok (.iload_n 2, 1) := by decide +kernel
