theorem dX11_would_1 : decode cX11_would 1 = .ok (.iload_n 1, 1) := by decide +kernel
theorem dX11_would_2 : decode cX11_would 2 = .ok (.iload_n 2, 1) := by decide +kernel
theorem dX11_would_3 : decode cX11_would 3 = .ok (.invokevirtual 150, 3) := by decide +kernel
theorem dX11_would_6 : decode cX11_would 6 = .ok (.ifCond .ne 5, 3) := by decide +kernel
theorem dX11_would_9 : decode cX11_would 9 = .ok (.iconst (-1), 1) := by decide +kernel
theorem dX11_would_10 : decode cX11_would 10 = .ok (.ireturn, 1) := by decide +kernel
theorem dX11_would_11 : decode cX11_would 11 = .ok (.aload_n 0, 1) := by decide +kernel
theorem dX11_would_12 : decode cX11_would 12 = .ok (.getfield 19, 3) := by decide +kernel
theorem dX11_would_15 : decode cX11_would 15 = .ok (.getfield 143, 3) := by decide +kernel
theorem dX11_would_18 : decode cX11_would 18 = .ok (.iconst 0, 1) := by decide +kernel
theorem dX11_would_19 : decode cX11_would 19 = .ok (.aload_n 0, 1) := by decide +kernel
theorem dX11_would_20 : decode cX11_would 20 = .ok (.getfield 77, 3) := by decide +kernel
theorem dX11_would_23 : decode cX11_would 23 = .ok (.iconst 0, 1) := by decide +kernel
theorem dX11_would_24 : decode cX11_would 24 = .ok (.bipush 8, 2) := by decide +kernel
theorem dX11_would_26 : decode cX11_would 26 = .ok (.invokestatic 156, 3) := by decide +kernel
theorem dX11_would_29 : decode cX11_would 29 = .ok (.aload_n 0, 1) := by decide +kernel
theorem dX11_would_30 : decode cX11_would 30 = .ok (.getfield 35, 3) := by decide +kernel
theorem dX11_would_33 : decode cX11_would 33 = .ok (.aload_n 0, 1) := by decide +kernel
theorem dX11_would_34 : decode cX11_would 34 = .ok (.getfield 77, 3) := by decide +kernel
theorem dX11_would_37 : decode cX11_would 37 = .ok (.iload_n 1, 1) := by decide +kernel
theorem dX11_would_38 : decode cX11_would 38 = .ok (.aload_n 0, 1) := by decide +kernel
theorem dX11_would_39 : decode cX11_would 39 = .ok (.getfield 35, 3) := by decide +kernel
theorem dX11_would_42 : decode cX11_would 42 = .ok (.iload_n 2, 1) := by decide +kernel
theorem dX11_would_43 : decode cX11_would 43 = .ok (.invokevirtual 162, 3) := by decide +kernel
theorem dX11_would_46 : decode cX11_would 46 = .ok (.iload_n 2, 1) := by decide +kernel
theorem dX11_would_47 : decode cX11_would 47 = .ok (.invokevirtual 166, 3) := by decide +kernel
theorem dX11_would_50 : decode cX11_would 50 = .ok (.aload_n 0, 1) := by decide +kernel
theorem dX11_would_51 : decode cX11_would 51 = .ok (.getfield 19, 3) := by decide +kernel
theorem dX11_would_54 : decode cX11_would 54 = .ok (.getfield 143, 3) := by decide +kernel
theorem dX11_would_57 : decode cX11_would 57 = .ok (.iload_n 1, 1) := by decide +kernel
theorem dX11_would_58 : decode cX11_would 58 = .ok (.iaload, 1) := by decide +kernel
theorem dX11_would_59 : decode cX11_would 59 = .ok (.aload_n 0, 1) := by decide +kernel
theorem dX11_would_60 : decode cX11_would 60 = .ok (.getfield 77, 3) := by decide +kernel
theorem dX11_would_63 : decode cX11_would 63 = .ok (.iload_n 1, 1) := by decide +kernel
theorem dX11_would_64 : decode cX11_would 64 = .ok (.iaload, 1) := by decide +kernel
theorem dX11_would_65 : decode cX11_would 65 = .ok (.invokestatic 170, 3) := by decide +kernel
theorem dX11_would_68 : decode cX11_would 68 = .ok (.ireturn, 1) := by decide +kernel
set_option maxRecDepth 20000 in
theorem ggX11_run_X11_keep : GoodIn wsX11_run wsX11_keep := goodIn_r _ [8, 9, 10, 11, 12, 13, 14, 15, 16, 17, 18, 19, 20, 21, 22, 23, 24, 25, 26, 27, 28, 29, 30, 31, 32, 33, 34, 35, 36, 37, 38, 39, 167, 168, 169, 170, 171, 172, 173, 174, 175, 176, 177, 178, 179, 180, 181, 182, 192, 193, 194, 195, 196, 197, 198] (by decide +kernel) (by decide +kernel)
set_option maxRecDepth 20000 in
theorem gX11_run_X11_keep : GoodIn wsX11_run (wsV RX11 130 RX11 yX11_keep wsX11_keep) := goodIn_app (goodIn_of _ (by decide +kernel)) ggX11_run_X11_keep
set_option maxRecDepth 20000 in
theorem ggX11_run_X11_draw : GoodIn wsX11_run wsX11_draw := goodIn_r _ [43, 1, 44, 167, 168, 169, 170, 171, 172, 173, 174, 175, 176, 177, 178, 179, 180, 181, 182] (by decide +kernel) (by decide +kernel)
set_option maxRecDepth 20000 in
theorem gX11_run_X11_draw : GoodIn wsX11_run (wsV RX11 178 RX11 yX11_draw wsX11_draw) := goodIn_app (goodIn_of _ (by decide +kernel)) ggX11_run_X11_draw
set_option maxRecDepth 20000 in
theorem ggX11_run_X11_drawSample : GoodIn wsX11_run wsX11_drawSample := goodIn_r _ [48, 2, 49, 3, 50, 51, 52, 53, 54, 55, 40, 41, 42, 7, 43, 1, 44, 56, 57, 58, 167, 168, 169, 170, 171, 172, 173, 174, 175, 176, 177, 178, 179, 180, 181, 182, 183, 184, 185, 186, 187, 188, 189, 190, 191] (by decide +kernel) (by decide +kernel)
set_option maxRecDepth 20000 in
theorem gX11_run_X11_drawSample : GoodIn wsX11_run (wsV RX11 181 RX11 yX11_drawSample wsX11_drawSample) := goodIn_app (goodIn_of _ (by decide +kernel)) ggX11_run_X11_drawSample
set_option maxRecDepth 20000 in
theorem ggX11_run_X11_canAsk : GoodIn wsX11_run wsX11_canAsk := goodIn_r _ [62, 2, 63, 11, 64, 65, 66, 67, 53, 68, 69, 70, 71, 72, 73, 55, 74, 51, 52, 54, 75, 76, 77, 78, 79, 80, 81, 82, 83, 84, 85, 86, 87, 88, 89, 90, 91, 92, 93, 94, 95, 21, 96, 97, 98, 99, 100, 101, 102, 103, 104, 29, 105, 106, 107, 108, 109, 110, 111, 167, 168, 169, 170, 171, 172, 173, 174, 175, 176, 177, 178, 179, 180, 181, 182, 192, 193, 194, 195, 183, 184, 185, 186, 187, 188, 189, 190, 191, 199, 200, 201, 202, 203] (by decide +kernel) (by decide +kernel)
set_option maxRecDepth 20000 in
theorem gX11_run_X11_canAsk : GoodIn wsX11_run (wsV RX11 150 RX11 yX11_canAsk wsX11_canAsk) := goodIn_app (goodIn_of _ (by decide +kernel)) ggX11_run_X11_canAsk
set_option maxRecDepth 20000 in
theorem ggX11_run_X11_ask : GoodIn wsX11_run wsX11_ask := goodIn_r _ [115, 11, 64, 63, 116, 117, 118, 119, 85, 120, 88, 92, 121, 87, 122, 76, 77, 78, 79, 80, 81, 123, 124, 125, 126, 89, 127, 128, 94, 95, 21, 96, 129, 130, 131, 132, 93, 133, 134, 135, 136, 137, 138, 139, 140, 141, 142, 143, 144, 145, 146, 147, 148, 14, 15, 16, 149, 150, 151, 152, 153, 154, 155, 156, 157, 158, 159, 160, 161, 162, 163, 100, 164, 165, 166, 97, 98, 99, 167, 168, 169, 170, 171, 172, 173, 174, 175, 176, 177, 178, 179, 180, 181, 182, 192, 193, 194, 195, 199, 200, 201, 202, 203, 183, 184, 185, 186, 187, 188, 189, 190, 191] (by decide +kernel) (by decide +kernel)
set_option maxRecDepth 20000 in
theorem gX11_run_X11_ask : GoodIn wsX11_run (wsV RX11 153 RX11 yX11_ask wsX11_ask) := goodIn_app (goodIn_of _ (by decide +kernel)) ggX11_run_X11_ask
theorem dX11_run_0 : decode cX11_run 0 = .ok (.iload_n 1, 1) := by decide +kernel
theorem dX11_run_1 : decode cX11_run 1 = .ok (.iconst 1, 1) := by decide +kernel
theorem dX11_run_2 : decode cX11_run 2 = .ok (.if_icmp .lt 10, 3) := by decide +kernel
theorem dX11_run_5 : decode cX11_run 5 = .ok (.iload_n 1, 1) := by decide +kernel
theorem dX11_run_6 : decode cX11_run 6 = .ok (.sipush 300, 3) := by decide +kernel
theorem dX11_run_9 : decode cX11_run 9 = .ok (.if_icmp .le 5, 3) := by decide +kernel
theorem dX11_run_12 : decode cX11_run 12 = .ok (.iconst (-1), 1) := by decide +kernel
theorem dX11_run_13 : decode cX11_run 13 = .ok (.ireturn, 1) := by decide +kernel
theorem dX11_run_14 : decode cX11_run 14 = .ok (.aload_n 0, 1) := by decide +kernel
theorem dX11_run_15 : decode cX11_run 15 = .ok (.invokevirtual 130, 3) := by decide +kernel
theorem dX11_run_18 : decode cX11_run 18 = .ok (.aload_n 0, 1) := by decide +kernel
theorem dX11_run_19 : decode cX11_run 19 = .ok (.iload_n 2, 1) := by decide +kernel
theorem dX11_run_20 : decode cX11_run 20 = .ok (.putfield 173, 3) := by decide +kernel
theorem dX11_run_23 : decode cX11_run 23 = .ok (.iconst 0, 1) := by decide +kernel
theorem dX11_run_24 : decode cX11_run 24 = .ok (.istore_n 3, 1) := by decide +kernel
theorem dX11_run_25 : decode cX11_run 25 = .ok (.iconst 0, 1) := by decide +kernel
theorem dX11_run_26 : decode cX11_run 26 = .ok (.istore 4, 2) := by decide +kernel
theorem dX11_run_28 : decode cX11_run 28 = .ok (.iload 4, 2) := by decide +kernel
theorem dX11_run_30 : decode cX11_run 30 = .ok (.iload_n 1, 1) := by decide +kernel
theorem dX11_run_31 : decode cX11_run 31 = .ok (.if_icmp .ge 56, 3) := by decide +kernel
theorem dX11_run_34 : decode cX11_run 34 = .ok (.aload_n 0, 1) := by decide +kernel
theorem dX11_run_35 : decode cX11_run 35 = .ok (.aload_n 0, 1) := by decide +kernel
theorem dX11_run_36 : decode cX11_run 36 = .ok (.getfield 10, 3) := by decide +kernel
theorem dX11_run_39 : decode cX11_run 39 = .ok (.getfield 176, 3) := by decide +kernel
theorem dX11_run_42 : decode cX11_run 42 = .ok (.invokevirtual 178, 3) := by decide +kernel
theorem dX11_run_45 : decode cX11_run 45 = .ok (.istore 5, 2) := by decide +kernel
theorem dX11_run_47 : decode cX11_run 47 = .ok (.aload_n 0, 1) := by decide +kernel
theorem dX11_run_48 : decode cX11_run 48 = .ok (.iload 5, 2) := by decide +kernel
theorem dX11_run_50 : decode cX11_run 50 = .ok (.invokevirtual 181, 3) := by decide +kernel
theorem dX11_run_53 : decode cX11_run 53 = .ok (.istore 6, 2) := by decide +kernel
theorem dX11_run_55 : decode cX11_run 55 = .ok (.aload_n 0, 1) := by decide +kernel
theorem dX11_run_56 : decode cX11_run 56 = .ok (.iload 5, 2) := by decide +kernel
theorem dX11_run_58 : decode cX11_run 58 = .ok (.iload 6, 2) := by decide +kernel
theorem dX11_run_60 : decode cX11_run 60 = .ok (.invokevirtual 150, 3) := by decide +kernel
theorem dX11_run_63 : decode cX11_run 63 = .ok (.ifCond .eq 18, 3) := by decide +kernel
theorem dX11_run_66 : decode cX11_run 66 = .ok (.aload_n 0, 1) := by decide +kernel
theorem dX11_run_67 : decode cX11_run 67 = .ok (.iload 5, 2) := by decide +kernel
theorem dX11_run_69 : decode cX11_run 69 = .ok (.iload 6, 2) := by decide +kernel
theorem dX11_run_71 : decode cX11_run 71 = .ok (.invokevirtual 153, 3) := by decide +kernel
theorem dX11_run_74 : decode cX11_run 74 = .ok (.iconst 2, 1) := by decide +kernel
theorem dX11_run_75 : decode cX11_run 75 = .ok (.if_icmp .ne 6, 3) := by decide +kernel
theorem dX11_run_78 : decode cX11_run 78 = .ok (.iinc 3 1, 3) := by decide +kernel
theorem dX11_run_81 : decode cX11_run 81 = .ok (.iinc 4 1, 3) := by decide +kernel
theorem dX11_run_84 : decode cX11_run 84 = .ok (.goto (-56), 3) := by decide +kernel
theorem dX11_run_87 : decode cX11_run 87 = .ok (.iload_n 3, 1) := by decide +kernel
theorem dX11_run_88 : decode cX11_run 88 = .ok (.ireturn, 1) := by decide +kernel
set_option maxRecDepth 20000 in
theorem ggX11_node_X7_isNode : GoodIn wsX11_node wsX7_isNode := goodIn_r _ [10, 11, 49, 50, 51, 52, 53, 54, 55, 56, 57] (by decide +kernel) (by decide +kernel)
set_option maxRecDepth 20000 in
theorem gX11_node_X7_isNode : GoodIn wsX11_node (wsV RX11 126 RX7 yX7_isNode wsX7_isNode) := goodIn_app (goodIn_of _ (by decide +kernel)) ggX11_node_X7_isNode
set_option maxRecDepth 20000 in
theorem ggX11_node_X4_colourOf : GoodIn wsX11_node wsX4_colourOf := goodIn_r _ [15] (by decide +kernel) (by decide +kernel)
set_option maxRecDepth 20000 in
theorem gX11_node_X4_colourOf : GoodIn wsX11_node (va_wsS RX11 184 yX4_colourOf wsX4_colourOf) := goodIn_app (goodIn_of _ (by decide +kernel)) ggX11_node_X4_colourOf
set_option maxRecDepth 20000 in
theorem ggX11_node_X4_lastOf : GoodIn wsX11_node wsX4_lastOf := goodIn_r _ [18] (by decide +kernel) (by decide +kernel)
set_option maxRecDepth 20000 in
theorem gX11_node_X4_lastOf : GoodIn wsX11_node (va_wsS RX11 187 yX4_lastOf wsX4_lastOf) := goodIn_app (goodIn_of _ (by decide +kernel)) ggX11_node_X4_lastOf
set_option maxRecDepth 20000 in
theorem ggX11_node_X4_counterOf : GoodIn wsX11_node wsX4_counterOf := goodIn_r _ [21] (by decide +kernel) (by decide +kernel)
set_option maxRecDepth 20000 in
theorem gX11_node_X4_counterOf : GoodIn wsX11_node (va_wsS RX11 190 yX4_counterOf wsX4_counterOf) := goodIn_app (goodIn_of _ (by decide +kernel)) ggX11_node_X4_counterOf
set_option maxRecDepth 20000 in
theorem ggX11_node_X4_confidenceOf : GoodIn wsX11_node wsX4_confidenceOf := goodIn_r _ [24] (by decide +kernel) (by decide +kernel)
set_option maxRecDepth 20000 in
theorem gX11_node_X4_confidenceOf : GoodIn wsX11_node (va_wsS RX11 193 yX4_confidenceOf wsX4_confidenceOf) := goodIn_app (goodIn_of _ (by decide +kernel)) ggX11_node_X4_confidenceOf
set_option maxRecDepth 20000 in
theorem ggX11_node_X4_isDecided : GoodIn wsX11_node wsX4_isDecided := goodIn_r _ [27, 28] (by decide +kernel) (by decide +kernel)
set_option maxRecDepth 20000 in
theorem gX11_node_X4_isDecided : GoodIn wsX11_node (va_wsS RX11 196 yX4_isDecided wsX4_isDecided) := goodIn_app (goodIn_of _ (by decide +kernel)) ggX11_node_X4_isDecided
theorem dX11_node_0 : decode cX11_node 0 = .ok (.aload_n 0, 1) := by decide +kernel
theorem dX11_node_1 : decode cX11_node 1 = .ok (.getfield 10, 3) := by decide +kernel
theorem dX11_node_4 : decode cX11_node 4 = .ok (.iload_n 1, 1) := by decide +kernel
theorem dX11_node_5 : decode cX11_node 5 = .ok (.invokevirtual 126, 3) := by decide +kernel
theorem dX11_node_8 : decode cX11_node 8 = .ok (.ifCond .ne 6, 3) := by decide +kernel
theorem dX11_node_11 : decode cX11_node 11 = .ok (.bipush (-2), 2) := by decide +kernel
theorem dX11_node_13 : decode cX11_node 13 = .ok (.ireturn, 1) := by decide +kernel
theorem dX11_node_14 : decode cX11_node 14 = .ok (.aload_n 0, 1) := by decide +kernel
theorem dX11_node_15 : decode cX11_node 15 = .ok (.getfield 19, 3) := by decide +kernel
theorem dX11_node_18 : decode cX11_node 18 = .ok (.getfield 143, 3) := by decide +kernel
theorem dX11_node_21 : decode cX11_node 21 = .ok (.iload_n 1, 1) := by decide +kernel
theorem dX11_node_22 : decode cX11_node 22 = .ok (.iaload, 1) := by decide +kernel
theorem dX11_node_23 : decode cX11_node 23 = .ok (.istore_n 3, 1) := by decide +kernel
theorem dX11_node_24 : decode cX11_node 24 = .ok (.iload_n 2, 1) := by decide +kernel
theorem dX11_node_25 : decode cX11_node 25 = .ok (.tableswitch 104 0 7 #[47, 52, 57, 62, 68, 74, 87, 97], 47) := by decide +kernel
theorem dX11_node_72 : decode cX11_node 72 = .ok (.iload_n 3, 1) := by decide +kernel
theorem dX11_node_73 : decode cX11_node 73 = .ok (.invokestatic 184, 3) := by decide +kernel
theorem dX11_node_76 : decode cX11_node 76 = .ok (.ireturn, 1) := by decide +kernel
theorem dX11_node_77 : decode cX11_node 77 = .ok (.iload_n 3, 1) := by decide +kernel
theorem dX11_node_78 : decode cX11_node 78 = .ok (.invokestatic 187, 3) := by decide +kernel
theorem dX11_node_81 : decode cX11_node 81 = .ok (.ireturn, 1) := by decide +kernel
theorem dX11_node_82 : decode cX11_node 82 = .ok (.iload_n 3, 1) := by decide +kernel
theorem dX11_node_83 : decode cX11_node 83 = .ok (.invokestatic 190, 3) := by decide +kernel
theorem dX11_node_86 : decode cX11_node 86 = .ok (.ireturn, 1) := by decide +kernel
theorem dX11_node_87 : decode cX11_node 87 = .ok (.iload_n 3, 1) := by decide +kernel
theorem dX11_node_88 : decode cX11_node 88 = .ok (.iconst 0, 1) := by decide +kernel
theorem dX11_node_89 : decode cX11_node 89 = .ok (.invokestatic 193, 3) := by decide +kernel
theorem dX11_node_92 : decode cX11_node 92 = .ok (.ireturn, 1) := by decide +kernel
theorem dX11_node_93 : decode cX11_node 93 = .ok (.iload_n 3, 1) := by decide +kernel
theorem dX11_node_94 : decode cX11_node 94 = .ok (.iconst 1, 1) := by decide +kernel
theorem dX11_node_95 : decode cX11_node 95 = .ok (.invokestatic 193, 3) := by decide +kernel
theorem dX11_node_98 : decode cX11_node 98 = .ok (.ireturn, 1) := by decide +kernel
theorem dX11_node_99 : decode cX11_node 99 = .ok (.iload_n 3, 1) := by decide +kernel
theorem dX11_node_100 : decode cX11_node 100 = .ok (.invokestatic 196, 3) := by decide +kernel
theorem dX11_node_103 : decode cX11_node 103 = .ok (.ifCond .eq 7, 3) := by decide +kernel
theorem dX11_node_106 : decode cX11_node 106 = .ok (.iconst 1, 1) := by decide +kernel
theorem dX11_node_107 : decode cX11_node 107 = .ok (.goto 4, 3) := by decide +kernel
theorem dX11_node_110 : decode cX11_node 110 = .ok (.iconst 0, 1) := by decide +kernel
theorem dX11_node_111 : decode cX11_node 111 = .ok (.ireturn, 1) := by decide +kernel
theorem dX11_node_112 : decode cX11_node 112 = .ok (.aload_n 0, 1) := by decide +kernel
theorem dX11_node_113 : decode cX11_node 113 = .ok (.getfield 19, 3) := by decide +kernel
theorem dX11_node_116 : decode cX11_node 116 = .ok (.getfield 133, 3) := by decide +kernel
theorem dX11_node_119 : decode cX11_node 119 = .ok (.iload_n 1, 1) := by decide +kernel
theorem dX11_node_120 : decode cX11_node 120 = .ok (.iaload, 1) := by decide +kernel
theorem dX11_node_121 : decode cX11_node 121 = .ok (.ireturn, 1) := by decide +kernel
theorem dX11_node_122 : decode cX11_node 122 = .ok (.aload_n 0, 1) := by decide +kernel
theorem dX11_node_123 : decode cX11_node 123 = .ok (.getfield 81, 3) := by decide +kernel
theorem dX11_node_126 : decode cX11_node 126 = .ok (.iload_n 1, 1) := by decide +kernel
theorem dX11_node_127 : decode cX11_node 127 = .ok (.iaload, 1) := by decide +kernel
theorem dX11_node_128 : decode cX11_node 128 = .ok (.ireturn, 1) := by decide +kernel
theorem dX11_node_129 : decode cX11_node 129 = .ok (.bipush (-2), 2) := by decide +kernel
theorem dX11_node_131 : decode cX11_node 131 = .ok (.ireturn, 1) := by decide +kernel
set_option maxRecDepth 20000 in
theorem ggX11_exact_X11_isTold : GoodIn wsX11_exact wsX11_isTold := goodIn_r _ [14] (by decide +kernel) (by decide +kernel)
set_option maxRecDepth 20000 in
theorem gX11_exact_X11_isTold : GoodIn wsX11_exact (va_wsS RX11 199 yX11_isTold wsX11_isTold) := goodIn_app (goodIn_of _ (by decide +kernel)) ggX11_exact_X11_isTold
set_option maxRecDepth 20000 in
theorem ggX11_exact_X7_ways : GoodIn wsX11_exact wsX7_ways := goodIn_r _ [19, 20, 21, 22, 23, 24, 25, 26, 27, 28, 282, 283, 284, 285, 286, 287, 288, 289, 290] (by decide +kernel) (by decide +kernel)
set_option maxRecDepth 20000 in
theorem gX11_exact_X7_ways : GoodIn wsX11_exact (wsV RX11 204 RX7 yX7_ways wsX7_ways) := goodIn_app (goodIn_of _ (by decide +kernel)) ggX11_exact_X7_ways
set_option maxRecDepth 20000 in
theorem ggX11_exact_X5_reach : GoodIn wsX11_exact wsX5_reach := goodIn_r _ [33, 34, 35, 36, 37, 38, 39, 40, 32, 41, 42, 43, 44, 45, 46, 47, 48, 49, 50, 51, 52, 53, 54, 55, 56, 57, 58, 59, 60, 61, 62, 63, 64, 65, 66, 67, 68, 69, 70, 71, 72, 73, 74, 75, 76, 77, 78, 79, 80, 81, 82, 83, 84, 85, 86, 87, 88, 89, 90, 91, 92, 93, 94, 95, 96, 97, 98, 99, 100, 101, 102, 103, 104, 105, 106, 107, 108, 109, 110, 111, 112, 113, 114, 115, 116, 117, 118, 119, 120, 121, 122, 123, 124, 125, 126, 127, 128, 129, 130, 131, 132, 133, 134, 135, 136, 137, 138, 139, 140, 141, 142, 143, 144, 145, 146, 147, 148, 149, 150, 151, 152, 153, 154, 155, 156, 157, 158, 159, 160, 161, 162, 18, 163, 20, 164, 165, 166, 167, 168, 169, 170, 171, 172, 173, 174, 175, 176, 177, 178, 179, 180, 181, 182, 183, 184, 185, 186, 187, 188, 189, 190, 191, 192, 193, 194, 195, 196, 197, 198, 199, 200, 201, 202, 203, 204, 205, 206, 207, 208, 209, 210, 211, 212, 213, 214, 215, 216, 217, 218, 219, 220, 221, 222, 223, 224, 225, 226, 227, 228, 229, 230, 231, 232, 233, 234, 235, 236, 237, 238, 239, 240, 241, 242, 243, 244, 245, 246, 247, 248, 269, 270, 271, 272, 273, 274, 275, 276, 277, 278, 279, 280, 281, 291, 292, 293, 282, 283, 284, 285, 286, 287, 288, 289, 290, 294, 295, 296, 297, 298, 265, 266, 267, 268] (by decide +kernel) (by decide +kernel)
set_option maxRecDepth 20000 in
theorem gX11_exact_X5_reach : GoodIn wsX11_exact (wsV RX11 210 RX5 yX5_reach wsX5_reach) := goodIn_app (goodIn_of _ (by decide +kernel)) ggX11_exact_X5_reach
theorem dX11_exact_0 : decode cX11_exact 0 = .ok (.iload_n 1, 1) := by decide +kernel
theorem dX11_exact_1 : decode cX11_exact 1 = .ok (.invokestatic 199, 3) := by decide +kernel
theorem dX11_exact_4 : decode cX11_exact 4 = .ok (.ifCond .eq 12, 3) := by decide +kernel
theorem dX11_exact_7 : decode cX11_exact 7 = .ok (.iload_n 2, 1) := by decide +kernel
theorem dX11_exact_8 : decode cX11_exact 8 = .ok (.ifCond .lt 8, 3) := by decide +kernel
theorem dX11_exact_11 : decode cX11_exact 11 = .ok (.iload_n 2, 1) := by decide +kernel
theorem dX11_exact_12 : decode cX11_exact 12 = .ok (.iconst 2, 1) := by decide +kernel
theorem dX11_exact_13 : decode cX11_exact 13 = .ok (.if_icmp .le 7, 3) := by decide +kernel
theorem dX11_exact_16 : decode cX11_exact 16 = .ok (.ldc2_w 202, 3) := by decide +kernel
theorem dX11_exact_19 : decode cX11_exact 19 = .ok (.lreturn, 1) := by decide +kernel
theorem dX11_exact_20 : decode cX11_exact 20 = .ok (.aload_n 0, 1) := by decide +kernel
theorem dX11_exact_21 : decode cX11_exact 21 = .ok (.getfield 10, 3) := by decide +kernel
theorem dX11_exact_24 : decode cX11_exact 24 = .ok (.iload_n 1, 1) := by decide +kernel
theorem dX11_exact_25 : decode cX11_exact 25 = .ok (.invokevirtual 204, 3) := by decide +kernel
theorem dX11_exact_28 : decode cX11_exact 28 = .ok (.lstore_n 3, 1) := by decide +kernel
theorem dX11_exact_29 : decode cX11_exact 29 = .ok (.lload_n 3, 1) := by decide +kernel
theorem dX11_exact_30 : decode cX11_exact 30 = .ok (.ldc2_w 208, 3) := by decide +kernel
theorem dX11_exact_33 : decode cX11_exact 33 = .ok (.lcmp, 1) := by decide +kernel
theorem dX11_exact_34 : decode cX11_exact 34 = .ok (.ifCond .eq 7, 3) := by decide +kernel
theorem dX11_exact_37 : decode cX11_exact 37 = .ok (.iload_n 2, 1) := by decide +kernel
theorem dX11_exact_38 : decode cX11_exact 38 = .ok (.ifCond .ne 5, 3) := by decide +kernel
theorem dX11_exact_41 : decode cX11_exact 41 = .ok (.lload_n 3, 1) := by decide +kernel
theorem dX11_exact_42 : decode cX11_exact 42 = .ok (.lreturn, 1) := by decide +kernel
theorem dX11_exact_43 : decode cX11_exact 43 = .ok (.aload_n 0, 1) := by decide +kernel
theorem dX11_exact_44 : decode cX11_exact 44 = .ok (.getfield 53, 3) := by decide +kernel
theorem dX11_exact_47 : decode cX11_exact 47 = .ok (.iload_n 1, 1) := by decide +kernel
theorem dX11_exact_48 : decode cX11_exact 48 = .ok (.aload_n 0, 1) := by decide +kernel
theorem dX11_exact_49 : decode cX11_exact 49 = .ok (.getfield 19, 3) := by decide +kernel
theorem dX11_exact_52 : decode cX11_exact 52 = .ok (.getfield 143, 3) := by decide +kernel
theorem dX11_exact_55 : decode cX11_exact 55 = .ok (.aload_n 0, 1) := by decide +kernel
theorem dX11_exact_56 : decode cX11_exact 56 = .ok (.getfield 84, 3) := by decide +kernel
theorem dX11_exact_59 : decode cX11_exact 59 = .ok (.invokevirtual 210, 3) := by decide +kernel
theorem dX11_exact_62 : decode cX11_exact 62 = .ok (.ifCond .ne 7, 3) := by decide +kernel
theorem dX11_exact_65 : decode cX11_exact 65 = .ok (.ldc2_w 214, 3) := by decide +kernel
theorem dX11_exact_68 : decode cX11_exact 68 = .ok (.lreturn, 1) := by decide +kernel
theorem dX11_exact_69 : decode cX11_exact 69 = .ok (.iload_n 2, 1) := by decide +kernel
theorem dX11_exact_70 : decode cX11_exact 70 = .ok (.iconst 1, 1) := by decide +kernel
theorem dX11_exact_71 : decode cX11_exact 71 = .ok (.if_icmp .ne 15, 3) := by decide +kernel
theorem dX11_exact_74 : decode cX11_exact 74 = .ok (.aload_n 0, 1) := by decide +kernel
theorem dX11_exact_75 : decode cX11_exact 75 = .ok (.getfield 53, 3) := by decide +kernel
theorem dX11_exact_78 : decode cX11_exact 78 = .ok (.getfield 216, 3) := by decide +kernel
theorem dX11_exact_81 : decode cX11_exact 81 = .ok (.iload_n 1, 1) := by decide +kernel
theorem dX11_exact_82 : decode cX11_exact 82 = .ok (.laload, 1) := by decide +kernel
theorem dX11_exact_83 : decode cX11_exact 83 = .ok (.goto 12, 3) := by decide +kernel
theorem dX11_exact_86 : decode cX11_exact 86 = .ok (.aload_n 0, 1) := by decide +kernel
theorem dX11_exact_87 : decode cX11_exact 87 = .ok (.getfield 53, 3) := by decide +kernel
theorem dX11_exact_90 : decode cX11_exact 90 = .ok (.getfield 220, 3) := by decide +kernel
theorem dX11_exact_93 : decode cX11_exact 93 = .ok (.iload_n 1, 1) := by decide +kernel
theorem dX11_exact_94 : decode cX11_exact 94 = .ok (.laload, 1) := by decide +kernel
theorem dX11_exact_95 : decode cX11_exact 95 = .ok (.lreturn, 1) := by decide +kernel
set_option maxRecDepth 20000 in
theorem ggX11_colours_X11_isTold : GoodIn wsX11_colours wsX11_isTold := goodIn_r _ [14] (by decide +kernel) (by decide +kernel)
set_option maxRecDepth 20000 in
theorem gX11_colours_X11_isTold : GoodIn wsX11_colours (va_wsS RX11 199 yX11_isTold wsX11_isTold) := goodIn_app (goodIn_of _ (by decide +kernel)) ggX11_colours_X11_isTold
set_option maxRecDepth 20000 in
theorem ggX11_colours_X7_ways : GoodIn wsX11_colours wsX7_ways := goodIn_r _ [19, 20, 21, 22, 23, 24, 25, 26, 27, 28, 265, 266, 267, 268, 269, 270, 271, 272, 273] (by decide +kernel) (by decide +kernel)
set_option maxRecDepth 20000 in
theorem gX11_colours_X7_ways : GoodIn wsX11_colours (wsV RX11 204 RX7 yX7_ways wsX7_ways) := goodIn_app (goodIn_of _ (by decide +kernel)) ggX11_colours_X7_ways
set_option maxRecDepth 20000 in
theorem ggX11_colours_X5_reach : GoodIn wsX11_colours wsX5_reach := goodIn_r _ [33, 34, 35, 36, 37, 38, 39, 40, 32, 41, 42, 43, 44, 45, 46, 47, 48, 49, 50, 51, 52, 53, 54, 55, 56, 57, 58, 59, 60, 61, 62, 63, 64, 65, 66, 67, 68, 69, 70, 71, 72, 73, 74, 75, 76, 77, 78, 79, 80, 81, 82, 83, 84, 85, 86, 87, 88, 89, 90, 91, 92, 93, 94, 95, 96, 97, 98, 99, 100, 101, 102, 103, 104, 105, 106, 107, 108, 109, 110, 111, 112, 113, 114, 115, 116, 117, 118, 119, 120, 121, 122, 123, 124, 125, 126, 127, 128, 129, 130, 131, 132, 133, 134, 135, 136, 137, 138, 139, 140, 141, 142, 143, 144, 145, 146, 147, 148, 149, 150, 151, 152, 153, 154, 155, 156, 157, 158, 159, 160, 161, 162, 18, 163, 20, 164, 165, 166, 167, 168, 169, 170, 171, 172, 173, 174, 175, 176, 177, 178, 179, 180, 181, 182, 183, 184, 185, 186, 187, 188, 189, 190, 191, 192, 193, 194, 195, 196, 197, 198, 199, 200, 201, 202, 203, 204, 205, 206, 207, 208, 209, 210, 211, 212, 213, 214, 215, 216, 217, 218, 219, 220, 221, 222, 223, 224, 225, 226, 227, 228, 229, 230, 231, 232, 233, 234, 235, 236, 237, 238, 239, 240, 241, 242, 243, 244, 245, 246, 247, 248, 278, 279, 280, 281, 282, 283, 284, 285, 286, 287, 288, 289, 290, 291, 292, 293, 265, 266, 267, 268, 269, 270, 271, 272, 273, 294, 295, 296, 297, 298, 274, 275, 276, 277] (by decide +kernel) (by decide +kernel)
set_option maxRecDepth 20000 in
theorem gX11_colours_X5_reach : GoodIn wsX11_colours (wsV RX11 210 RX5 yX5_reach wsX5_reach) := goodIn_app (goodIn_of _ (by decide +kernel)) ggX11_colours_X5_reach
theorem dX11_colours_0 : decode cX11_colours 0 = .ok (.iload_n 1, 1) := by decide +kernel
theorem dX11_colours_1 : decode cX11_colours 1 = .ok (.invokestatic 199, 3) := by decide +kernel
theorem dX11_colours_4 : decode cX11_colours 4 = .ok (.ifCond .eq 18, 3) := by decide +kernel
theorem dX11_colours_7 : decode cX11_colours 7 = .ok (.iload_n 2, 1) := by decide +kernel
theorem dX11_colours_8 : decode cX11_colours 8 = .ok (.ifCond .lt 14, 3) := by decide +kernel
theorem dX11_colours_11 : decode cX11_colours 11 = .ok (.iload_n 2, 1) := by decide +kernel
theorem dX11_colours_12 : decode cX11_colours 12 = .ok (.aload_n 0, 1) := by decide +kernel
theorem dX11_colours_13 : decode cX11_colours 13 = .ok (.getfield 10, 3) := by decide +kernel
theorem dX11_colours_16 : decode cX11_colours 16 = .ok (.getfield 176, 3) := by decide +kernel
theorem dX11_colours_19 : decode cX11_colours 19 = .ok (.if_icmp .le 7, 3) := by decide +kernel
theorem dX11_colours_22 : decode cX11_colours 22 = .ok (.ldc2_w 202, 3) := by decide +kernel
theorem dX11_colours_25 : decode cX11_colours 25 = .ok (.lreturn, 1) := by decide +kernel
theorem dX11_colours_26 : decode cX11_colours 26 = .ok (.aload_n 0, 1) := by decide +kernel
theorem dX11_colours_27 : decode cX11_colours 27 = .ok (.getfield 10, 3) := by decide +kernel
theorem dX11_colours_30 : decode cX11_colours 30 = .ok (.iload_n 1, 1) := by decide +kernel
theorem dX11_colours_31 : decode cX11_colours 31 = .ok (.invokevirtual 204, 3) := by decide +kernel
theorem dX11_colours_34 : decode cX11_colours 34 = .ok (.ldc2_w 208, 3) := by decide +kernel
theorem dX11_colours_37 : decode cX11_colours 37 = .ok (.lcmp, 1) := by decide +kernel
theorem dX11_colours_38 : decode cX11_colours 38 = .ok (.ifCond .ne 7, 3) := by decide +kernel
theorem dX11_colours_41 : decode cX11_colours 41 = .ok (.ldc2_w 208, 3) := by decide +kernel
theorem dX11_colours_44 : decode cX11_colours 44 = .ok (.lreturn, 1) := by decide +kernel
theorem dX11_colours_45 : decode cX11_colours 45 = .ok (.aload_n 0, 1) := by decide +kernel
theorem dX11_colours_46 : decode cX11_colours 46 = .ok (.getfield 53, 3) := by decide +kernel
theorem dX11_colours_49 : decode cX11_colours 49 = .ok (.iload_n 1, 1) := by decide +kernel
theorem dX11_colours_50 : decode cX11_colours 50 = .ok (.aload_n 0, 1) := by decide +kernel
theorem dX11_colours_51 : decode cX11_colours 51 = .ok (.getfield 19, 3) := by decide +kernel
theorem dX11_colours_54 : decode cX11_colours 54 = .ok (.getfield 143, 3) := by decide +kernel
theorem dX11_colours_57 : decode cX11_colours 57 = .ok (.aload_n 0, 1) := by decide +kernel
theorem dX11_colours_58 : decode cX11_colours 58 = .ok (.getfield 84, 3) := by decide +kernel
theorem dX11_colours_61 : decode cX11_colours 61 = .ok (.invokevirtual 210, 3) := by decide +kernel
theorem dX11_colours_64 : decode cX11_colours 64 = .ok (.ifCond .eq 17, 3) := by decide +kernel
theorem dX11_colours_67 : decode cX11_colours 67 = .ok (.aload_n 0, 1) := by decide +kernel
theorem dX11_colours_68 : decode cX11_colours 68 = .ok (.getfield 53, 3) := by decide +kernel
theorem dX11_colours_71 : decode cX11_colours 71 = .ok (.getfield 223, 3) := by decide +kernel
theorem dX11_colours_74 : decode cX11_colours 74 = .ok (.iload_n 1, 1) := by decide +kernel
theorem dX11_colours_75 : decode cX11_colours 75 = .ok (.aaload, 1) := by decide +kernel
theorem dX11_colours_76 : decode cX11_colours 76 = .ok (.iload_n 2, 1) := by decide +kernel
theorem dX11_colours_77 : decode cX11_colours 77 = .ok (.laload, 1) := by decide +kernel
theorem dX11_colours_78 : decode cX11_colours 78 = .ok (.goto 6, 3) := by decide +kernel
theorem dX11_colours_81 : decode cX11_colours 81 = .ok (.ldc2_w 214, 3) := by decide +kernel
theorem dX11_colours_84 : decode cX11_colours 84 = .ok (.lreturn, 1) := by decide +kernel
set_option maxRecDepth 20000 in
theorem ggX11_odds_X11_isTold : GoodIn wsX11_odds wsX11_isTold := goodIn_r _ [11] (by decide +kernel) (by decide +kernel)
set_option maxRecDepth 20000 in
theorem gX11_odds_X11_isTold : GoodIn wsX11_odds (va_wsS RX11 199 yX11_isTold wsX11_isTold) := goodIn_app (goodIn_of _ (by decide +kernel)) ggX11_odds_X11_isTold
set_option maxRecDepth 20000 in
theorem ggX11_odds_X7_ways : GoodIn wsX11_odds wsX7_ways := goodIn_r _ [16, 17, 18, 19, 20, 21, 22, 23, 24, 25, 283, 284, 285, 286, 287, 288, 289, 290, 291] (by decide +kernel) (by decide +kernel)
set_option maxRecDepth 20000 in
theorem gX11_odds_X7_ways : GoodIn wsX11_odds (wsV RX11 204 RX7 yX7_ways wsX7_ways) := goodIn_app (goodIn_of _ (by decide +kernel)) ggX11_odds_X7_ways
set_option maxRecDepth 20000 in
theorem ggX11_odds_X5_reach : GoodIn wsX11_odds wsX5_reach := goodIn_r _ [30, 31, 32, 33, 34, 35, 36, 37, 29, 38, 39, 40, 41, 42, 43, 44, 45, 46, 47, 48, 49, 50, 51, 52, 53, 54, 55, 56, 57, 58, 59, 60, 61, 62, 63, 64, 65, 66, 67, 68, 69, 70, 71, 72, 73, 74, 75, 76, 77, 78, 79, 80, 81, 82, 83, 84, 85, 86, 87, 88, 89, 90, 91, 92, 93, 94, 95, 96, 97, 98, 99, 100, 101, 102, 103, 104, 105, 106, 107, 108, 109, 110, 111, 112, 113, 114, 115, 116, 117, 118, 119, 120, 121, 122, 123, 124, 125, 126, 127, 128, 129, 130, 131, 132, 133, 134, 135, 136, 137, 138, 139, 140, 141, 142, 143, 144, 145, 146, 147, 148, 149, 150, 151, 152, 153, 154, 155, 156, 157, 158, 159, 15, 160, 17, 161, 162, 163, 164, 165, 166, 167, 168, 169, 170, 171, 172, 173, 174, 175, 176, 177, 178, 179, 180, 181, 182, 183, 184, 185, 186, 187, 188, 189, 190, 191, 192, 193, 194, 195, 196, 197, 198, 199, 200, 201, 202, 203, 204, 205, 206, 207, 208, 209, 210, 211, 212, 213, 214, 215, 216, 217, 218, 219, 220, 221, 222, 223, 224, 225, 226, 227, 228, 229, 230, 231, 232, 233, 234, 235, 236, 237, 238, 239, 240, 241, 242, 243, 244, 245, 270, 271, 272, 273, 274, 275, 276, 277, 278, 279, 280, 281, 282, 292, 293, 294, 283, 284, 285, 286, 287, 288, 289, 290, 291, 295, 296, 297, 298, 299, 266, 267, 268, 269] (by decide +kernel) (by decide +kernel)
set_option maxRecDepth 20000 in
theorem gX11_odds_X5_reach : GoodIn wsX11_odds (wsV RX11 210 RX5 yX5_reach wsX5_reach) := goodIn_app (goodIn_of _ (by decide +kernel)) ggX11_odds_X5_reach
set_option maxRecDepth 20000 in
theorem ggX11_odds_X11_bitsOf : GoodIn wsX11_odds wsX11_bitsOf := goodIn_r _ [248, 249] (by decide +kernel) (by decide +kernel)
set_option maxRecDepth 20000 in
theorem gX11_odds_X11_bitsOf : GoodIn wsX11_odds (va_wsS RX11 227 yX11_bitsOf wsX11_bitsOf) := goodIn_app (goodIn_of _ (by decide +kernel)) ggX11_odds_X11_bitsOf
theorem dX11_odds_0 : decode cX11_odds 0 = .ok (.iload_n 1, 1) := by decide +kernel
theorem dX11_odds_1 : decode cX11_odds 1 = .ok (.invokestatic 199, 3) := by decide +kernel
theorem dX11_odds_4 : decode cX11_odds 4 = .ok (.ifCond .ne 5, 3) := by decide +kernel
theorem dX11_odds_7 : decode cX11_odds 7 = .ok (.iconst (-1), 1) := by decide +kernel
theorem dX11_odds_8 : decode cX11_odds 8 = .ok (.ireturn, 1) := by decide +kernel
theorem dX11_odds_9 : decode cX11_odds 9 = .ok (.aload_n 0, 1) := by decide +kernel
theorem dX11_odds_10 : decode cX11_odds 10 = .ok (.getfield 10, 3) := by decide +kernel
theorem dX11_odds_13 : decode cX11_odds 13 = .ok (.iload_n 1, 1) := by decide +kernel
theorem dX11_odds_14 : decode cX11_odds 14 = .ok (.invokevirtual 204, 3) := by decide +kernel
theorem dX11_odds_17 : decode cX11_odds 17 = .ok (.lstore_n 2, 1) := by decide +kernel
theorem dX11_odds_18 : decode cX11_odds 18 = .ok (.lload_n 2, 1) := by decide +kernel
theorem dX11_odds_19 : decode cX11_odds 19 = .ok (.ldc2_w 208, 3) := by decide +kernel
theorem dX11_odds_22 : decode cX11_odds 22 = .ok (.lcmp, 1) := by decide +kernel
theorem dX11_odds_23 : decode cX11_odds 23 = .ok (.ifCond .ne 6, 3) := by decide +kernel
theorem dX11_odds_26 : decode cX11_odds 26 = .ok (.bipush (-2), 2) := by decide +kernel
theorem dX11_odds_28 : decode cX11_odds 28 = .ok (.ireturn, 1) := by decide +kernel
theorem dX11_odds_29 : decode cX11_odds 29 = .ok (.aload_n 0, 1) := by decide +kernel
theorem dX11_odds_30 : decode cX11_odds 30 = .ok (.getfield 53, 3) := by decide +kernel
theorem dX11_odds_33 : decode cX11_odds 33 = .ok (.iload_n 1, 1) := by decide +kernel
theorem dX11_odds_34 : decode cX11_odds 34 = .ok (.aload_n 0, 1) := by decide +kernel
theorem dX11_odds_35 : decode cX11_odds 35 = .ok (.getfield 19, 3) := by decide +kernel
theorem dX11_odds_38 : decode cX11_odds 38 = .ok (.getfield 143, 3) := by decide +kernel
theorem dX11_odds_41 : decode cX11_odds 41 = .ok (.aload_n 0, 1) := by decide +kernel
theorem dX11_odds_42 : decode cX11_odds 42 = .ok (.getfield 84, 3) := by decide +kernel
theorem dX11_odds_45 : decode cX11_odds 45 = .ok (.invokevirtual 210, 3) := by decide +kernel
theorem dX11_odds_48 : decode cX11_odds 48 = .ok (.ifCond .ne 6, 3) := by decide +kernel
theorem dX11_odds_51 : decode cX11_odds 51 = .ok (.bipush (-3), 2) := by decide +kernel
theorem dX11_odds_53 : decode cX11_odds 53 = .ok (.ireturn, 1) := by decide +kernel
theorem dX11_odds_54 : decode cX11_odds 54 = .ok (.aload_n 0, 1) := by decide +kernel
theorem dX11_odds_55 : decode cX11_odds 55 = .ok (.getfield 53, 3) := by decide +kernel
theorem dX11_odds_58 : decode cX11_odds 58 = .ok (.getfield 216, 3) := by decide +kernel
theorem dX11_odds_61 : decode cX11_odds 61 = .ok (.iload_n 1, 1) := by decide +kernel
theorem dX11_odds_62 : decode cX11_odds 62 = .ok (.laload, 1) := by decide +kernel
theorem dX11_odds_63 : decode cX11_odds 63 = .ok (.l2f, 1) := by decide +kernel
theorem dX11_odds_64 : decode cX11_odds 64 = .ok (.lload_n 2, 1) := by decide +kernel
theorem dX11_odds_65 : decode cX11_odds 65 = .ok (.l2f, 1) := by decide +kernel
theorem dX11_odds_66 : decode cX11_odds 66 = .ok (.fdiv, 1) := by decide +kernel
theorem dX11_odds_67 : decode cX11_odds 67 = .ok (.invokestatic 227, 3) := by decide +kernel
theorem dX11_odds_70 : decode cX11_odds 70 = .ok (.ireturn, 1) := by decide +kernel
set_option maxRecDepth 20000 in
theorem ggX11_soonest_X8_find : GoodIn wsX11_soonest wsX8_find := goodIn_r _ [10, 11, 12, 13, 14, 15, 16, 17, 18, 19, 20, 21, 9, 22, 23, 24, 25, 26, 27, 28, 29, 30, 31, 32, 33, 34, 35, 36, 37, 38, 39, 40, 41, 42, 43, 44, 45, 46, 47, 48, 49, 50, 51, 52, 53, 54, 55, 56, 57, 58, 59, 60, 61, 62, 63, 64, 65, 66, 67, 68, 69, 70, 71, 72, 73, 74, 75, 76, 77, 78, 79, 80, 81, 82, 83, 84, 85, 86, 87, 88, 89, 90, 91, 92, 93, 94, 95, 96, 97, 98, 99, 100, 101, 102, 103, 104, 105, 106, 107, 108, 109, 110, 111, 112, 113, 114, 115, 116, 117, 118, 119, 120, 121, 122, 123, 124, 125, 126, 127, 128, 129, 130, 131, 132, 133, 134, 135, 136, 137, 138, 139, 140, 141, 142, 143, 144, 145, 146, 147, 148, 149, 150, 151, 152, 153, 154, 155, 156, 157, 158, 159, 160, 161, 162, 163, 164, 165, 166, 167, 168, 169, 170, 171, 172, 173, 174, 175, 176, 177, 178, 179, 180, 181, 182, 183, 184, 185, 186, 187, 188, 189, 190, 211, 212, 213, 214, 215, 216, 217, 218, 219, 220, 221, 222, 223, 224, 225, 226, 227, 228, 229, 230, 231, 232, 233, 234, 235, 236, 237, 207, 208, 209, 210] (by decide +kernel) (by decide +kernel)
set_option maxRecDepth 20000 in
theorem gX11_soonest_X8_find : GoodIn wsX11_soonest (wsV RX11 231 RX8 yX8_find wsX8_find) := goodIn_app (goodIn_of _ (by decide +kernel)) ggX11_soonest_X8_find
theorem dX11_soonest_0 : decode cX11_soonest 0 = .ok (.aload_n 0, 1) := by decide +kernel
theorem dX11_soonest_1 : decode cX11_soonest 1 = .ok (.getfield 60, 3) := by decide +kernel
theorem dX11_soonest_4 : decode cX11_soonest 4 = .ok (.aload_n 0, 1) := by decide +kernel
theorem dX11_soonest_5 : decode cX11_soonest 5 = .ok (.getfield 19, 3) := by decide +kernel
theorem dX11_soonest_8 : decode cX11_soonest 8 = .ok (.getfield 143, 3) := by decide +kernel
theorem dX11_soonest_11 : decode cX11_soonest 11 = .ok (.aload_n 0, 1) := by decide +kernel
theorem dX11_soonest_12 : decode cX11_soonest 12 = .ok (.getfield 84, 3) := by decide +kernel
theorem dX11_soonest_15 : decode cX11_soonest 15 = .ok (.invokevirtual 231, 3) := by decide +kernel
theorem dX11_soonest_18 : decode cX11_soonest 18 = .ok (.aload_n 0, 1) := by decide +kernel
theorem dX11_soonest_19 : decode cX11_soonest 19 = .ok (.getfield 60, 3) := by decide +kernel
theorem dX11_soonest_22 : decode cX11_soonest 22 = .ok (.getfield 234, 3) := by decide +kernel
theorem dX11_soonest_25 : decode cX11_soonest 25 = .ok (.ireturn, 1) := by decide +kernel
set_option maxRecDepth 20000 in
theorem ggX11_way_X8_find : GoodIn wsX11_way wsX8_find := goodIn_r _ [12, 13, 14, 15, 16, 17, 18, 19, 20, 21, 22, 23, 11, 24, 25, 26, 27, 28, 29, 30, 31, 32, 33, 34, 35, 36, 37, 38, 39, 40, 41, 42, 43, 44, 45, 46, 47, 48, 49, 50, 51, 52, 53, 54, 55, 56, 57, 58, 59, 60, 61, 62, 63, 64, 65, 66, 67, 68, 69, 70, 71, 72, 73, 74, 75, 76, 77, 78, 79, 80, 81, 82, 83, 84, 85, 86, 87, 88, 89, 90, 91, 92, 93, 94, 95, 96, 97, 98, 99, 100, 101, 102, 103, 104, 105, 106, 107, 108, 109, 110, 111, 112, 113, 114, 115, 116, 117, 118, 119, 120, 121, 122, 123, 124, 125, 126, 127, 128, 129, 130, 131, 132, 133, 134, 135, 136, 137, 138, 139, 140, 141, 142, 143, 144, 145, 146, 147, 148, 149, 150, 151, 152, 153, 154, 155, 156, 157, 158, 159, 160, 161, 162, 163, 164, 165, 166, 167, 168, 169, 170, 171, 172, 173, 174, 175, 176, 177, 178, 179, 180, 181, 182, 183, 184, 185, 186, 187, 188, 189, 190, 191, 192, 217, 218, 219, 220, 221, 222, 223, 224, 225, 226, 227, 228, 229, 230, 231, 232, 233, 234, 235, 236, 237, 238, 239, 240, 241, 242, 243, 213, 214, 215, 216] (by decide +kernel) (by decide +kernel)
set_option maxRecDepth 20000 in
theorem gX11_way_X8_find : GoodIn wsX11_way (wsV RX11 231 RX8 yX8_find wsX8_find) := goodIn_app (goodIn_of _ (by decide +kernel)) ggX11_way_X8_find
set_option maxRecDepth 20000 in
theorem ggX11_way_X8_behind : GoodIn wsX11_way wsX8_behind := goodIn_r _ [196, 32, 16, 29, 217, 218, 219, 220, 221, 222, 223, 224, 225, 226] (by decide +kernel) (by decide +kernel)
set_option maxRecDepth 20000 in
theorem gX11_way_X8_behind : GoodIn wsX11_way (wsV RX11 237 RX8 yX8_behind wsX8_behind) := goodIn_app (goodIn_of _ (by decide +kernel)) ggX11_way_X8_behind
theorem dX11_way_0 : decode cX11_way 0 = .ok (.iload_n 1, 1) := by decide +kernel
theorem dX11_way_1 : decode cX11_way 1 = .ok (.ifCond .lt 12, 3) := by decide +kernel
theorem dX11_way_4 : decode cX11_way 4 = .ok (.iload_n 2, 1) := by decide +kernel
theorem dX11_way_5 : decode cX11_way 5 = .ok (.ifCond .lt 8, 3) := by decide +kernel
theorem dX11_way_8 : decode cX11_way 8 = .ok (.iload_n 2, 1) := by decide +kernel
theorem dX11_way_9 : decode cX11_way 9 = .ok (.iconst 1, 1) := by decide +kernel
theorem dX11_way_10 : decode cX11_way 10 = .ok (.if_icmp .le 6, 3) := by decide +kernel
theorem dX11_way_13 : decode cX11_way 13 = .ok (.bipush (-2), 2) := by decide +kernel
theorem dX11_way_15 : decode cX11_way 15 = .ok (.ireturn, 1) := by decide +kernel
theorem dX11_way_16 : decode cX11_way 16 = .ok (.aload_n 0, 1) := by decide +kernel
theorem dX11_way_17 : decode cX11_way 17 = .ok (.getfield 60, 3) := by decide +kernel
theorem dX11_way_20 : decode cX11_way 20 = .ok (.aload_n 0, 1) := by decide +kernel
theorem dX11_way_21 : decode cX11_way 21 = .ok (.getfield 19, 3) := by decide +kernel
theorem dX11_way_24 : decode cX11_way 24 = .ok (.getfield 143, 3) := by decide +kernel
theorem dX11_way_27 : decode cX11_way 27 = .ok (.aload_n 0, 1) := by decide +kernel
theorem dX11_way_28 : decode cX11_way 28 = .ok (.getfield 84, 3) := by decide +kernel
theorem dX11_way_31 : decode cX11_way 31 = .ok (.invokevirtual 231, 3) := by decide +kernel
theorem dX11_way_34 : decode cX11_way 34 = .ok (.aload_n 0, 1) := by decide +kernel
theorem dX11_way_35 : decode cX11_way 35 = .ok (.getfield 60, 3) := by decide +kernel
theorem dX11_way_38 : decode cX11_way 38 = .ok (.getfield 234, 3) := by decide +kernel
theorem dX11_way_41 : decode cX11_way 41 = .ok (.bipush (-3), 2) := by decide +kernel
theorem dX11_way_43 : decode cX11_way 43 = .ok (.if_icmp .ne 6, 3) := by decide +kernel
theorem dX11_way_46 : decode cX11_way 46 = .ok (.bipush (-3), 2) := by decide +kernel
theorem dX11_way_48 : decode cX11_way 48 = .ok (.ireturn, 1) := by decide +kernel
theorem dX11_way_49 : decode cX11_way 49 = .ok (.iload_n 1, 1) := by decide +kernel
theorem dX11_way_50 : decode cX11_way 50 = .ok (.aload_n 0, 1) := by decide +kernel
theorem dX11_way_51 : decode cX11_way 51 = .ok (.getfield 60, 3) := by decide +kernel
theorem dX11_way_54 : decode cX11_way 54 = .ok (.getfield 234, 3) := by decide +kernel
theorem dX11_way_57 : decode cX11_way 57 = .ok (.if_icmp .lt 6, 3) := by decide +kernel
theorem dX11_way_60 : decode cX11_way 60 = .ok (.bipush (-2), 2) := by decide +kernel
theorem dX11_way_62 : decode cX11_way 62 = .ok (.ireturn, 1) := by decide +kernel
theorem dX11_way_63 : decode cX11_way 63 = .ok (.aload_n 0, 1) := by decide +kernel
theorem dX11_way_64 : decode cX11_way 64 = .ok (.getfield 60, 3) := by decide +kernel
theorem dX11_way_67 : decode cX11_way 67 = .ok (.iload_n 1, 1) := by decide +kernel
theorem dX11_way_68 : decode cX11_way 68 = .ok (.invokevirtual 237, 3) := by decide +kernel
theorem dX11_way_71 : decode cX11_way 71 = .ok (.istore_n 3, 1) := by decide +kernel
theorem dX11_way_72 : decode cX11_way 72 = .ok (.iload_n 2, 1) := by decide +kernel
theorem dX11_way_73 : decode cX11_way 73 = .ok (.ifCond .ne 15, 3) := by decide +kernel
theorem dX11_way_76 : decode cX11_way 76 = .ok (.aload_n 0, 1) := by decide +kernel
theorem dX11_way_77 : decode cX11_way 77 = .ok (.getfield 60, 3) := by decide +kernel
theorem dX11_way_80 : decode cX11_way 80 = .ok (.getfield 240, 3) := by decide +kernel
theorem dX11_way_83 : decode cX11_way 83 = .ok (.iload_n 3, 1) := by decide +kernel
theorem dX11_way_84 : decode cX11_way 84 = .ok (.iaload, 1) := by decide +kernel
theorem dX11_way_85 : decode cX11_way 85 = .ok (.goto 12, 3) := by decide +kernel
theorem dX11_way_88 : decode cX11_way 88 = .ok (.aload_n 0, 1) := by decide +kernel
theorem dX11_way_89 : decode cX11_way 89 = .ok (.getfield 60, 3) := by decide +kernel
theorem dX11_way_92 : decode cX11_way 92 = .ok (.getfield 243, 3) := by decide +kernel
theorem dX11_way_95 : decode cX11_way 95 = .ok (.iload_n 3, 1) := by decide +kernel
theorem dX11_way_96 : decode cX11_way 96 = .ok (.iaload, 1) := by decide +kernel
theorem dX11_way_97 : decode cX11_way 97 = .ok (.ireturn, 1) := by decide +kernel
set_option maxRecDepth 20000 in
theorem ggX11_chain_X1_mayStay : GoodIn wsX11_chain wsX1_mayStay := goodIn_r _ [14, 15, 16, 17, 13, 18, 19, 20, 21, 22, 23, 24, 25, 26, 27, 28, 29, 30, 31, 32, 33, 34, 35, 36, 37, 38, 39, 138, 139, 140, 141, 142, 143, 129, 130, 131, 132, 133, 134, 135, 136, 137] (by decide +kernel) (by decide +kernel)
set_option maxRecDepth 20000 in
theorem gX11_chain_X1_mayStay : GoodIn wsX11_chain (wsV RX11 246 RX1 yX1_mayStay wsX1_mayStay) := goodIn_app (goodIn_of _ (by decide +kernel)) ggX11_chain_X1_mayStay
set_option maxRecDepth 20000 in
theorem ggX11_chain_X1_findAll : GoodIn wsX11_chain wsX1_findAll := goodIn_r _ [43, 44, 45, 19, 20, 46, 47, 48, 49, 50, 51, 52, 53, 54, 55, 56, 57, 58, 59, 60, 61, 62, 63, 64, 13, 65, 66, 67, 68, 69, 70, 71, 21, 22, 23, 24, 25, 26, 27, 28, 29, 30, 31, 32, 33, 34, 35, 72, 73, 74, 75, 76, 77, 78, 79, 80, 81, 82, 83, 84, 85, 86, 87, 88, 89, 90, 91, 92, 93, 94, 95, 96, 97, 98, 99, 100, 101, 102, 103, 104, 105, 106, 107, 108, 138, 139, 140, 141, 142, 143, 129, 130, 131, 132, 133, 134, 135, 136, 137, 144, 145] (by decide +kernel) (by decide +kernel)
set_option maxRecDepth 20000 in
theorem gX11_chain_X1_findAll : GoodIn wsX11_chain (wsV RX11 249 RX1 yX1_findAll wsX1_findAll) := goodIn_app (goodIn_of _ (by decide +kernel)) ggX11_chain_X1_findAll
set_option maxRecDepth 20000 in
theorem ggX11_chain_X2_isTooGreat : GoodIn wsX11_chain wsX2_isTooGreat := goodIn_r _ [112, 61, 144, 145] (by decide +kernel) (by decide +kernel)
set_option maxRecDepth 20000 in
theorem gX11_chain_X2_isTooGreat : GoodIn wsX11_chain (wsV RX11 259 RX2 yX2_isTooGreat wsX2_isTooGreat) := goodIn_app (goodIn_of _ (by decide +kernel)) ggX11_chain_X2_isTooGreat
theorem dX11_chain_0 : decode cX11_chain 0 = .ok (.iload_n 1, 1) := by decide +kernel
theorem dX11_chain_1 : decode cX11_chain 1 = .ok (.ifCond .lt 23, 3) := by decide +kernel
theorem dX11_chain_4 : decode cX11_chain 4 = .ok (.iload_n 1, 1) := by decide +kernel
theorem dX11_chain_5 : decode cX11_chain 5 = .ok (.aload_n 0, 1) := by decide +kernel
theorem dX11_chain_6 : decode cX11_chain 6 = .ok (.getfield 10, 3) := by decide +kernel
theorem dX11_chain_9 : decode cX11_chain 9 = .ok (.getfield 176, 3) := by decide +kernel
theorem dX11_chain_12 : decode cX11_chain 12 = .ok (.if_icmp .gt 12, 3) := by decide +kernel
theorem dX11_chain_15 : decode cX11_chain 15 = .ok (.iload_n 2, 1) := by decide +kernel
theorem dX11_chain_16 : decode cX11_chain 16 = .ok (.ifCond .lt 8, 3) := by decide +kernel
theorem dX11_chain_19 : decode cX11_chain 19 = .ok (.iload_n 2, 1) := by decide +kernel
theorem dX11_chain_20 : decode cX11_chain 20 = .ok (.iconst 3, 1) := by decide +kernel
theorem dX11_chain_21 : decode cX11_chain 21 = .ok (.if_icmp .le 7, 3) := by decide +kernel
theorem dX11_chain_24 : decode cX11_chain 24 = .ok (.ldc2_w 202, 3) := by decide +kernel
theorem dX11_chain_27 : decode cX11_chain 27 = .ok (.lreturn, 1) := by decide +kernel
theorem dX11_chain_28 : decode cX11_chain 28 = .ok (.iload_n 2, 1) := by decide +kernel
theorem dX11_chain_29 : decode cX11_chain 29 = .ok (.iconst 2, 1) := by decide +kernel
theorem dX11_chain_30 : decode cX11_chain 30 = .ok (.if_icmp .lt 18, 3) := by decide +kernel
theorem dX11_chain_33 : decode cX11_chain 33 = .ok (.aload_n 0, 1) := by decide +kernel
theorem dX11_chain_34 : decode cX11_chain 34 = .ok (.getfield 69, 3) := by decide +kernel
theorem dX11_chain_37 : decode cX11_chain 37 = .ok (.iload_n 1, 1) := by decide +kernel
theorem dX11_chain_38 : decode cX11_chain 38 = .ok (.invokevirtual 246, 3) := by decide +kernel
theorem dX11_chain_41 : decode cX11_chain 41 = .ok (.ifCond .eq 7, 3) := by decide +kernel
theorem dX11_chain_44 : decode cX11_chain 44 = .ok (.ldc2_w 202, 3) := by decide +kernel
theorem dX11_chain_47 : decode cX11_chain 47 = .ok (.lreturn, 1) := by decide +kernel
theorem dX11_chain_48 : decode cX11_chain 48 = .ok (.aload_n 0, 1) := by decide +kernel
theorem dX11_chain_49 : decode cX11_chain 49 = .ok (.getfield 69, 3) := by decide +kernel
theorem dX11_chain_52 : decode cX11_chain 52 = .ok (.invokevirtual 249, 3) := by decide +kernel
theorem dX11_chain_55 : decode cX11_chain 55 = .ok (.iload_n 2, 1) := by decide +kernel
theorem dX11_chain_56 : decode cX11_chain 56 = .ok (.iconst 2, 1) := by decide +kernel
theorem dX11_chain_57 : decode cX11_chain 57 = .ok (.if_icmp .ge 15, 3) := by decide +kernel
theorem dX11_chain_60 : decode cX11_chain 60 = .ok (.aload_n 0, 1) := by decide +kernel
theorem dX11_chain_61 : decode cX11_chain 61 = .ok (.getfield 69, 3) := by decide +kernel
theorem dX11_chain_64 : decode cX11_chain 64 = .ok (.getfield 252, 3) := by decide +kernel
theorem dX11_chain_67 : decode cX11_chain 67 = .ok (.iload_n 1, 1) := by decide +kernel
theorem dX11_chain_68 : decode cX11_chain 68 = .ok (.aaload, 1) := by decide +kernel
theorem dX11_chain_69 : decode cX11_chain 69 = .ok (.goto 12, 3) := by decide +kernel
theorem dX11_chain_72 : decode cX11_chain 72 = .ok (.aload_n 0, 1) := by decide +kernel
theorem dX11_chain_73 : decode cX11_chain 73 = .ok (.getfield 69, 3) := by decide +kernel
theorem dX11_chain_76 : decode cX11_chain 76 = .ok (.getfield 256, 3) := by decide +kernel
theorem dX11_chain_79 : decode cX11_chain 79 = .ok (.iload_n 1, 1) := by decide +kernel
theorem dX11_chain_80 : decode cX11_chain 80 = .ok (.aaload, 1) := by decide +kernel
theorem dX11_chain_81 : decode cX11_chain 81 = .ok (.astore_n 3, 1) := by decide +kernel
theorem dX11_chain_82 : decode cX11_chain 82 = .ok (.aload_n 3, 1) := by decide +kernel
theorem dX11_chain_83 : decode cX11_chain 83 = .ok (.invokevirtual 259, 3) := by decide +kernel
theorem dX11_chain_86 : decode cX11_chain 86 = .ok (.ifCond .eq 7, 3) := by decide +kernel
theorem dX11_chain_89 : decode cX11_chain 89 = .ok (.ldc2_w 208, 3) := by decide +kernel
theorem dX11_chain_92 : decode cX11_chain 92 = .ok (.lreturn, 1) := by decide +kernel
theorem dX11_chain_93 : decode cX11_chain 93 = .ok (.iload_n 2, 1) := by decide +kernel
theorem dX11_chain_94 : decode cX11_chain 94 = .ok (.iconst 2, 1) := by decide +kernel
theorem dX11_chain_95 : decode cX11_chain 95 = .ok (.irem, 1) := by decide +kernel
theorem dX11_chain_96 : decode cX11_chain 96 = .ok (.ifCond .ne 10, 3) := by decide +kernel
theorem dX11_chain_99 : decode cX11_chain 99 = .ok (.aload_n 3, 1) := by decide +kernel
theorem dX11_chain_100 : decode cX11_chain 100 = .ok (.getfield 265, 3) := by decide +kernel
theorem dX11_chain_103 : decode cX11_chain 103 = .ok (.goto 7, 3) := by decide +kernel
theorem dX11_chain_106 : decode cX11_chain 106 = .ok (.aload_n 3, 1) := by decide +kernel
theorem dX11_chain_107 : decode cX11_chain 107 = .ok (.getfield 269, 3) := by decide +kernel
theorem dX11_chain_110 : decode cX11_chain 110 = .ok (.lreturn, 1) := by decide +kernel
set_option maxRecDepth 20000 in
theorem ggX11_entry_X3_isParent : GoodIn wsX11_entry wsX3_isParent := goodIn_r _ [11, 12, 13, 14, 10, 15, 16, 62, 63, 64, 65, 66, 67, 68, 69] (by decide +kernel) (by decide +kernel)
set_option maxRecDepth 20000 in
theorem gX11_entry_X3_isParent : GoodIn wsX11_entry (wsV RX11 272 RX3 yX3_isParent wsX3_isParent) := goodIn_app (goodIn_of _ (by decide +kernel)) ggX11_entry_X3_isParent
set_option maxRecDepth 20000 in
theorem ggX11_entry_X3_add : GoodIn wsX11_entry wsX3_add := goodIn_r _ [20, 16, 21, 22, 23, 24, 25, 26, 27, 28, 29, 30, 31, 32, 33, 34, 10, 35, 12, 13, 14, 15, 36, 37, 38, 39, 62, 63, 64, 65, 66, 67, 68, 69] (by decide +kernel) (by decide +kernel)
set_option maxRecDepth 20000 in
theorem gX11_entry_X3_add : GoodIn wsX11_entry (wsV RX11 281 RX3 yX3_add wsX3_add) := goodIn_app (goodIn_of _ (by decide +kernel)) ggX11_entry_X3_add
set_option maxRecDepth 20000 in
theorem ggX11_entry_X10_put : GoodIn wsX11_entry wsX10_put := goodIn_r _ [44, 45, 74, 75, 76] (by decide +kernel) (by decide +kernel)
set_option maxRecDepth 20000 in
theorem gX11_entry_X10_put : GoodIn wsX11_entry (wsV RX11 291 RX10 yX10_put wsX10_put) := goodIn_app (goodIn_of _ (by decide +kernel)) ggX11_entry_X10_put
theorem dX11_entry_0 : decode cX11_entry 0 = .ok (.iload_n 1, 1) := by decide +kernel
theorem dX11_entry_1 : decode cX11_entry 1 = .ok (.ifCond .lt 31, 3) := by decide +kernel
theorem dX11_entry_4 : decode cX11_entry 4 = .ok (.iload_n 1, 1) := by decide +kernel
theorem dX11_entry_5 : decode cX11_entry 5 = .ok (.bipush 8, 2) := by decide +kernel
theorem dX11_entry_7 : decode cX11_entry 7 = .ok (.if_icmp .ge 25, 3) := by decide +kernel
theorem dX11_entry_10 : decode cX11_entry 10 = .ok (.aload_n 0, 1) := by decide +kernel
theorem dX11_entry_11 : decode cX11_entry 11 = .ok (.getfield 26, 3) := by decide +kernel
theorem dX11_entry_14 : decode cX11_entry 14 = .ok (.iload_n 2, 1) := by decide +kernel
theorem dX11_entry_15 : decode cX11_entry 15 = .ok (.invokevirtual 272, 3) := by decide +kernel
theorem dX11_entry_18 : decode cX11_entry 18 = .ok (.ifCond .eq 14, 3) := by decide +kernel
theorem dX11_entry_21 : decode cX11_entry 21 = .ok (.aload_n 0, 1) := by decide +kernel
theorem dX11_entry_22 : decode cX11_entry 22 = .ok (.getfield 26, 3) := by decide +kernel
theorem dX11_entry_25 : decode cX11_entry 25 = .ok (.iload_n 3, 1) := by decide +kernel
theorem dX11_entry_26 : decode cX11_entry 26 = .ok (.invokevirtual 272, 3) := by decide +kernel
theorem dX11_entry_29 : decode cX11_entry 29 = .ok (.ifCond .ne 5, 3) := by decide +kernel
theorem dX11_entry_32 : decode cX11_entry 32 = .ok (.iconst (-1), 1) := by decide +kernel
theorem dX11_entry_33 : decode cX11_entry 33 = .ok (.ireturn, 1) := by decide +kernel
theorem dX11_entry_34 : decode cX11_entry 34 = .ok (.iload_n 2, 1) := by decide +kernel
theorem dX11_entry_35 : decode cX11_entry 35 = .ok (.iload_n 3, 1) := by decide +kernel
theorem dX11_entry_36 : decode cX11_entry 36 = .ok (.if_icmp .ne 8, 3) := by decide +kernel
theorem dX11_entry_39 : decode cX11_entry 39 = .ok (.iload_n 2, 1) := by decide +kernel
theorem dX11_entry_40 : decode cX11_entry 40 = .ok (.iconst (-1), 1) := by decide +kernel
theorem dX11_entry_41 : decode cX11_entry 41 = .ok (.if_icmp .ne 15, 3) := by decide +kernel
theorem dX11_entry_44 : decode cX11_entry 44 = .ok (.aload_n 0, 1) := by decide +kernel
theorem dX11_entry_45 : decode cX11_entry 45 = .ok (.getfield 26, 3) := by decide +kernel
theorem dX11_entry_48 : decode cX11_entry 48 = .ok (.getfield 275, 3) := by decide +kernel
theorem dX11_entry_51 : decode cX11_entry 51 = .ok (.bipush 16, 2) := by decide +kernel
theorem dX11_entry_53 : decode cX11_entry 53 = .ok (.if_icmp .ne 5, 3) := by decide +kernel
theorem dX11_entry_56 : decode cX11_entry 56 = .ok (.iconst (-1), 1) := by decide +kernel
theorem dX11_entry_57 : decode cX11_entry 57 = .ok (.ireturn, 1) := by decide +kernel
theorem dX11_entry_58 : decode cX11_entry 58 = .ok (.aload_n 0, 1) := by decide +kernel
theorem dX11_entry_59 : decode cX11_entry 59 = .ok (.getfield 26, 3) := by decide +kernel
theorem dX11_entry_62 : decode cX11_entry 62 = .ok (.getfield 278, 3) := by decide +kernel
theorem dX11_entry_65 : decode cX11_entry 65 = .ok (.iload_n 1, 1) := by decide +kernel
theorem dX11_entry_66 : decode cX11_entry 66 = .ok (.iaload, 1) := by decide +kernel
theorem dX11_entry_67 : decode cX11_entry 67 = .ok (.ifCond .ne 7, 3) := by decide +kernel
theorem dX11_entry_70 : decode cX11_entry 70 = .ok (.iconst 1, 1) := by decide +kernel
theorem dX11_entry_71 : decode cX11_entry 71 = .ok (.goto 4, 3) := by decide +kernel
theorem dX11_entry_74 : decode cX11_entry 74 = .ok (.iconst 0, 1) := by decide +kernel
theorem dX11_entry_75 : decode cX11_entry 75 = .ok (.istore 4, 2) := by decide +kernel
theorem dX11_entry_77 : decode cX11_entry 77 = .ok (.aload_n 0, 1) := by decide +kernel
theorem dX11_entry_78 : decode cX11_entry 78 = .ok (.getfield 26, 3) := by decide +kernel
theorem dX11_entry_81 : decode cX11_entry 81 = .ok (.iload_n 1, 1) := by decide +kernel
theorem dX11_entry_82 : decode cX11_entry 82 = .ok (.iload_n 2, 1) := by decide +kernel
theorem dX11_entry_83 : decode cX11_entry 83 = .ok (.iload_n 3, 1) := by decide +kernel
theorem dX11_entry_84 : decode cX11_entry 84 = .ok (.invokevirtual 281, 3) := by decide +kernel
theorem dX11_entry_87 : decode cX11_entry 87 = .ok (.istore 5, 2) := by decide +kernel
theorem dX11_entry_89 : decode cX11_entry 89 = .ok (.iconst 0, 1) := by decide +kernel
theorem dX11_entry_90 : decode cX11_entry 90 = .ok (.istore 6, 2) := by decide +kernel
theorem dX11_entry_92 : decode cX11_entry 92 = .ok (.iload 4, 2) := by decide +kernel
theorem dX11_entry_94 : decode cX11_entry 94 = .ok (.ifCond .eq 33, 3) := by decide +kernel
theorem dX11_entry_97 : decode cX11_entry 97 = .ok (.iload 6, 2) := by decide +kernel
theorem dX11_entry_99 : decode cX11_entry 99 = .ok (.bipush 8, 2) := by decide +kernel
theorem dX11_entry_101 : decode cX11_entry 101 = .ok (.if_icmp .ge 26, 3) := by decide +kernel
theorem dX11_entry_104 : decode cX11_entry 104 = .ok (.aload_n 0, 1) := by decide +kernel
theorem dX11_entry_105 : decode cX11_entry 105 = .ok (.getfield 19, 3) := by decide +kernel
theorem dX11_entry_108 : decode cX11_entry 108 = .ok (.getfield 285, 3) := by decide +kernel
theorem dX11_entry_111 : decode cX11_entry 111 = .ok (.iload 6, 2) := by decide +kernel
theorem dX11_entry_113 : decode cX11_entry 113 = .ok (.aaload, 1) := by decide +kernel
theorem dX11_entry_114 : decode cX11_entry 114 = .ok (.iload_n 1, 1) := by decide +kernel
theorem dX11_entry_115 : decode cX11_entry 115 = .ok (.iconst 0, 1) := by decide +kernel
theorem dX11_entry_116 : decode cX11_entry 116 = .ok (.iload 5, 2) := by decide +kernel
theorem dX11_entry_118 : decode cX11_entry 118 = .ok (.invokevirtual 291, 3) := by decide +kernel
theorem dX11_entry_121 : decode cX11_entry 121 = .ok (.iinc 6 1, 3) := by decide +kernel
theorem dX11_entry_124 : decode cX11_entry 124 = .ok (.goto (-32), 3) := by decide +kernel
theorem dX11_entry_127 : decode cX11_entry 127 = .ok (.aload_n 0, 1) := by decide +kernel
theorem dX11_entry_128 : decode cX11_entry 128 = .ok (.iconst 0, 1) := by decide +kernel
theorem dX11_entry_129 : decode cX11_entry 129 = .ok (.putfield 114, 3) := by decide +kernel
theorem dX11_entry_132 : decode cX11_entry 132 = .ok (.iload 5, 2) := by decide +kernel
theorem dX11_entry_134 : decode cX11_entry 134 = .ok (.ireturn, 1) := by decide +kernel
set_option maxRecDepth 20000 in
theorem ggX11_poll_X11_canPoll : GoodIn wsX11_poll wsX11_canPoll := goodIn_r _ [7, 8, 9, 2, 10, 11, 12, 13, 14, 15, 16, 17, 18, 19, 20, 21, 22, 23, 24, 25, 26, 27, 28, 29, 30, 31, 32, 33, 34, 35, 36, 37, 38, 39, 40, 41, 42, 43, 44, 45, 46, 47, 48, 49, 50, 181, 182, 183, 184, 185, 186, 187, 188, 189, 190, 191, 192, 193, 194, 195, 196, 197, 198, 199, 200, 201, 202, 203, 204, 205, 206, 207, 208, 209, 210, 211, 212, 213, 214, 215, 216, 217, 218, 219, 220, 221, 222, 223] (by decide +kernel) (by decide +kernel)
set_option maxRecDepth 20000 in
theorem gX11_poll_X11_canPoll : GoodIn wsX11_poll (wsV RX11 295 RX11 yX11_canPoll wsX11_canPoll) := goodIn_app (goodIn_of _ (by decide +kernel)) ggX11_poll_X11_canPoll
set_option maxRecDepth 20000 in
theorem ggX11_poll_X11_keep : GoodIn wsX11_poll wsX11_keep := goodIn_r _ [54, 55, 56, 57, 58, 59, 60, 61, 62, 63, 64, 65, 66, 67, 68, 69, 70, 71, 72, 73, 74, 75, 76, 77, 78, 79, 80, 81, 82, 83, 84, 85, 181, 182, 183, 184, 185, 186, 187, 188, 189, 190, 191, 192, 193, 194, 195, 196, 217, 218, 219, 220, 221, 222, 223] (by decide +kernel) (by decide +kernel)
set_option maxRecDepth 20000 in
theorem gX11_poll_X11_keep : GoodIn wsX11_poll (wsV RX11 130 RX11 yX11_keep wsX11_keep) := goodIn_app (goodIn_of _ (by decide +kernel)) ggX11_poll_X11_keep
set_option maxRecDepth 20000 in
theorem ggX11_poll_X6_hold : GoodIn wsX11_poll wsX6_hold := goodIn_r _ [89, 44, 48, 46, 49, 43, 90, 91, 92, 93, 94, 35, 95, 96, 97, 33, 34, 36, 37, 98, 99, 100, 41, 101, 102, 103, 104, 105, 106, 107, 108, 109, 110, 80, 111, 84, 112, 113, 114, 67, 115, 75, 116, 117, 118, 119, 45, 120, 121, 122, 123, 47, 124, 125, 126, 127, 128, 129, 130, 131, 132, 133, 134, 135, 136, 137, 138, 139, 140, 141, 142, 143, 144, 145, 146, 147, 148, 149, 150, 26, 27, 28, 29, 30, 31, 151, 152, 153, 154, 155, 156, 157, 158, 159, 160, 161, 162, 163, 164, 165, 166, 167, 168, 169, 170, 171, 172, 173, 174, 175, 176, 177, 178, 179, 180, 214, 215, 216, 217, 218, 219, 220, 221, 222, 223, 197, 198, 199, 200, 201, 202, 203, 204, 205, 206, 207, 208, 209, 210, 211, 212, 213] (by decide +kernel) (by decide +kernel)
set_option maxRecDepth 20000 in
theorem gX11_poll_X6_hold : GoodIn wsX11_poll (wsV RX11 299 RX6 yX6_hold wsX6_hold) := goodIn_app (goodIn_of _ (by decide +kernel)) ggX11_poll_X6_hold
theorem dX11_poll_0 : decode cX11_poll 0 = .ok (.aload_n 0, 1) := by decide +kernel
theorem dX11_poll_1 : decode cX11_poll 1 = .ok (.iload_n 1, 1) := by decide +kernel
theorem dX11_poll_2 : decode cX11_poll 2 = .ok (.iload_n 2, 1) := by decide +kernel
theorem dX11_poll_3 : decode cX11_poll 3 = .ok (.iload_n 3, 1) := by decide +kernel
theorem dX11_poll_4 : decode cX11_poll 4 = .ok (.invokevirtual 295, 3) := by decide +kernel
theorem dX11_poll_7 : decode cX11_poll 7 = .ok (.ifCond .ne 5, 3) := by decide +kernel
theorem dX11_poll_10 : decode cX11_poll 10 = .ok (.iconst (-1), 1) := by decide +kernel
theorem dX11_poll_11 : decode cX11_poll 11 = .ok (.ireturn, 1) := by decide +kernel
theorem dX11_poll_12 : decode cX11_poll 12 = .ok (.aload_n 0, 1) := by decide +kernel
theorem dX11_poll_13 : decode cX11_poll 13 = .ok (.invokevirtual 130, 3) := by decide +kernel
theorem dX11_poll_16 : decode cX11_poll 16 = .ok (.aload_n 0, 1) := by decide +kernel
theorem dX11_poll_17 : decode cX11_poll 17 = .ok (.dup, 1) := by decide +kernel
theorem dX11_poll_18 : decode cX11_poll 18 = .ok (.getfield 111, 3) := by decide +kernel
theorem dX11_poll_21 : decode cX11_poll 21 = .ok (.iconst 1, 1) := by decide +kernel
theorem dX11_poll_22 : decode cX11_poll 22 = .ok (.iadd, 1) := by decide +kernel
theorem dX11_poll_23 : decode cX11_poll 23 = .ok (.putfield 111, 3) := by decide +kernel
theorem dX11_poll_26 : decode cX11_poll 26 = .ok (.aload_n 0, 1) := by decide +kernel
theorem dX11_poll_27 : decode cX11_poll 27 = .ok (.getfield 44, 3) := by decide +kernel
theorem dX11_poll_30 : decode cX11_poll 30 = .ok (.iload_n 1, 1) := by decide +kernel
theorem dX11_poll_31 : decode cX11_poll 31 = .ok (.iload_n 2, 1) := by decide +kernel
theorem dX11_poll_32 : decode cX11_poll 32 = .ok (.iload_n 3, 1) := by decide +kernel
theorem dX11_poll_33 : decode cX11_poll 33 = .ok (.invokevirtual 299, 3) := by decide +kernel
theorem dX11_poll_36 : decode cX11_poll 36 = .ok (.ireturn, 1) := by decide +kernel
set_option maxRecDepth 20000 in
theorem ggX11_yes_X11_canPoll : GoodIn wsX11_yes wsX11_canPoll := goodIn_r _ [6, 7, 8, 1, 9, 10, 11, 12, 13, 14, 15, 16, 17, 18, 19, 20, 21, 22, 23, 24, 25, 26, 27, 28, 29, 30, 31, 32, 33, 34, 35, 36, 37, 38, 39, 40, 41, 42, 43, 44, 45, 46, 47, 48, 49, 82, 83, 84, 85, 86, 87, 88, 89, 90, 91, 92, 93, 94, 95, 96, 97, 98, 99, 100, 101, 102, 103, 104, 105, 106, 107, 108, 109, 110, 111, 112, 113, 114, 115, 116, 117, 118, 119, 120, 121, 122, 123, 124] (by decide +kernel) (by decide +kernel)
set_option maxRecDepth 20000 in
theorem gX11_yes_X11_canPoll : GoodIn wsX11_yes (wsV RX11 295 RX11 yX11_canPoll wsX11_canPoll) := goodIn_app (goodIn_of _ (by decide +kernel)) ggX11_yes_X11_canPoll
set_option maxRecDepth 20000 in
theorem ggX11_yes_X6_sayYes : GoodIn wsX11_yes wsX6_sayYes := goodIn_r _ [53, 43, 47, 42, 54, 55, 56, 57, 40, 58, 45, 59, 60, 61, 62, 34, 63, 64, 65, 32, 33, 35, 36, 66, 67, 68, 69, 70, 71, 72, 73, 74, 75, 76, 77, 78, 79, 80, 81, 44, 115, 116, 117, 118, 119, 120, 121, 98, 99, 100, 101, 102, 103, 104, 105, 106, 107, 108, 109, 110, 111, 112, 113, 114, 122, 123, 124] (by decide +kernel) (by decide +kernel)
set_option maxRecDepth 20000 in
theorem gX11_yes_X6_sayYes : GoodIn wsX11_yes (wsV RX11 302 RX6 yX6_sayYes wsX6_sayYes) := goodIn_app (goodIn_of _ (by decide +kernel)) ggX11_yes_X6_sayYes
theorem dX11_yes_0 : decode cX11_yes 0 = .ok (.aload_n 0, 1) := by decide +kernel
theorem dX11_yes_1 : decode cX11_yes 1 = .ok (.iload_n 1, 1) := by decide +kernel
theorem dX11_yes_2 : decode cX11_yes 2 = .ok (.iload_n 2, 1) := by decide +kernel
theorem dX11_yes_3 : decode cX11_yes 3 = .ok (.iload_n 3, 1) := by decide +kernel
theorem dX11_yes_4 : decode cX11_yes 4 = .ok (.invokevirtual 295, 3) := by decide +kernel
theorem dX11_yes_7 : decode cX11_yes 7 = .ok (.ifCond .eq 16, 3) := by decide +kernel
theorem dX11_yes_10 : decode cX11_yes 10 = .ok (.aload_n 0, 1) := by decide +kernel
theorem dX11_yes_11 : decode cX11_yes 11 = .ok (.getfield 44, 3) := by decide +kernel
theorem dX11_yes_14 : decode cX11_yes 14 = .ok (.iload_n 1, 1) := by decide +kernel
theorem dX11_yes_15 : decode cX11_yes 15 = .ok (.iload_n 2, 1) := by decide +kernel
theorem dX11_yes_16 : decode cX11_yes 16 = .ok (.iload_n 3, 1) := by decide +kernel
theorem dX11_yes_17 : decode cX11_yes 17 = .ok (.invokevirtual 302, 3) := by decide +kernel
theorem dX11_yes_20 : decode cX11_yes 20 = .ok (.goto 4, 3) := by decide +kernel
theorem dX11_yes_23 : decode cX11_yes 23 = .ok (.iconst (-1), 1) := by decide +kernel
theorem dX11_yes_24 : decode cX11_yes 24 = .ok (.ireturn, 1) := by decide +kernel
set_option maxRecDepth 20000 in
theorem ggX11_polls_X11_keep : GoodIn wsX11_polls wsX11_keep := goodIn_r _ [10, 11, 12, 13, 14, 15, 16, 17, 18, 19, 20, 21, 22, 23, 24, 25, 26, 27, 28, 29, 30, 31, 32, 33, 34, 35, 36, 37, 38, 39, 40, 41, 184, 185, 186, 187, 188, 189, 190, 191, 192, 193, 194, 195, 196, 197, 198, 199, 209, 210, 211, 212, 213, 214, 215] (by decide +kernel) (by decide +kernel)
set_option maxRecDepth 20000 in
theorem gX11_polls_X11_keep : GoodIn wsX11_polls (wsV RX11 130 RX11 yX11_keep wsX11_keep) := goodIn_app (goodIn_of _ (by decide +kernel)) ggX11_polls_X11_keep
set_option maxRecDepth 20000 in
theorem ggX11_polls_X11_draw : GoodIn wsX11_polls wsX11_draw := goodIn_r _ [45, 1, 46, 184, 185, 186, 187, 188, 189, 190, 191, 192, 193, 194, 195, 196, 197, 198, 199] (by decide +kernel) (by decide +kernel)
set_option maxRecDepth 20000 in
theorem gX11_polls_X11_draw : GoodIn wsX11_polls (wsV RX11 178 RX11 yX11_draw wsX11_draw) := goodIn_app (goodIn_of _ (by decide +kernel)) ggX11_polls_X11_draw
set_option maxRecDepth 20000 in
theorem ggX11_polls_X6_unpolled : GoodIn wsX11_polls wsX6_unpolled := goodIn_r _ [51, 52, 53, 54, 55, 56, 57, 58, 59, 60, 61, 62, 63, 64, 216, 217, 218, 209, 210, 211, 212, 219, 220, 221, 222, 223, 224, 225, 226, 213, 214, 215, 200, 201, 202, 203, 204, 205, 206, 207, 208] (by decide +kernel) (by decide +kernel)
set_option maxRecDepth 20000 in
theorem gX11_polls_X6_unpolled : GoodIn wsX11_polls (wsV RX11 305 RX6 yX6_unpolled wsX6_unpolled) := goodIn_app (goodIn_of _ (by decide +kernel)) ggX11_polls_X6_unpolled
set_option maxRecDepth 20000 in
theorem ggX11_polls_J6_bitCount_0f7a4 : GoodIn wsX11_polls wsJ6_bitCount_0f7a4 := goodIn_r _ [68, 69, 70, 71] (by decide +kernel) (by decide +kernel)
set_option maxRecDepth 20000 in
theorem gX11_polls_J6_bitCount_0f7a4 : GoodIn wsX11_polls (va_wsS RX11 308 yJ6_bitCount_0f7a4 wsJ6_bitCount_0f7a4) := goodIn_app (goodIn_of _ (by decide +kernel)) ggX11_polls_J6_bitCount_0f7a4
set_option maxRecDepth 20000 in
theorem ggX11_polls_X11_bitAt : GoodIn wsX11_polls wsX11_bitAt := goodIn_r _ [74] (by decide +kernel) (by decide +kernel)
set_option maxRecDepth 20000 in
theorem gX11_polls_X11_bitAt : GoodIn wsX11_polls (va_wsS RX11 313 yX11_bitAt wsX11_bitAt) := goodIn_app (goodIn_of _ (by decide +kernel)) ggX11_polls_X11_bitAt
set_option maxRecDepth 20000 in
theorem ggX11_polls_X11_drawSample : GoodIn wsX11_polls wsX11_drawSample := goodIn_r _ [78, 2, 79, 3, 80, 81, 82, 62, 83, 64, 42, 43, 44, 9, 45, 1, 46, 72, 73, 74, 184, 185, 186, 187, 188, 189, 190, 191, 192, 193, 194, 195, 196, 197, 198, 199, 200, 201, 202, 203, 204, 205, 206, 207, 208] (by decide +kernel) (by decide +kernel)
set_option maxRecDepth 20000 in
theorem gX11_polls_X11_drawSample : GoodIn wsX11_polls (wsV RX11 181 RX11 yX11_drawSample wsX11_drawSample) := goodIn_app (goodIn_of _ (by decide +kernel)) ggX11_polls_X11_drawSample
set_option maxRecDepth 20000 in
theorem ggX11_polls_X6_hold : GoodIn wsX11_polls wsX6_hold := goodIn_r _ [87, 53, 57, 55, 58, 52, 88, 89, 90, 91, 92, 93, 94, 95, 96, 97, 98, 99, 100, 101, 102, 103, 50, 104, 105, 106, 107, 108, 109, 110, 111, 112, 113, 36, 114, 40, 115, 116, 117, 23, 118, 31, 119, 120, 121, 122, 54, 123, 124, 125, 126, 56, 127, 128, 129, 130, 131, 132, 133, 134, 135, 136, 137, 138, 139, 140, 141, 142, 143, 144, 145, 146, 147, 148, 149, 150, 151, 152, 153, 66, 67, 68, 69, 70, 71, 154, 155, 156, 157, 158, 159, 160, 161, 162, 163, 164, 165, 166, 167, 168, 169, 170, 171, 172, 173, 174, 175, 176, 177, 178, 179, 180, 181, 182, 183, 216, 217, 218, 209, 210, 211, 212, 213, 214, 215, 200, 201, 202, 203, 204, 205, 206, 207, 208, 219, 220, 221, 222, 223, 224, 225, 226] (by decide +kernel) (by decide +kernel)
set_option maxRecDepth 20000 in
theorem gX11_polls_X6_hold : GoodIn wsX11_polls (wsV RX11 299 RX6 yX6_hold wsX6_hold) := goodIn_app (goodIn_of _ (by decide +kernel)) ggX11_polls_X6_hold
theorem dX11_polls_0 : decode cX11_polls 0 = .ok (.iload_n 1, 1) := by decide +kernel
theorem dX11_polls_1 : decode cX11_polls 1 = .ok (.iconst 1, 1) := by decide +kernel
theorem dX11_polls_2 : decode cX11_polls 2 = .ok (.if_icmp .lt 9, 3) := by decide +kernel
theorem dX11_polls_5 : decode cX11_polls 5 = .ok (.iload_n 1, 1) := by decide +kernel
theorem dX11_polls_6 : decode cX11_polls 6 = .ok (.bipush 100, 2) := by decide +kernel
theorem dX11_polls_8 : decode cX11_polls 8 = .ok (.if_icmp .le 5, 3) := by decide +kernel
theorem dX11_polls_11 : decode cX11_polls 11 = .ok (.iconst (-1), 1) := by decide +kernel
theorem dX11_polls_12 : decode cX11_polls 12 = .ok (.ireturn, 1) := by decide +kernel
theorem dX11_polls_13 : decode cX11_polls 13 = .ok (.aload_n 0, 1) := by decide +kernel
theorem dX11_polls_14 : decode cX11_polls 14 = .ok (.invokevirtual 130, 3) := by decide +kernel
theorem dX11_polls_17 : decode cX11_polls 17 = .ok (.aload_n 0, 1) := by decide +kernel
theorem dX11_polls_18 : decode cX11_polls 18 = .ok (.iload_n 2, 1) := by decide +kernel
theorem dX11_polls_19 : decode cX11_polls 19 = .ok (.putfield 173, 3) := by decide +kernel
theorem dX11_polls_22 : decode cX11_polls 22 = .ok (.iconst 0, 1) := by decide +kernel
theorem dX11_polls_23 : decode cX11_polls 23 = .ok (.istore_n 3, 1) := by decide +kernel
theorem dX11_polls_24 : decode cX11_polls 24 = .ok (.iconst 0, 1) := by decide +kernel
theorem dX11_polls_25 : decode cX11_polls 25 = .ok (.istore 4, 2) := by decide +kernel
theorem dX11_polls_27 : decode cX11_polls 27 = .ok (.iload 4, 2) := by decide +kernel
theorem dX11_polls_29 : decode cX11_polls 29 = .ok (.iload_n 1, 1) := by decide +kernel
theorem dX11_polls_30 : decode cX11_polls 30 = .ok (.if_icmp .ge 92, 3) := by decide +kernel
theorem dX11_polls_33 : decode cX11_polls 33 = .ok (.aload_n 0, 1) := by decide +kernel
theorem dX11_polls_34 : decode cX11_polls 34 = .ok (.aload_n 0, 1) := by decide +kernel
theorem dX11_polls_35 : decode cX11_polls 35 = .ok (.getfield 10, 3) := by decide +kernel
theorem dX11_polls_38 : decode cX11_polls 38 = .ok (.getfield 176, 3) := by decide +kernel
theorem dX11_polls_41 : decode cX11_polls 41 = .ok (.invokevirtual 178, 3) := by decide +kernel
theorem dX11_polls_44 : decode cX11_polls 44 = .ok (.istore 5, 2) := by decide +kernel
theorem dX11_polls_46 : decode cX11_polls 46 = .ok (.aload_n 0, 1) := by decide +kernel
theorem dX11_polls_47 : decode cX11_polls 47 = .ok (.getfield 44, 3) := by decide +kernel
theorem dX11_polls_50 : decode cX11_polls 50 = .ok (.iload 5, 2) := by decide +kernel
theorem dX11_polls_52 : decode cX11_polls 52 = .ok (.invokevirtual 305, 3) := by decide +kernel
theorem dX11_polls_55 : decode cX11_polls 55 = .ok (.istore 6, 2) := by decide +kernel
theorem dX11_polls_57 : decode cX11_polls 57 = .ok (.iload 6, 2) := by decide +kernel
theorem dX11_polls_59 : decode cX11_polls 59 = .ok (.ifCond .eq 57, 3) := by decide +kernel
theorem dX11_polls_62 : decode cX11_polls 62 = .ok (.iload 6, 2) := by decide +kernel
theorem dX11_polls_64 : decode cX11_polls 64 = .ok (.aload_n 0, 1) := by decide +kernel
theorem dX11_polls_65 : decode cX11_polls 65 = .ok (.iload 6, 2) := by decide +kernel
theorem dX11_polls_67 : decode cX11_polls 67 = .ok (.invokestatic 308, 3) := by decide +kernel
theorem dX11_polls_70 : decode cX11_polls 70 = .ok (.invokevirtual 178, 3) := by decide +kernel
theorem dX11_polls_73 : decode cX11_polls 73 = .ok (.invokestatic 313, 3) := by decide +kernel
theorem dX11_polls_76 : decode cX11_polls 76 = .ok (.istore 7, 2) := by decide +kernel
theorem dX11_polls_78 : decode cX11_polls 78 = .ok (.aload_n 0, 1) := by decide +kernel
theorem dX11_polls_79 : decode cX11_polls 79 = .ok (.dup, 1) := by decide +kernel
theorem dX11_polls_80 : decode cX11_polls 80 = .ok (.getfield 111, 3) := by decide +kernel
theorem dX11_polls_83 : decode cX11_polls 83 = .ok (.iconst 1, 1) := by decide +kernel
theorem dX11_polls_84 : decode cX11_polls 84 = .ok (.iadd, 1) := by decide +kernel
theorem dX11_polls_85 : decode cX11_polls 85 = .ok (.putfield 111, 3) := by decide +kernel
theorem dX11_polls_88 : decode cX11_polls 88 = .ok (.iload_n 3, 1) := by decide +kernel
theorem dX11_polls_89 : decode cX11_polls 89 = .ok (.aload_n 0, 1) := by decide +kernel
theorem dX11_polls_90 : decode cX11_polls 90 = .ok (.getfield 44, 3) := by decide +kernel
theorem dX11_polls_93 : decode cX11_polls 93 = .ok (.iload 5, 2) := by decide +kernel
theorem dX11_polls_95 : decode cX11_polls 95 = .ok (.iload 7, 2) := by decide +kernel
theorem dX11_polls_97 : decode cX11_polls 97 = .ok (.aload_n 0, 1) := by decide +kernel
theorem dX11_polls_98 : decode cX11_polls 98 = .ok (.iload 5, 2) := by decide +kernel
theorem dX11_polls_100 : decode cX11_polls 100 = .ok (.invokevirtual 181, 3) := by decide +kernel
theorem dX11_polls_103 : decode cX11_polls 103 = .ok (.invokevirtual 299, 3) := by decide +kernel
theorem dX11_polls_106 : decode cX11_polls 106 = .ok (.ifCond .le 7, 3) := by decide +kernel
theorem dX11_polls_109 : decode cX11_polls 109 = .ok (.iconst 1, 1) := by decide +kernel
theorem dX11_polls_110 : decode cX11_polls 110 = .ok (.goto 4, 3) := by decide +kernel
theorem dX11_polls_113 : decode cX11_polls 113 = .ok (.iconst 0, 1) := by decide +kernel
theorem dX11_polls_114 : decode cX11_polls 114 = .ok (.iadd, 1) := by decide +kernel
theorem dX11_polls_115 : decode cX11_polls 115 = .ok (.istore_n 3, 1) := by decide +kernel
theorem dX11_polls_116 : decode cX11_polls 116 = .ok (.iinc 4 1, 3) := by decide +kernel
theorem dX11_polls_119 : decode cX11_polls 119 = .ok (.goto (-92), 3) := by decide +kernel
theorem dX11_polls_122 : decode cX11_polls 122 = .ok (.iload_n 3, 1) := by decide +kernel
theorem dX11_polls_123 : decode cX11_polls 123 = .ok (.ireturn, 1) := by decide +kernel
set_option maxRecDepth 20000 in
theorem ggX11_of_X3_isEntry : GoodIn wsX11_of wsX3_isEntry := goodIn_r _ [13, 14, 57, 58, 59, 60, 61, 62, 63, 64] (by decide +kernel) (by decide +kernel)
set_option maxRecDepth 20000 in
theorem gX11_of_X3_isEntry : GoodIn wsX11_of (wsV RX11 316 RX3 yX3_isEntry wsX3_isEntry) := goodIn_app (goodIn_of _ (by decide +kernel)) ggX11_of_X3_isEntry
set_option maxRecDepth 20000 in
theorem ggX11_of_X6_nodesThatSee : GoodIn wsX11_of wsX6_nodesThatSee := goodIn_r _ [19, 20, 21, 22, 23, 24, 25, 26, 18, 27, 28, 29, 30, 31, 32, 33, 34, 35, 36, 37, 38, 39, 40, 65, 66, 67, 68, 69, 70, 71, 72, 73, 74, 75, 76, 77, 78, 79, 80, 57, 58, 59, 60, 61, 62, 63, 64, 81, 82, 83] (by decide +kernel) (by decide +kernel)
set_option maxRecDepth 20000 in
theorem gX11_of_X6_nodesThatSee : GoodIn wsX11_of (wsV RX11 337 RX6 yX6_nodesThatSee wsX6_nodesThatSee) := goodIn_app (goodIn_of _ (by decide +kernel)) ggX11_of_X6_nodesThatSee
theorem dX11_of_0 : decode cX11_of 0 = .ok (.aload_n 0, 1) := by decide +kernel
theorem dX11_of_1 : decode cX11_of 1 = .ok (.getfield 26, 3) := by decide +kernel
theorem dX11_of_4 : decode cX11_of 4 = .ok (.iload_n 1, 1) := by decide +kernel
theorem dX11_of_5 : decode cX11_of 5 = .ok (.invokevirtual 316, 3) := by decide +kernel
theorem dX11_of_8 : decode cX11_of 8 = .ok (.ifCond .ne 6, 3) := by decide +kernel
theorem dX11_of_11 : decode cX11_of 11 = .ok (.bipush (-2), 2) := by decide +kernel
theorem dX11_of_13 : decode cX11_of 13 = .ok (.ireturn, 1) := by decide +kernel
theorem dX11_of_14 : decode cX11_of 14 = .ok (.iload_n 2, 1) := by decide +kernel
theorem dX11_of_15 : decode cX11_of 15 = .ok (.tableswitch 125 0 7 #[45, 55, 65, 75, 85, 95, 105, 115], 45) := by decide +kernel
theorem dX11_of_60 : decode cX11_of 60 = .ok (.aload_n 0, 1) := by decide +kernel
theorem dX11_of_61 : decode cX11_of 61 = .ok (.getfield 26, 3) := by decide +kernel
theorem dX11_of_64 : decode cX11_of 64 = .ok (.getfield 319, 3) := by decide +kernel
theorem dX11_of_67 : decode cX11_of 67 = .ok (.iload_n 1, 1) := by decide +kernel
theorem dX11_of_68 : decode cX11_of 68 = .ok (.iaload, 1) := by decide +kernel
theorem dX11_of_69 : decode cX11_of 69 = .ok (.ireturn, 1) := by decide +kernel
theorem dX11_of_70 : decode cX11_of 70 = .ok (.aload_n 0, 1) := by decide +kernel
theorem dX11_of_71 : decode cX11_of 71 = .ok (.getfield 26, 3) := by decide +kernel
theorem dX11_of_74 : decode cX11_of 74 = .ok (.getfield 322, 3) := by decide +kernel
theorem dX11_of_77 : decode cX11_of 77 = .ok (.iload_n 1, 1) := by decide +kernel
theorem dX11_of_78 : decode cX11_of 78 = .ok (.iaload, 1) := by decide +kernel
theorem dX11_of_79 : decode cX11_of 79 = .ok (.ireturn, 1) := by decide +kernel
theorem dX11_of_80 : decode cX11_of 80 = .ok (.aload_n 0, 1) := by decide +kernel
theorem dX11_of_81 : decode cX11_of 81 = .ok (.getfield 26, 3) := by decide +kernel
theorem dX11_of_84 : decode cX11_of 84 = .ok (.getfield 325, 3) := by decide +kernel
theorem dX11_of_87 : decode cX11_of 87 = .ok (.iload_n 1, 1) := by decide +kernel
theorem dX11_of_88 : decode cX11_of 88 = .ok (.iaload, 1) := by decide +kernel
theorem dX11_of_89 : decode cX11_of 89 = .ok (.ireturn, 1) := by decide +kernel
theorem dX11_of_90 : decode cX11_of 90 = .ok (.aload_n 0, 1) := by decide +kernel
theorem dX11_of_91 : decode cX11_of 91 = .ok (.getfield 26, 3) := by decide +kernel
theorem dX11_of_94 : decode cX11_of 94 = .ok (.getfield 328, 3) := by decide +kernel
theorem dX11_of_97 : decode cX11_of 97 = .ok (.iload_n 1, 1) := by decide +kernel
theorem dX11_of_98 : decode cX11_of 98 = .ok (.iaload, 1) := by decide +kernel
theorem dX11_of_99 : decode cX11_of 99 = .ok (.ireturn, 1) := by decide +kernel
theorem dX11_of_100 : decode cX11_of 100 = .ok (.aload_n 0, 1) := by decide +kernel
theorem dX11_of_101 : decode cX11_of 101 = .ok (.getfield 26, 3) := by decide +kernel
theorem dX11_of_104 : decode cX11_of 104 = .ok (.getfield 331, 3) := by decide +kernel
theorem dX11_of_107 : decode cX11_of 107 = .ok (.iload_n 1, 1) := by decide +kernel
theorem dX11_of_108 : decode cX11_of 108 = .ok (.iaload, 1) := by decide +kernel
theorem dX11_of_109 : decode cX11_of 109 = .ok (.ireturn, 1) := by decide +kernel
theorem dX11_of_110 : decode cX11_of 110 = .ok (.aload_n 0, 1) := by decide +kernel
theorem dX11_of_111 : decode cX11_of 111 = .ok (.getfield 26, 3) := by decide +kernel
theorem dX11_of_114 : decode cX11_of 114 = .ok (.getfield 334, 3) := by decide +kernel
theorem dX11_of_117 : decode cX11_of 117 = .ok (.iload_n 1, 1) := by decide +kernel
theorem dX11_of_118 : decode cX11_of 118 = .ok (.iaload, 1) := by decide +kernel
theorem dX11_of_119 : decode cX11_of 119 = .ok (.ireturn, 1) := by decide +kernel
theorem dX11_of_120 : decode cX11_of 120 = .ok (.aload_n 0, 1) := by decide +kernel
theorem dX11_of_121 : decode cX11_of 121 = .ok (.getfield 44, 3) := by decide +kernel
theorem dX11_of_124 : decode cX11_of 124 = .ok (.iload_n 1, 1) := by decide +kernel
theorem dX11_of_125 : decode cX11_of 125 = .ok (.iconst 1, 1) := by decide +kernel
theorem dX11_of_126 : decode cX11_of 126 = .ok (.invokevirtual 337, 3) := by decide +kernel
theorem dX11_of_129 : decode cX11_of 129 = .ok (.ireturn, 1) := by decide +kernel
theorem dX11_of_130 : decode cX11_of 130 = .ok (.aload_n 0, 1) := by decide +kernel
theorem dX11_of_131 : decode cX11_of 131 = .ok (.getfield 44, 3) := by decide +kernel
theorem dX11_of_134 : decode cX11_of 134 = .ok (.iload_n 1, 1) := by decide +kernel
theorem dX11_of_135 : decode cX11_of 135 = .ok (.iconst 2, 1) := by decide +kernel
theorem dX11_of_136 : decode cX11_of 136 = .ok (.invokevirtual 337, 3) := by decide +kernel
theorem dX11_of_139 : decode cX11_of 139 = .ok (.ireturn, 1) := by decide +kernel
theorem dX11_of_140 : decode cX11_of 140 = .ok (.bipush (-2), 2) := by decide +kernel
theorem dX11_of_142 : decode cX11_of 142 = .ok (.ireturn, 1) := by decide +kernel
set_option maxRecDepth 20000 in
theorem ggX11_view_X11_isHonest : GoodIn wsX11_view wsX11_isHonest := goodIn_r _ [13, 14, 4, 15, 16, 17, 18, 19, 20, 21, 69, 70, 71, 72, 73, 74, 75, 76, 77, 78, 79, 80, 81, 82, 83, 84, 85, 86, 87, 88, 92, 93, 94, 95, 96, 97, 98, 99, 100] (by decide +kernel) (by decide +kernel)
set_option maxRecDepth 20000 in
theorem gX11_view_X11_isHonest : GoodIn wsX11_view (wsV RX11 340 RX11 yX11_isHonest wsX11_isHonest) := goodIn_app (goodIn_of _ (by decide +kernel)) ggX11_view_X11_isHonest
set_option maxRecDepth 20000 in
theorem ggX11_view_X3_isEntry : GoodIn wsX11_view wsX3_isEntry := goodIn_r _ [26, 27, 101, 102, 103, 104, 105, 106, 107, 108] (by decide +kernel) (by decide +kernel)
set_option maxRecDepth 20000 in
theorem gX11_view_X3_isEntry : GoodIn wsX11_view (wsV RX11 316 RX3 yX3_isEntry wsX3_isEntry) := goodIn_app (goodIn_of _ (by decide +kernel)) ggX11_view_X3_isEntry
set_option maxRecDepth 20000 in
theorem ggX11_view_X6_confidence : GoodIn wsX11_view wsX6_confidence := goodIn_r _ [32, 33, 34, 35, 36, 37, 38, 39, 40, 41, 42, 89, 90, 91, 109, 110, 111, 101, 102, 103, 104, 105, 106, 107, 108] (by decide +kernel) (by decide +kernel)
set_option maxRecDepth 20000 in
theorem gX11_view_X6_confidence : GoodIn wsX11_view (wsV RX11 352 RX6 yX6_confidence wsX6_confidence) := goodIn_app (goodIn_of _ (by decide +kernel)) ggX11_view_X6_confidence
set_option maxRecDepth 20000 in
theorem ggX11_view_X6_isStrong : GoodIn wsX11_view wsX6_isStrong := goodIn_r _ [46, 34, 47, 48, 49, 50, 25, 51, 52, 53, 23, 24, 26, 27, 54, 55, 56, 57, 58, 59, 109, 110, 111, 101, 102, 103, 104, 105, 106, 107, 108, 89, 90, 91] (by decide +kernel) (by decide +kernel)
set_option maxRecDepth 20000 in
theorem gX11_view_X6_isStrong : GoodIn wsX11_view (wsV RX11 356 RX6 yX6_isStrong wsX6_isStrong) := goodIn_app (goodIn_of _ (by decide +kernel)) ggX11_view_X6_isStrong
set_option maxRecDepth 20000 in
theorem ggX11_view_X6_standing : GoodIn wsX11_view wsX6_standing := goodIn_r _ [63, 34, 47, 64, 65, 66, 57, 67, 68, 55, 56, 58, 59, 54, 109, 110, 111, 101, 102, 103, 104, 105, 106, 107, 108, 89, 90, 91] (by decide +kernel) (by decide +kernel)
set_option maxRecDepth 20000 in
theorem gX11_view_X6_standing : GoodIn wsX11_view (wsV RX11 360 RX6 yX6_standing wsX6_standing) := goodIn_app (goodIn_of _ (by decide +kernel)) ggX11_view_X6_standing
theorem dX11_view_0 : decode cX11_view 0 = .ok (.aload_n 0, 1) := by decide +kernel
theorem dX11_view_1 : decode cX11_view 1 = .ok (.iload_n 1, 1) := by decide +kernel
theorem dX11_view_2 : decode cX11_view 2 = .ok (.invokevirtual 340, 3) := by decide +kernel
theorem dX11_view_5 : decode cX11_view 5 = .ok (.ifCond .eq 14, 3) := by decide +kernel
theorem dX11_view_8 : decode cX11_view 8 = .ok (.aload_n 0, 1) := by decide +kernel
theorem dX11_view_9 : decode cX11_view 9 = .ok (.getfield 26, 3) := by decide +kernel
theorem dX11_view_12 : decode cX11_view 12 = .ok (.iload_n 2, 1) := by decide +kernel
theorem dX11_view_13 : decode cX11_view 13 = .ok (.invokevirtual 316, 3) := by decide +kernel
theorem dX11_view_16 : decode cX11_view 16 = .ok (.ifCond .ne 11, 3) := by decide +kernel
theorem dX11_view_19 : decode cX11_view 19 = .ok (.new 343, 3) := by decide +kernel
theorem dX11_view_22 : decode cX11_view 22 = .ok (.dup, 1) := by decide +kernel
theorem dX11_view_23 : decode cX11_view 23 = .ok (.invokespecial 345, 3) := by decide +kernel
theorem dX11_view_26 : decode cX11_view 26 = .ok (.athrow, 1) := by decide +kernel
theorem dX11_view_27 : decode cX11_view 27 = .ok (.aload_n 0, 1) := by decide +kernel
theorem dX11_view_28 : decode cX11_view 28 = .ok (.getfield 19, 3) := by decide +kernel
theorem dX11_view_31 : decode cX11_view 31 = .ok (.getfield 285, 3) := by decide +kernel
theorem dX11_view_34 : decode cX11_view 34 = .ok (.iload_n 1, 1) := by decide +kernel
theorem dX11_view_35 : decode cX11_view 35 = .ok (.aaload, 1) := by decide +kernel
theorem dX11_view_36 : decode cX11_view 36 = .ok (.astore 4, 2) := by decide +kernel
theorem dX11_view_38 : decode cX11_view 38 = .ok (.iload_n 3, 1) := by decide +kernel
theorem dX11_view_39 : decode cX11_view 39 = .ok (.tableswitch 94 0 4 #[33, 43, 53, 64, 83], 33) := by decide +kernel
theorem dX11_view_72 : decode cX11_view 72 = .ok (.aload 4, 2) := by decide +kernel
theorem dX11_view_74 : decode cX11_view 74 = .ok (.getfield 346, 3) := by decide +kernel
theorem dX11_view_77 : decode cX11_view 77 = .ok (.iload_n 2, 1) := by decide +kernel
theorem dX11_view_78 : decode cX11_view 78 = .ok (.ishr, 1) := by decide +kernel
theorem dX11_view_79 : decode cX11_view 79 = .ok (.iconst 1, 1) := by decide +kernel
theorem dX11_view_80 : decode cX11_view 80 = .ok (.iand, 1) := by decide +kernel
theorem dX11_view_81 : decode cX11_view 81 = .ok (.ireturn, 1) := by decide +kernel
theorem dX11_view_82 : decode cX11_view 82 = .ok (.aload 4, 2) := by decide +kernel
theorem dX11_view_84 : decode cX11_view 84 = .ok (.getfield 349, 3) := by decide +kernel
theorem dX11_view_87 : decode cX11_view 87 = .ok (.iload_n 2, 1) := by decide +kernel
theorem dX11_view_88 : decode cX11_view 88 = .ok (.ishr, 1) := by decide +kernel
theorem dX11_view_89 : decode cX11_view 89 = .ok (.iconst 1, 1) := by decide +kernel
theorem dX11_view_90 : decode cX11_view 90 = .ok (.iand, 1) := by decide +kernel
theorem dX11_view_91 : decode cX11_view 91 = .ok (.ireturn, 1) := by decide +kernel
theorem dX11_view_92 : decode cX11_view 92 = .ok (.aload_n 0, 1) := by decide +kernel
theorem dX11_view_93 : decode cX11_view 93 = .ok (.getfield 44, 3) := by decide +kernel
theorem dX11_view_96 : decode cX11_view 96 = .ok (.aload 4, 2) := by decide +kernel
theorem dX11_view_98 : decode cX11_view 98 = .ok (.iload_n 2, 1) := by decide +kernel
theorem dX11_view_99 : decode cX11_view 99 = .ok (.invokevirtual 352, 3) := by decide +kernel
theorem dX11_view_102 : decode cX11_view 102 = .ok (.ireturn, 1) := by decide +kernel
theorem dX11_view_103 : decode cX11_view 103 = .ok (.aload_n 0, 1) := by decide +kernel
theorem dX11_view_104 : decode cX11_view 104 = .ok (.getfield 44, 3) := by decide +kernel
theorem dX11_view_107 : decode cX11_view 107 = .ok (.aload 4, 2) := by decide +kernel
theorem dX11_view_109 : decode cX11_view 109 = .ok (.iload_n 2, 1) := by decide +kernel
theorem dX11_view_110 : decode cX11_view 110 = .ok (.invokevirtual 356, 3) := by decide +kernel
theorem dX11_view_113 : decode cX11_view 113 = .ok (.ifCond .eq 7, 3) := by decide +kernel
theorem dX11_view_116 : decode cX11_view 116 = .ok (.iconst 1, 1) := by decide +kernel
theorem dX11_view_117 : decode cX11_view 117 = .ok (.goto 4, 3) := by decide +kernel
theorem dX11_view_120 : decode cX11_view 120 = .ok (.iconst 0, 1) := by decide +kernel
theorem dX11_view_121 : decode cX11_view 121 = .ok (.ireturn, 1) := by decide +kernel
theorem dX11_view_122 : decode cX11_view 122 = .ok (.aload_n 0, 1) := by decide +kernel
theorem dX11_view_123 : decode cX11_view 123 = .ok (.getfield 44, 3) := by decide +kernel
theorem dX11_view_126 : decode cX11_view 126 = .ok (.aload 4, 2) := by decide +kernel
theorem dX11_view_128 : decode cX11_view 128 = .ok (.iload_n 2, 1) := by decide +kernel
theorem dX11_view_129 : decode cX11_view 129 = .ok (.invokevirtual 360, 3) := by decide +kernel
theorem dX11_view_132 : decode cX11_view 132 = .ok (.ireturn, 1) := by decide +kernel
theorem dX11_view_133 : decode cX11_view 133 = .ok (.new 343, 3) := by decide +kernel
theorem dX11_view_136 : decode cX11_view 136 = .ok (.dup, 1) := by decide +kernel
theorem dX11_view_137 : decode cX11_view 137 = .ok (.invokespecial 345, 3) := by decide +kernel
theorem dX11_view_140 : decode cX11_view 140 = .ok (.athrow, 1) := by decide +kernel
set_option maxRecDepth 20000 in
theorem ggX11_set_X11_isHonest : GoodIn wsX11_set wsX11_isHonest := goodIn_r _ [9, 10, 3, 11, 12, 13, 14, 15, 16, 17, 24, 25, 26, 27, 28, 29, 30, 31, 32, 33, 34, 35, 36, 37, 38, 39, 40, 41, 42, 43, 44, 45, 46, 47, 48, 49, 50, 51, 52] (by decide +kernel) (by decide +kernel)
set_option maxRecDepth 20000 in
theorem gX11_set_X11_isHonest : GoodIn wsX11_set (wsV RX11 340 RX11 yX11_isHonest wsX11_isHonest) := goodIn_app (goodIn_of _ (by decide +kernel)) ggX11_set_X11_isHonest
set_option maxRecDepth 20000 in
theorem ggX11_set_X10_get : GoodIn wsX11_set wsX10_get := goodIn_r _ [22, 23, 53, 54, 55] (by decide +kernel) (by decide +kernel)
set_option maxRecDepth 20000 in
theorem gX11_set_X10_get : GoodIn wsX11_set (wsV RX11 363 RX10 yX10_get wsX10_get) := goodIn_app (goodIn_of _ (by decide +kernel)) ggX11_set_X10_get
theorem dX11_set_0 : decode cX11_set 0 = .ok (.aload_n 0, 1) := by decide +kernel
theorem dX11_set_1 : decode cX11_set 1 = .ok (.iload_n 1, 1) := by decide +kernel
theorem dX11_set_2 : decode cX11_set 2 = .ok (.invokevirtual 340, 3) := by decide +kernel
theorem dX11_set_5 : decode cX11_set 5 = .ok (.ifCond .eq 22, 3) := by decide +kernel
theorem dX11_set_8 : decode cX11_set 8 = .ok (.iload_n 2, 1) := by decide +kernel
theorem dX11_set_9 : decode cX11_set 9 = .ok (.ifCond .lt 18, 3) := by decide +kernel
theorem dX11_set_12 : decode cX11_set 12 = .ok (.iload_n 2, 1) := by decide +kernel
theorem dX11_set_13 : decode cX11_set 13 = .ok (.bipush 8, 2) := by decide +kernel
theorem dX11_set_15 : decode cX11_set 15 = .ok (.if_icmp .ge 12, 3) := by decide +kernel
theorem dX11_set_18 : decode cX11_set 18 = .ok (.iload_n 3, 1) := by decide +kernel
theorem dX11_set_19 : decode cX11_set 19 = .ok (.ifCond .lt 8, 3) := by decide +kernel
theorem dX11_set_22 : decode cX11_set 22 = .ok (.iload_n 3, 1) := by decide +kernel
theorem dX11_set_23 : decode cX11_set 23 = .ok (.iconst 3, 1) := by decide +kernel
theorem dX11_set_24 : decode cX11_set 24 = .ok (.if_icmp .le 11, 3) := by decide +kernel
theorem dX11_set_27 : decode cX11_set 27 = .ok (.new 343, 3) := by decide +kernel
theorem dX11_set_30 : decode cX11_set 30 = .ok (.dup, 1) := by decide +kernel
theorem dX11_set_31 : decode cX11_set 31 = .ok (.invokespecial 345, 3) := by decide +kernel
theorem dX11_set_34 : decode cX11_set 34 = .ok (.athrow, 1) := by decide +kernel
theorem dX11_set_35 : decode cX11_set 35 = .ok (.aload_n 0, 1) := by decide +kernel
theorem dX11_set_36 : decode cX11_set 36 = .ok (.getfield 19, 3) := by decide +kernel
theorem dX11_set_39 : decode cX11_set 39 = .ok (.getfield 285, 3) := by decide +kernel
theorem dX11_set_42 : decode cX11_set 42 = .ok (.iload_n 1, 1) := by decide +kernel
theorem dX11_set_43 : decode cX11_set 43 = .ok (.aaload, 1) := by decide +kernel
theorem dX11_set_44 : decode cX11_set 44 = .ok (.iload_n 2, 1) := by decide +kernel
theorem dX11_set_45 : decode cX11_set 45 = .ok (.iload_n 3, 1) := by decide +kernel
theorem dX11_set_46 : decode cX11_set 46 = .ok (.invokevirtual 363, 3) := by decide +kernel
theorem dX11_set_49 : decode cX11_set 49 = .ok (.ireturn, 1) := by decide +kernel
set_option maxRecDepth 20000 in
theorem ggX11_alike_X11_isHonest : GoodIn wsX11_alike wsX11_isHonest := goodIn_r _ [10, 11, 4, 12, 13, 14, 15, 16, 17, 18, 37, 38, 39, 40, 41, 42, 43, 44, 45, 46, 47, 48, 49, 50, 51, 52, 61, 62, 63, 64, 65, 66, 67, 68, 69, 70, 71, 72, 73] (by decide +kernel) (by decide +kernel)
set_option maxRecDepth 20000 in
theorem gX11_alike_X11_isHonest : GoodIn wsX11_alike (wsV RX11 340 RX11 yX11_isHonest wsX11_isHonest) := goodIn_app (goodIn_of _ (by decide +kernel)) ggX11_alike_X11_isHonest
set_option maxRecDepth 20000 in
theorem ggX11_alike_X6_standing : GoodIn wsX11_alike wsX6_standing := goodIn_r _ [23, 24, 25, 26, 27, 28, 29, 30, 31, 32, 33, 34, 35, 36, 74, 75, 76, 53, 54, 55, 56, 57, 58, 59, 60, 77, 78, 79] (by decide +kernel) (by decide +kernel)
set_option maxRecDepth 20000 in
theorem gX11_alike_X6_standing : GoodIn wsX11_alike (wsV RX11 360 RX6 yX6_standing wsX6_standing) := goodIn_app (goodIn_of _ (by decide +kernel)) ggX11_alike_X6_standing
theorem dX11_alike_0 : decode cX11_alike 0 = .ok (.aload_n 0, 1) := by decide +kernel
theorem dX11_alike_1 : decode cX11_alike 1 = .ok (.iload_n 1, 1) := by decide +kernel
theorem dX11_alike_2 : decode cX11_alike 2 = .ok (.invokevirtual 340, 3) := by decide +kernel
theorem dX11_alike_5 : decode cX11_alike 5 = .ok (.ifCond .eq 11, 3) := by decide +kernel
theorem dX11_alike_8 : decode cX11_alike 8 = .ok (.aload_n 0, 1) := by decide +kernel
theorem dX11_alike_9 : decode cX11_alike 9 = .ok (.iload_n 2, 1) := by decide +kernel
theorem dX11_alike_10 : decode cX11_alike 10 = .ok (.invokevirtual 340, 3) := by decide +kernel
theorem dX11_alike_13 : decode cX11_alike 13 = .ok (.ifCond .ne 5, 3) := by decide +kernel
theorem dX11_alike_16 : decode cX11_alike 16 = .ok (.iconst (-1), 1) := by decide +kernel
theorem dX11_alike_17 : decode cX11_alike 17 = .ok (.ireturn, 1) := by decide +kernel
theorem dX11_alike_18 : decode cX11_alike 18 = .ok (.iconst 0, 1) := by decide +kernel
theorem dX11_alike_19 : decode cX11_alike 19 = .ok (.istore_n 3, 1) := by decide +kernel
theorem dX11_alike_20 : decode cX11_alike 20 = .ok (.iconst 0, 1) := by decide +kernel
theorem dX11_alike_21 : decode cX11_alike 21 = .ok (.istore 4, 2) := by decide +kernel
theorem dX11_alike_23 : decode cX11_alike 23 = .ok (.iload 4, 2) := by decide +kernel
theorem dX11_alike_25 : decode cX11_alike 25 = .ok (.aload_n 0, 1) := by decide +kernel
theorem dX11_alike_26 : decode cX11_alike 26 = .ok (.getfield 26, 3) := by decide +kernel
theorem dX11_alike_29 : decode cX11_alike 29 = .ok (.getfield 275, 3) := by decide +kernel
theorem dX11_alike_32 : decode cX11_alike 32 = .ok (.if_icmp .ge 51, 3) := by decide +kernel
theorem dX11_alike_35 : decode cX11_alike 35 = .ok (.aload_n 0, 1) := by decide +kernel
theorem dX11_alike_36 : decode cX11_alike 36 = .ok (.getfield 44, 3) := by decide +kernel
theorem dX11_alike_39 : decode cX11_alike 39 = .ok (.aload_n 0, 1) := by decide +kernel
theorem dX11_alike_40 : decode cX11_alike 40 = .ok (.getfield 19, 3) := by decide +kernel
theorem dX11_alike_43 : decode cX11_alike 43 = .ok (.getfield 285, 3) := by decide +kernel
theorem dX11_alike_46 : decode cX11_alike 46 = .ok (.iload_n 1, 1) := by decide +kernel
theorem dX11_alike_47 : decode cX11_alike 47 = .ok (.aaload, 1) := by decide +kernel
theorem dX11_alike_48 : decode cX11_alike 48 = .ok (.iload 4, 2) := by decide +kernel
theorem dX11_alike_50 : decode cX11_alike 50 = .ok (.invokevirtual 360, 3) := by decide +kernel
theorem dX11_alike_53 : decode cX11_alike 53 = .ok (.aload_n 0, 1) := by decide +kernel
theorem dX11_alike_54 : decode cX11_alike 54 = .ok (.getfield 44, 3) := by decide +kernel
theorem dX11_alike_57 : decode cX11_alike 57 = .ok (.aload_n 0, 1) := by decide +kernel
theorem dX11_alike_58 : decode cX11_alike 58 = .ok (.getfield 19, 3) := by decide +kernel
theorem dX11_alike_61 : decode cX11_alike 61 = .ok (.getfield 285, 3) := by decide +kernel
theorem dX11_alike_64 : decode cX11_alike 64 = .ok (.iload_n 2, 1) := by decide +kernel
theorem dX11_alike_65 : decode cX11_alike 65 = .ok (.aaload, 1) := by decide +kernel
theorem dX11_alike_66 : decode cX11_alike 66 = .ok (.iload 4, 2) := by decide +kernel
theorem dX11_alike_68 : decode cX11_alike 68 = .ok (.invokevirtual 360, 3) := by decide +kernel
theorem dX11_alike_71 : decode cX11_alike 71 = .ok (.if_icmp .ne 6, 3) := by decide +kernel
theorem dX11_alike_74 : decode cX11_alike 74 = .ok (.iinc 3 1, 3) := by decide +kernel
theorem dX11_alike_77 : decode cX11_alike 77 = .ok (.iinc 4 1, 3) := by decide +kernel
theorem dX11_alike_80 : decode cX11_alike 80 = .ok (.goto (-57), 3) := by decide +kernel
theorem dX11_alike_83 : decode cX11_alike 83 = .ok (.iload_n 3, 1) := by decide +kernel
theorem dX11_alike_84 : decode cX11_alike 84 = .ok (.ireturn, 1) := by decide +kernel
set_option maxRecDepth 20000 in
theorem ggX11_back_X4_takeFrom : GoodIn wsX11_back wsX4_takeFrom := goodIn_r _ [10, 11, 12, 13, 14, 15, 16, 17, 18, 19, 20, 21, 22, 23, 24, 25, 26, 27, 44, 45, 46, 47, 48, 49, 50] (by decide +kernel) (by decide +kernel)
set_option maxRecDepth 20000 in
theorem gX11_back_X4_takeFrom : GoodIn wsX11_back (wsV RX11 369 RX4 yX4_takeFrom wsX4_takeFrom) := goodIn_app (goodIn_of _ (by decide +kernel)) ggX11_back_X4_takeFrom
theorem dX11_back_0 : decode cX11_back 0 = .ok (.aload_n 0, 1) := by decide +kernel
theorem dX11_back_1 : decode cX11_back 1 = .ok (.getfield 114, 3) := by decide +kernel
theorem dX11_back_4 : decode cX11_back 4 = .ok (.ifCond .ne 5, 3) := by decide +kernel
theorem dX11_back_7 : decode cX11_back 7 = .ok (.iconst 0, 1) := by decide +kernel
theorem dX11_back_8 : decode cX11_back 8 = .ok (.ireturn, 1) := by decide +kernel
theorem dX11_back_9 : decode cX11_back 9 = .ok (.aload_n 0, 1) := by decide +kernel
theorem dX11_back_10 : decode cX11_back 10 = .ok (.dup, 1) := by decide +kernel
theorem dX11_back_11 : decode cX11_back 11 = .ok (.getfield 114, 3) := by decide +kernel
theorem dX11_back_14 : decode cX11_back 14 = .ok (.iconst 1, 1) := by decide +kernel
theorem dX11_back_15 : decode cX11_back 15 = .ok (.isub, 1) := by decide +kernel
theorem dX11_back_16 : decode cX11_back 16 = .ok (.putfield 114, 3) := by decide +kernel
theorem dX11_back_19 : decode cX11_back 19 = .ok (.aload_n 0, 1) := by decide +kernel
theorem dX11_back_20 : decode cX11_back 20 = .ok (.aload_n 0, 1) := by decide +kernel
theorem dX11_back_21 : decode cX11_back 21 = .ok (.getfield 366, 3) := by decide +kernel
theorem dX11_back_24 : decode cX11_back 24 = .ok (.bipush 8, 2) := by decide +kernel
theorem dX11_back_26 : decode cX11_back 26 = .ok (.iadd, 1) := by decide +kernel
theorem dX11_back_27 : decode cX11_back 27 = .ok (.iconst 1, 1) := by decide +kernel
theorem dX11_back_28 : decode cX11_back 28 = .ok (.isub, 1) := by decide +kernel
theorem dX11_back_29 : decode cX11_back 29 = .ok (.bipush 8, 2) := by decide +kernel
theorem dX11_back_31 : decode cX11_back 31 = .ok (.irem, 1) := by decide +kernel
theorem dX11_back_32 : decode cX11_back 32 = .ok (.putfield 366, 3) := by decide +kernel
theorem dX11_back_35 : decode cX11_back 35 = .ok (.aload_n 0, 1) := by decide +kernel
theorem dX11_back_36 : decode cX11_back 36 = .ok (.getfield 19, 3) := by decide +kernel
theorem dX11_back_39 : decode cX11_back 39 = .ok (.aload_n 0, 1) := by decide +kernel
theorem dX11_back_40 : decode cX11_back 40 = .ok (.getfield 73, 3) := by decide +kernel
theorem dX11_back_43 : decode cX11_back 43 = .ok (.aload_n 0, 1) := by decide +kernel
theorem dX11_back_44 : decode cX11_back 44 = .ok (.getfield 366, 3) := by decide +kernel
theorem dX11_back_47 : decode cX11_back 47 = .ok (.aaload, 1) := by decide +kernel
theorem dX11_back_48 : decode cX11_back 48 = .ok (.invokevirtual 369, 3) := by decide +kernel
theorem dX11_back_51 : decode cX11_back 51 = .ok (.aload_n 0, 1) := by decide +kernel
theorem dX11_back_52 : decode cX11_back 52 = .ok (.dup, 1) := by decide +kernel
theorem dX11_back_53 : decode cX11_back 53 = .ok (.getfield 84, 3) := by decide +kernel
theorem dX11_back_56 : decode cX11_back 56 = .ok (.iconst 1, 1) := by decide +kernel
theorem dX11_back_57 : decode cX11_back 57 = .ok (.iadd, 1) := by decide +kernel
theorem dX11_back_58 : decode cX11_back 58 = .ok (.putfield 84, 3) := by decide +kernel
theorem dX11_back_61 : decode cX11_back 61 = .ok (.iconst 1, 1) := by decide +kernel
theorem dX11_back_62 : decode cX11_back 62 = .ok (.ireturn, 1) := by decide +kernel
set_option maxRecDepth 20000 in
theorem ggX11_count_X4_honestBits : GoodIn wsX11_count wsX4_honestBits := goodIn_r _ [20, 21, 139, 140, 141, 142] (by decide +kernel) (by decide +kernel)
set_option maxRecDepth 20000 in
theorem gX11_count_X4_honestBits : GoodIn wsX11_count (wsV RX11 379 RX4 yX4_honestBits wsX4_honestBits) := goodIn_app (goodIn_of _ (by decide +kernel)) ggX11_count_X4_honestBits
set_option maxRecDepth 20000 in
theorem ggX11_count_X4_decidedBits : GoodIn wsX11_count wsX4_decidedBits := goodIn_r _ [25, 26, 27, 28, 19, 29, 30, 139, 140, 141, 142] (by decide +kernel) (by decide +kernel)
set_option maxRecDepth 20000 in
theorem gX11_count_X4_decidedBits : GoodIn wsX11_count (wsV RX11 382 RX4 yX4_decidedBits wsX4_decidedBits) := goodIn_app (goodIn_of _ (by decide +kernel)) ggX11_count_X4_decidedBits
set_option maxRecDepth 20000 in
theorem ggX11_count_X0_honestOnes : GoodIn wsX11_count wsX0_honestOnes := goodIn_r _ [35, 36, 37, 38, 39, 40, 41, 19, 42, 151, 152, 153, 154, 155, 130, 131, 132, 133, 134, 135, 136, 137, 138, 139, 140, 141, 142] (by decide +kernel) (by decide +kernel)
set_option maxRecDepth 20000 in
theorem gX11_count_X0_honestOnes : GoodIn wsX11_count (wsV RX11 385 RX0 yX0_honestOnes wsX0_honestOnes) := goodIn_app (goodIn_of _ (by decide +kernel)) ggX11_count_X0_honestOnes
set_option maxRecDepth 20000 in
theorem ggX11_count_X6_splitSets : GoodIn wsX11_count wsX6_splitSets := goodIn_r _ [47, 48, 49, 50, 46, 51, 52, 53, 54, 55, 56, 57, 58, 59, 60, 61, 62, 63, 64, 65, 66, 67, 68, 69, 70, 71, 72, 73, 74, 156, 157, 158, 130, 131, 132, 133, 134, 135, 136, 137, 138, 139, 140, 141, 142, 159, 160, 161] (by decide +kernel) (by decide +kernel)
set_option maxRecDepth 20000 in
theorem gX11_count_X6_splitSets : GoodIn wsX11_count (wsV RX11 389 RX6 yX6_splitSets wsX6_splitSets) := goodIn_app (goodIn_of _ (by decide +kernel)) ggX11_count_X6_splitSets
set_option maxRecDepth 20000 in
theorem ggX11_count_X3_widest : GoodIn wsX11_count wsX3_widest := goodIn_r _ [79, 80, 81, 82, 78, 83, 84, 85, 86, 87, 88, 89, 143, 144, 145, 146, 147, 148, 149, 150] (by decide +kernel) (by decide +kernel)
set_option maxRecDepth 20000 in
theorem gX11_count_X3_widest : GoodIn wsX11_count (wsV RX11 393 RX3 yX3_widest wsX3_widest) := goodIn_app (goodIn_of _ (by decide +kernel)) ggX11_count_X3_widest
set_option maxRecDepth 20000 in
theorem ggX11_count_X11_allQueries : GoodIn wsX11_count wsX11_allQueries := goodIn_r _ [94, 1, 2, 95, 114, 115, 116, 117, 118, 119, 120, 121, 122, 123, 124, 125, 126, 127, 128, 129, 130, 131, 132, 133, 134, 135, 136, 137, 138] (by decide +kernel) (by decide +kernel)
set_option maxRecDepth 20000 in
theorem gX11_count_X11_allQueries : GoodIn wsX11_count (wsV RX11 396 RX11 yX11_allQueries wsX11_allQueries) := goodIn_app (goodIn_of _ (by decide +kernel)) ggX11_count_X11_allQueries
set_option maxRecDepth 20000 in
theorem ggX11_count_X0_isSplit : GoodIn wsX11_count wsX0_isSplit := goodIn_r _ [99, 100, 101, 102, 34, 103, 36, 37, 38, 39, 104, 28, 19, 29, 30, 40, 41, 42, 151, 152, 153, 154, 155, 130, 131, 132, 133, 134, 135, 136, 137, 138, 139, 140, 141, 142] (by decide +kernel) (by decide +kernel)
set_option maxRecDepth 20000 in
theorem gX11_count_X0_isSplit : GoodIn wsX11_count (wsV RX11 399 RX0 yX0_isSplit wsX0_isSplit) := goodIn_app (goodIn_of _ (by decide +kernel)) ggX11_count_X0_isSplit
set_option maxRecDepth 20000 in
theorem ggX11_count_X4_unlinkedPairs : GoodIn wsX11_count wsX4_unlinkedPairs := goodIn_r _ [108, 109, 110, 111, 19, 112, 113, 139, 140, 141, 142] (by decide +kernel) (by decide +kernel)
set_option maxRecDepth 20000 in
theorem gX11_count_X4_unlinkedPairs : GoodIn wsX11_count (wsV RX11 403 RX4 yX4_unlinkedPairs wsX4_unlinkedPairs) := goodIn_app (goodIn_of _ (by decide +kernel)) ggX11_count_X4_unlinkedPairs
theorem dX11_count_0 : decode cX11_count 0 = .ok (.iload_n 1, 1) := by decide +kernel
theorem dX11_count_1 : decode cX11_count 1 = .ok (.tableswitch 255 0 16 #[83, 91, 99, 107, 115, 123, 131, 146, 161, 177, 185, 193, 201, 206, 211, 235, 250], 83) := by decide +kernel
theorem dX11_count_84 : decode cX11_count 84 = .ok (.aload_n 0, 1) := by decide +kernel
theorem dX11_count_85 : decode cX11_count 85 = .ok (.getfield 10, 3) := by decide +kernel
theorem dX11_count_88 : decode cX11_count 88 = .ok (.getfield 176, 3) := by decide +kernel
theorem dX11_count_91 : decode cX11_count 91 = .ok (.ireturn, 1) := by decide +kernel
theorem dX11_count_92 : decode cX11_count 92 = .ok (.aload_n 0, 1) := by decide +kernel
theorem dX11_count_93 : decode cX11_count 93 = .ok (.getfield 10, 3) := by decide +kernel
theorem dX11_count_96 : decode cX11_count 96 = .ok (.getfield 373, 3) := by decide +kernel
theorem dX11_count_99 : decode cX11_count 99 = .ok (.ireturn, 1) := by decide +kernel
theorem dX11_count_100 : decode cX11_count 100 = .ok (.aload_n 0, 1) := by decide +kernel
theorem dX11_count_101 : decode cX11_count 101 = .ok (.getfield 10, 3) := by decide +kernel
theorem dX11_count_104 : decode cX11_count 104 = .ok (.getfield 376, 3) := by decide +kernel
theorem dX11_count_107 : decode cX11_count 107 = .ok (.ireturn, 1) := by decide +kernel
theorem dX11_count_108 : decode cX11_count 108 = .ok (.aload_n 0, 1) := by decide +kernel
theorem dX11_count_109 : decode cX11_count 109 = .ok (.getfield 10, 3) := by decide +kernel
theorem dX11_count_112 : decode cX11_count 112 = .ok (.getfield 120, 3) := by decide +kernel
theorem dX11_count_115 : decode cX11_count 115 = .ok (.ireturn, 1) := by decide +kernel
theorem dX11_count_116 : decode cX11_count 116 = .ok (.aload_n 0, 1) := by decide +kernel
theorem dX11_count_117 : decode cX11_count 117 = .ok (.getfield 10, 3) := by decide +kernel
theorem dX11_count_120 : decode cX11_count 120 = .ok (.getfield 123, 3) := by decide +kernel
theorem dX11_count_123 : decode cX11_count 123 = .ok (.ireturn, 1) := by decide +kernel
theorem dX11_count_124 : decode cX11_count 124 = .ok (.aload_n 0, 1) := by decide +kernel
theorem dX11_count_125 : decode cX11_count 125 = .ok (.getfield 10, 3) := by decide +kernel
theorem dX11_count_128 : decode cX11_count 128 = .ok (.getfield 117, 3) := by decide +kernel
theorem dX11_count_131 : decode cX11_count 131 = .ok (.ireturn, 1) := by decide +kernel
theorem dX11_count_132 : decode cX11_count 132 = .ok (.aload_n 0, 1) := by decide +kernel
theorem dX11_count_133 : decode cX11_count 133 = .ok (.getfield 19, 3) := by decide +kernel
theorem dX11_count_136 : decode cX11_count 136 = .ok (.aload_n 0, 1) := by decide +kernel
theorem dX11_count_137 : decode cX11_count 137 = .ok (.getfield 10, 3) := by decide +kernel
theorem dX11_count_140 : decode cX11_count 140 = .ok (.getfield 176, 3) := by decide +kernel
theorem dX11_count_143 : decode cX11_count 143 = .ok (.invokevirtual 379, 3) := by decide +kernel
theorem dX11_count_146 : decode cX11_count 146 = .ok (.ireturn, 1) := by decide +kernel
theorem dX11_count_147 : decode cX11_count 147 = .ok (.aload_n 0, 1) := by decide +kernel
theorem dX11_count_148 : decode cX11_count 148 = .ok (.getfield 19, 3) := by decide +kernel
theorem dX11_count_151 : decode cX11_count 151 = .ok (.aload_n 0, 1) := by decide +kernel
theorem dX11_count_152 : decode cX11_count 152 = .ok (.getfield 10, 3) := by decide +kernel
theorem dX11_count_155 : decode cX11_count 155 = .ok (.getfield 176, 3) := by decide +kernel
theorem dX11_count_158 : decode cX11_count 158 = .ok (.invokevirtual 382, 3) := by decide +kernel
theorem dX11_count_161 : decode cX11_count 161 = .ok (.ireturn, 1) := by decide +kernel
theorem dX11_count_162 : decode cX11_count 162 = .ok (.aload_n 0, 1) := by decide +kernel
theorem dX11_count_163 : decode cX11_count 163 = .ok (.getfield 35, 3) := by decide +kernel
theorem dX11_count_166 : decode cX11_count 166 = .ok (.aload_n 0, 1) := by decide +kernel
theorem dX11_count_167 : decode cX11_count 167 = .ok (.getfield 19, 3) := by decide +kernel
theorem dX11_count_170 : decode cX11_count 170 = .ok (.getfield 143, 3) := by decide +kernel
theorem dX11_count_173 : decode cX11_count 173 = .ok (.iconst 0, 1) := by decide +kernel
theorem dX11_count_174 : decode cX11_count 174 = .ok (.invokevirtual 385, 3) := by decide +kernel
theorem dX11_count_177 : decode cX11_count 177 = .ok (.ireturn, 1) := by decide +kernel
theorem dX11_count_178 : decode cX11_count 178 = .ok (.aload_n 0, 1) := by decide +kernel
theorem dX11_count_179 : decode cX11_count 179 = .ok (.getfield 26, 3) := by decide +kernel
theorem dX11_count_182 : decode cX11_count 182 = .ok (.getfield 275, 3) := by decide +kernel
theorem dX11_count_185 : decode cX11_count 185 = .ok (.ireturn, 1) := by decide +kernel
theorem dX11_count_186 : decode cX11_count 186 = .ok (.aload_n 0, 1) := by decide +kernel
theorem dX11_count_187 : decode cX11_count 187 = .ok (.getfield 44, 3) := by decide +kernel
theorem dX11_count_190 : decode cX11_count 190 = .ok (.invokevirtual 389, 3) := by decide +kernel
theorem dX11_count_193 : decode cX11_count 193 = .ok (.ireturn, 1) := by decide +kernel
theorem dX11_count_194 : decode cX11_count 194 = .ok (.aload_n 0, 1) := by decide +kernel
theorem dX11_count_195 : decode cX11_count 195 = .ok (.getfield 26, 3) := by decide +kernel
theorem dX11_count_198 : decode cX11_count 198 = .ok (.invokevirtual 393, 3) := by decide +kernel
theorem dX11_count_201 : decode cX11_count 201 = .ok (.ireturn, 1) := by decide +kernel
theorem dX11_count_202 : decode cX11_count 202 = .ok (.aload_n 0, 1) := by decide +kernel
theorem dX11_count_203 : decode cX11_count 203 = .ok (.invokevirtual 396, 3) := by decide +kernel
theorem dX11_count_206 : decode cX11_count 206 = .ok (.ireturn, 1) := by decide +kernel
theorem dX11_count_207 : decode cX11_count 207 = .ok (.aload_n 0, 1) := by decide +kernel
theorem dX11_count_208 : decode cX11_count 208 = .ok (.getfield 111, 3) := by decide +kernel
theorem dX11_count_211 : decode cX11_count 211 = .ok (.ireturn, 1) := by decide +kernel
theorem dX11_count_212 : decode cX11_count 212 = .ok (.aload_n 0, 1) := by decide +kernel
theorem dX11_count_213 : decode cX11_count 213 = .ok (.getfield 35, 3) := by decide +kernel
theorem dX11_count_216 : decode cX11_count 216 = .ok (.aload_n 0, 1) := by decide +kernel
theorem dX11_count_217 : decode cX11_count 217 = .ok (.getfield 19, 3) := by decide +kernel
theorem dX11_count_220 : decode cX11_count 220 = .ok (.getfield 143, 3) := by decide +kernel
theorem dX11_count_223 : decode cX11_count 223 = .ok (.iconst 0, 1) := by decide +kernel
theorem dX11_count_224 : decode cX11_count 224 = .ok (.invokevirtual 399, 3) := by decide +kernel
theorem dX11_count_227 : decode cX11_count 227 = .ok (.ifCond .eq 7, 3) := by decide +kernel
theorem dX11_count_230 : decode cX11_count 230 = .ok (.iconst 1, 1) := by decide +kernel
theorem dX11_count_231 : decode cX11_count 231 = .ok (.goto 4, 3) := by decide +kernel
theorem dX11_count_234 : decode cX11_count 234 = .ok (.iconst 0, 1) := by decide +kernel
theorem dX11_count_235 : decode cX11_count 235 = .ok (.ireturn, 1) := by decide +kernel
theorem dX11_count_236 : decode cX11_count 236 = .ok (.aload_n 0, 1) := by decide +kernel
theorem dX11_count_237 : decode cX11_count 237 = .ok (.getfield 19, 3) := by decide +kernel
theorem dX11_count_240 : decode cX11_count 240 = .ok (.aload_n 0, 1) := by decide +kernel
theorem dX11_count_241 : decode cX11_count 241 = .ok (.getfield 10, 3) := by decide +kernel
theorem dX11_count_244 : decode cX11_count 244 = .ok (.getfield 176, 3) := by decide +kernel
theorem dX11_count_247 : decode cX11_count 247 = .ok (.invokevirtual 403, 3) := by decide +kernel
theorem dX11_count_250 : decode cX11_count 250 = .ok (.ireturn, 1) := by decide +kernel
theorem dX11_count_251 : decode cX11_count 251 = .ok (.aload_n 0, 1) := by decide +kernel
theorem dX11_count_252 : decode cX11_count 252 = .ok (.getfield 114, 3) := by decide +kernel
theorem dX11_count_255 : decode cX11_count 255 = .ok (.ireturn, 1) := by decide +kernel
theorem dX11_count_256 : decode cX11_count 256 = .ok (.iconst (-1), 1) := by decide +kernel
theorem dX11_count_257 : decode cX11_count 257 = .ok (.ireturn, 1) := by decide +kernel
set_option maxRecDepth 20000 in
theorem ggX11_keep_X4_takeFrom : GoodIn wsX11_keep wsX4_takeFrom := goodIn_r _ [14, 15, 16, 17, 18, 19, 20, 21, 22, 23, 24, 25, 26, 27, 28, 29, 30, 31, 48, 49, 50, 51, 52, 53, 54] (by decide +kernel) (by decide +kernel)
set_option maxRecDepth 20000 in
theorem gX11_keep_X4_takeFrom : GoodIn wsX11_keep (wsV RX11 369 RX4 yX4_takeFrom wsX4_takeFrom) := goodIn_app (goodIn_of _ (by decide +kernel)) ggX11_keep_X4_takeFrom
theorem dX11_keep_0 : decode cX11_keep 0 = .ok (.aload_n 0, 1) := by decide +kernel
theorem dX11_keep_1 : decode cX11_keep 1 = .ok (.getfield 73, 3) := by decide +kernel
theorem dX11_keep_4 : decode cX11_keep 4 = .ok (.aload_n 0, 1) := by decide +kernel
theorem dX11_keep_5 : decode cX11_keep 5 = .ok (.getfield 366, 3) := by decide +kernel
theorem dX11_keep_8 : decode cX11_keep 8 = .ok (.aaload, 1) := by decide +kernel
theorem dX11_keep_9 : decode cX11_keep 9 = .ok (.aload_n 0, 1) := by decide +kernel
theorem dX11_keep_10 : decode cX11_keep 10 = .ok (.getfield 19, 3) := by decide +kernel
theorem dX11_keep_13 : decode cX11_keep 13 = .ok (.invokevirtual 369, 3) := by decide +kernel
theorem dX11_keep_16 : decode cX11_keep 16 = .ok (.aload_n 0, 1) := by decide +kernel
theorem dX11_keep_17 : decode cX11_keep 17 = .ok (.aload_n 0, 1) := by decide +kernel
theorem dX11_keep_18 : decode cX11_keep 18 = .ok (.getfield 366, 3) := by decide +kernel
theorem dX11_keep_21 : decode cX11_keep 21 = .ok (.iconst 1, 1) := by decide +kernel
theorem dX11_keep_22 : decode cX11_keep 22 = .ok (.iadd, 1) := by decide +kernel
theorem dX11_keep_23 : decode cX11_keep 23 = .ok (.bipush 8, 2) := by decide +kernel
theorem dX11_keep_25 : decode cX11_keep 25 = .ok (.irem, 1) := by decide +kernel
theorem dX11_keep_26 : decode cX11_keep 26 = .ok (.putfield 366, 3) := by decide +kernel
theorem dX11_keep_29 : decode cX11_keep 29 = .ok (.aload_n 0, 1) := by decide +kernel
theorem dX11_keep_30 : decode cX11_keep 30 = .ok (.aload_n 0, 1) := by decide +kernel
theorem dX11_keep_31 : decode cX11_keep 31 = .ok (.getfield 114, 3) := by decide +kernel
theorem dX11_keep_34 : decode cX11_keep 34 = .ok (.iconst 1, 1) := by decide +kernel
theorem dX11_keep_35 : decode cX11_keep 35 = .ok (.iadd, 1) := by decide +kernel
theorem dX11_keep_36 : decode cX11_keep 36 = .ok (.bipush 8, 2) := by decide +kernel
theorem dX11_keep_38 : decode cX11_keep 38 = .ok (.invokestatic 406, 3) := by decide +kernel
theorem dX11_keep_41 : decode cX11_keep 41 = .ok (.putfield 114, 3) := by decide +kernel
theorem dX11_keep_44 : decode cX11_keep 44 = .ok (.aload_n 0, 1) := by decide +kernel
theorem dX11_keep_45 : decode cX11_keep 45 = .ok (.dup, 1) := by decide +kernel
theorem dX11_keep_46 : decode cX11_keep 46 = .ok (.getfield 84, 3) := by decide +kernel
theorem dX11_keep_49 : decode cX11_keep 49 = .ok (.iconst 1, 1) := by decide +kernel
theorem dX11_keep_50 : decode cX11_keep 50 = .ok (.iadd, 1) := by decide +kernel
theorem dX11_keep_51 : decode cX11_keep 51 = .ok (.putfield 84, 3) := by decide +kernel
theorem dX11_keep_54 : decode cX11_keep 54 = .ok (.return_, 1) := by decide +kernel
set_option maxRecDepth 20000 in
theorem ggX11_isHonest_X7_isNode : GoodIn wsX11_isHonest wsX7_isNode := goodIn_r _ [8, 9, 30, 31, 32, 33, 34, 35, 36, 37, 38] (by decide +kernel) (by decide +kernel)
set_option maxRecDepth 20000 in
theorem gX11_isHonest_X7_isNode : GoodIn wsX11_isHonest (wsV RX11 126 RX7 yX7_isNode wsX7_isNode) := goodIn_app (goodIn_of _ (by decide +kernel)) ggX11_isHonest_X7_isNode
theorem dX11_isHonest_0 : decode cX11_isHonest 0 = .ok (.aload_n 0, 1) := by decide +kernel
theorem dX11_isHonest_1 : decode cX11_isHonest 1 = .ok (.getfield 10, 3) := by decide +kernel
theorem dX11_isHonest_4 : decode cX11_isHonest 4 = .ok (.iload_n 1, 1) := by decide +kernel
theorem dX11_isHonest_5 : decode cX11_isHonest 5 = .ok (.invokevirtual 126, 3) := by decide +kernel
theorem dX11_isHonest_8 : decode cX11_isHonest 8 = .ok (.ifCond .eq 19, 3) := by decide +kernel
theorem dX11_isHonest_11 : decode cX11_isHonest 11 = .ok (.aload_n 0, 1) := by decide +kernel
theorem dX11_isHonest_12 : decode cX11_isHonest 12 = .ok (.getfield 19, 3) := by decide +kernel
theorem dX11_isHonest_15 : decode cX11_isHonest 15 = .ok (.getfield 133, 3) := by decide +kernel
theorem dX11_isHonest_18 : decode cX11_isHonest 18 = .ok (.iload_n 1, 1) := by decide +kernel
theorem dX11_isHonest_19 : decode cX11_isHonest 19 = .ok (.iaload, 1) := by decide +kernel
theorem dX11_isHonest_20 : decode cX11_isHonest 20 = .ok (.ifCond .ne 7, 3) := by decide +kernel
theorem dX11_isHonest_23 : decode cX11_isHonest 23 = .ok (.iconst 1, 1) := by decide +kernel
theorem dX11_isHonest_24 : decode cX11_isHonest 24 = .ok (.goto 4, 3) := by decide +kernel
theorem dX11_isHonest_27 : decode cX11_isHonest 27 = .ok (.iconst 0, 1) := by decide +kernel
theorem dX11_isHonest_28 : decode cX11_isHonest 28 = .ok (.ireturn, 1) := by decide +kernel
set_option maxRecDepth 20000 in
theorem ggX11_canAsk_X7_isSample : GoodIn wsX11_canAsk wsX7_isSample := goodIn_r _ [9, 10, 11, 12, 13, 8, 14, 15, 16, 17, 18, 19, 20, 21, 22, 23, 24, 25, 26, 79, 80, 81, 82, 83, 84, 85, 86, 87] (by decide +kernel) (by decide +kernel)
set_option maxRecDepth 20000 in
theorem gX11_canAsk_X7_isSample : GoodIn wsX11_canAsk (wsV RX11 411 RX7 yX7_isSample wsX7_isSample) := goodIn_app (goodIn_of _ (by decide +kernel)) ggX11_canAsk_X7_isSample
set_option maxRecDepth 20000 in
theorem ggX11_canAsk_X0_listen : GoodIn wsX11_canAsk wsX0_listen := goodIn_r _ [31, 32, 33, 34, 35, 36, 37, 38, 39, 40, 41, 42, 43, 44, 45, 46, 47, 48, 49, 50, 51, 52, 53, 54, 30, 55, 56, 57, 58, 88, 89, 90, 91, 92, 75, 76, 77, 78, 79, 80, 81, 82, 83, 84, 85, 86, 87] (by decide +kernel) (by decide +kernel)
set_option maxRecDepth 20000 in
theorem gX11_canAsk_X0_listen : GoodIn wsX11_canAsk (wsV RX11 414 RX0 yX0_listen wsX0_listen) := goodIn_app (goodIn_of _ (by decide +kernel)) ggX11_canAsk_X0_listen
theorem dX11_canAsk_0 : decode cX11_canAsk 0 = .ok (.aload_n 0, 1) := by decide +kernel
theorem dX11_canAsk_1 : decode cX11_canAsk 1 = .ok (.getfield 10, 3) := by decide +kernel
theorem dX11_canAsk_4 : decode cX11_canAsk 4 = .ok (.iload_n 1, 1) := by decide +kernel
theorem dX11_canAsk_5 : decode cX11_canAsk 5 = .ok (.iload_n 2, 1) := by decide +kernel
theorem dX11_canAsk_6 : decode cX11_canAsk 6 = .ok (.invokevirtual 411, 3) := by decide +kernel
theorem dX11_canAsk_9 : decode cX11_canAsk 9 = .ok (.ifCond .eq 26, 3) := by decide +kernel
theorem dX11_canAsk_12 : decode cX11_canAsk 12 = .ok (.aload_n 0, 1) := by decide +kernel
theorem dX11_canAsk_13 : decode cX11_canAsk 13 = .ok (.getfield 35, 3) := by decide +kernel
theorem dX11_canAsk_16 : decode cX11_canAsk 16 = .ok (.aload_n 0, 1) := by decide +kernel
theorem dX11_canAsk_17 : decode cX11_canAsk 17 = .ok (.getfield 19, 3) := by decide +kernel
theorem dX11_canAsk_20 : decode cX11_canAsk 20 = .ok (.getfield 143, 3) := by decide +kernel
theorem dX11_canAsk_23 : decode cX11_canAsk 23 = .ok (.iconst 0, 1) := by decide +kernel
theorem dX11_canAsk_24 : decode cX11_canAsk 24 = .ok (.iload_n 1, 1) := by decide +kernel
theorem dX11_canAsk_25 : decode cX11_canAsk 25 = .ok (.invokevirtual 414, 3) := by decide +kernel
theorem dX11_canAsk_28 : decode cX11_canAsk 28 = .ok (.ifCond .eq 7, 3) := by decide +kernel
theorem dX11_canAsk_31 : decode cX11_canAsk 31 = .ok (.iconst 1, 1) := by decide +kernel
theorem dX11_canAsk_32 : decode cX11_canAsk 32 = .ok (.goto 4, 3) := by decide +kernel
theorem dX11_canAsk_35 : decode cX11_canAsk 35 = .ok (.iconst 0, 1) := by decide +kernel
theorem dX11_canAsk_36 : decode cX11_canAsk 36 = .ok (.ireturn, 1) := by decide +kernel
set_option maxRecDepth 20000 in
theorem ggX11_ask_X0_winner : GoodIn wsX11_ask wsX0_winner := goodIn_r _ [9, 10, 11, 12, 13, 14, 15, 16, 17, 18, 19, 20, 98, 99, 100, 101, 102, 103, 104, 105, 106, 107, 108, 109, 110, 111] (by decide +kernel) (by decide +kernel)
set_option maxRecDepth 20000 in
theorem gX11_ask_X0_winner : GoodIn wsX11_ask (wsV RX11 162 RX0 yX0_winner wsX0_winner) := goodIn_app (goodIn_of _ (by decide +kernel)) ggX11_ask_X0_winner
set_option maxRecDepth 20000 in
theorem ggX11_ask_X0_settle : GoodIn wsX11_ask wsX0_settle := goodIn_r _ [24, 25, 11, 26, 27, 28, 29, 30, 31, 32, 33, 34, 8, 35, 36, 37, 38, 39, 40, 41, 42, 43, 44, 45, 46, 47, 48, 49, 50, 51, 52, 53, 54, 55, 56, 57, 58, 59, 60, 61, 62, 63, 64, 65, 66, 67, 68, 69, 70, 71, 98, 99, 100, 101, 102, 103, 104, 105, 106, 107, 108, 109, 110, 111] (by decide +kernel) (by decide +kernel)
set_option maxRecDepth 20000 in
theorem gX11_ask_X0_settle : GoodIn wsX11_ask (wsV RX11 166 RX0 yX0_settle wsX0_settle) := goodIn_app (goodIn_of _ (by decide +kernel)) ggX11_ask_X0_settle
set_option maxRecDepth 20000 in
theorem ggX11_ask_X0_change : GoodIn wsX11_ask wsX0_change := goodIn_r _ [74, 75, 76, 30, 77, 71, 28, 29, 31] (by decide +kernel) (by decide +kernel)
set_option maxRecDepth 20000 in
theorem gX11_ask_X0_change : GoodIn wsX11_ask (va_wsS RX11 170 yX0_change wsX0_change) := goodIn_app (goodIn_of _ (by decide +kernel)) ggX11_ask_X0_change
theorem dX11_ask_0 : decode cX11_ask 0 = .ok (.aload_n 0, 1) := by decide +kernel
theorem dX11_ask_1 : decode cX11_ask 1 = .ok (.getfield 19, 3) := by decide +kernel
theorem dX11_ask_4 : decode cX11_ask 4 = .ok (.getfield 143, 3) := by decide +kernel
theorem dX11_ask_7 : decode cX11_ask 7 = .ok (.iload_n 1, 1) := by decide +kernel
theorem dX11_ask_8 : decode cX11_ask 8 = .ok (.iaload, 1) := by decide +kernel
theorem dX11_ask_9 : decode cX11_ask 9 = .ok (.istore_n 3, 1) := by decide +kernel
theorem dX11_ask_10 : decode cX11_ask 10 = .ok (.aload_n 0, 1) := by decide +kernel
theorem dX11_ask_11 : decode cX11_ask 11 = .ok (.getfield 35, 3) := by decide +kernel
theorem dX11_ask_14 : decode cX11_ask 14 = .ok (.aload_n 0, 1) := by decide +kernel
theorem dX11_ask_15 : decode cX11_ask 15 = .ok (.getfield 19, 3) := by decide +kernel
theorem dX11_ask_18 : decode cX11_ask 18 = .ok (.getfield 143, 3) := by decide +kernel
theorem dX11_ask_21 : decode cX11_ask 21 = .ok (.iload_n 1, 1) := by decide +kernel
theorem dX11_ask_22 : decode cX11_ask 22 = .ok (.aload_n 0, 1) := by decide +kernel
theorem dX11_ask_23 : decode cX11_ask 23 = .ok (.getfield 35, 3) := by decide +kernel
theorem dX11_ask_26 : decode cX11_ask 26 = .ok (.iload_n 2, 1) := by decide +kernel
theorem dX11_ask_27 : decode cX11_ask 27 = .ok (.invokevirtual 162, 3) := by decide +kernel
theorem dX11_ask_30 : decode cX11_ask 30 = .ok (.iload_n 2, 1) := by decide +kernel
theorem dX11_ask_31 : decode cX11_ask 31 = .ok (.invokevirtual 166, 3) := by decide +kernel
theorem dX11_ask_34 : decode cX11_ask 34 = .ok (.aload_n 0, 1) := by decide +kernel
theorem dX11_ask_35 : decode cX11_ask 35 = .ok (.getfield 81, 3) := by decide +kernel
theorem dX11_ask_38 : decode cX11_ask 38 = .ok (.iload_n 1, 1) := by decide +kernel
theorem dX11_ask_39 : decode cX11_ask 39 = .ok (.dup2, 1) := by decide +kernel
theorem dX11_ask_40 : decode cX11_ask 40 = .ok (.iaload, 1) := by decide +kernel
theorem dX11_ask_41 : decode cX11_ask 41 = .ok (.iconst 1, 1) := by decide +kernel
theorem dX11_ask_42 : decode cX11_ask 42 = .ok (.iadd, 1) := by decide +kernel
theorem dX11_ask_43 : decode cX11_ask 43 = .ok (.iastore, 1) := by decide +kernel
theorem dX11_ask_44 : decode cX11_ask 44 = .ok (.iload_n 3, 1) := by decide +kernel
theorem dX11_ask_45 : decode cX11_ask 45 = .ok (.aload_n 0, 1) := by decide +kernel
theorem dX11_ask_46 : decode cX11_ask 46 = .ok (.getfield 19, 3) := by decide +kernel
theorem dX11_ask_49 : decode cX11_ask 49 = .ok (.getfield 143, 3) := by decide +kernel
theorem dX11_ask_52 : decode cX11_ask 52 = .ok (.iload_n 1, 1) := by decide +kernel
theorem dX11_ask_53 : decode cX11_ask 53 = .ok (.iaload, 1) := by decide +kernel
theorem dX11_ask_54 : decode cX11_ask 54 = .ok (.invokestatic 170, 3) := by decide +kernel
theorem dX11_ask_57 : decode cX11_ask 57 = .ok (.ireturn, 1) := by decide +kernel
set_option maxRecDepth 20000 in
theorem ggX11_canPoll_X7_isSample : GoodIn wsX11_canPoll wsX7_isSample := goodIn_r _ [8, 9, 10, 11, 12, 7, 13, 14, 15, 16, 17, 18, 19, 20, 21, 22, 23, 24, 25, 61, 62, 63, 64, 65, 66, 67, 68, 69] (by decide +kernel) (by decide +kernel)
set_option maxRecDepth 20000 in
theorem gX11_canPoll_X7_isSample : GoodIn wsX11_canPoll (wsV RX11 411 RX7 yX7_isSample wsX7_isSample) := goodIn_app (goodIn_of _ (by decide +kernel)) ggX11_canPoll_X7_isSample
set_option maxRecDepth 20000 in
theorem ggX11_canPoll_X3_isEntry : GoodIn wsX11_canPoll wsX3_isEntry := goodIn_r _ [30, 31, 70, 71, 72, 73, 74, 75, 76, 77] (by decide +kernel) (by decide +kernel)
set_option maxRecDepth 20000 in
theorem gX11_canPoll_X3_isEntry : GoodIn wsX11_canPoll (wsV RX11 316 RX3 yX3_isEntry wsX3_isEntry) := goodIn_app (goodIn_of _ (by decide +kernel)) ggX11_canPoll_X3_isEntry
set_option maxRecDepth 20000 in
theorem ggX11_canPoll_X6_unpolled : GoodIn wsX11_canPoll wsX6_unpolled := goodIn_r _ [36, 37, 38, 39, 40, 41, 42, 43, 44, 11, 12, 7, 13, 14, 78, 79, 80, 81, 82, 83, 84, 70, 71, 72, 73, 74, 75, 76, 77, 85, 86, 87, 61, 62, 63, 64, 65, 66, 67, 68, 69] (by decide +kernel) (by decide +kernel)
set_option maxRecDepth 20000 in
theorem gX11_canPoll_X6_unpolled : GoodIn wsX11_canPoll (wsV RX11 305 RX6 yX6_unpolled wsX6_unpolled) := goodIn_app (goodIn_of _ (by decide +kernel)) ggX11_canPoll_X6_unpolled
theorem dX11_canPoll_0 : decode cX11_canPoll 0 = .ok (.aload_n 0, 1) := by decide +kernel
theorem dX11_canPoll_1 : decode cX11_canPoll 1 = .ok (.getfield 10, 3) := by decide +kernel
theorem dX11_canPoll_4 : decode cX11_canPoll 4 = .ok (.iload_n 1, 1) := by decide +kernel
theorem dX11_canPoll_5 : decode cX11_canPoll 5 = .ok (.iload_n 3, 1) := by decide +kernel
theorem dX11_canPoll_6 : decode cX11_canPoll 6 = .ok (.invokevirtual 411, 3) := by decide +kernel
theorem dX11_canPoll_9 : decode cX11_canPoll 9 = .ok (.ifCond .eq 34, 3) := by decide +kernel
theorem dX11_canPoll_12 : decode cX11_canPoll 12 = .ok (.aload_n 0, 1) := by decide +kernel
theorem dX11_canPoll_13 : decode cX11_canPoll 13 = .ok (.getfield 26, 3) := by decide +kernel
theorem dX11_canPoll_16 : decode cX11_canPoll 16 = .ok (.iload_n 2, 1) := by decide +kernel
theorem dX11_canPoll_17 : decode cX11_canPoll 17 = .ok (.invokevirtual 316, 3) := by decide +kernel
theorem dX11_canPoll_20 : decode cX11_canPoll 20 = .ok (.ifCond .eq 23, 3) := by decide +kernel
theorem dX11_canPoll_23 : decode cX11_canPoll 23 = .ok (.aload_n 0, 1) := by decide +kernel
theorem dX11_canPoll_24 : decode cX11_canPoll 24 = .ok (.getfield 44, 3) := by decide +kernel
theorem dX11_canPoll_27 : decode cX11_canPoll 27 = .ok (.iload_n 1, 1) := by decide +kernel
theorem dX11_canPoll_28 : decode cX11_canPoll 28 = .ok (.invokevirtual 305, 3) := by decide +kernel
theorem dX11_canPoll_31 : decode cX11_canPoll 31 = .ok (.iload_n 2, 1) := by decide +kernel
theorem dX11_canPoll_32 : decode cX11_canPoll 32 = .ok (.ishr, 1) := by decide +kernel
theorem dX11_canPoll_33 : decode cX11_canPoll 33 = .ok (.iconst 1, 1) := by decide +kernel
theorem dX11_canPoll_34 : decode cX11_canPoll 34 = .ok (.iand, 1) := by decide +kernel
theorem dX11_canPoll_35 : decode cX11_canPoll 35 = .ok (.iconst 1, 1) := by decide +kernel
theorem dX11_canPoll_36 : decode cX11_canPoll 36 = .ok (.if_icmp .ne 7, 3) := by decide +kernel
theorem dX11_canPoll_39 : decode cX11_canPoll 39 = .ok (.iconst 1, 1) := by decide +kernel
theorem dX11_canPoll_40 : decode cX11_canPoll 40 = .ok (.goto 4, 3) := by decide +kernel
theorem dX11_canPoll_43 : decode cX11_canPoll 43 = .ok (.iconst 0, 1) := by decide +kernel
theorem dX11_canPoll_44 : decode cX11_canPoll 44 = .ok (.ireturn, 1) := by decide +kernel
theorem dX11_allQueries_0 : decode cX11_allQueries 0 = .ok (.iconst 0, 1) := by decide +kernel
theorem dX11_allQueries_1 : decode cX11_allQueries 1 = .ok (.istore_n 1, 1) := by decide +kernel
theorem dX11_allQueries_2 : decode cX11_allQueries 2 = .ok (.iconst 0, 1) := by decide +kernel
theorem dX11_allQueries_3 : decode cX11_allQueries 3 = .ok (.istore_n 2, 1) := by decide +kernel
theorem dX11_allQueries_4 : decode cX11_allQueries 4 = .ok (.iload_n 2, 1) := by decide +kernel
theorem dX11_allQueries_5 : decode cX11_allQueries 5 = .ok (.aload_n 0, 1) := by decide +kernel
theorem dX11_allQueries_6 : decode cX11_allQueries 6 = .ok (.getfield 10, 3) := by decide +kernel
theorem dX11_allQueries_9 : decode cX11_allQueries 9 = .ok (.getfield 176, 3) := by decide +kernel
theorem dX11_allQueries_12 : decode cX11_allQueries 12 = .ok (.if_icmp .ge 18, 3) := by decide +kernel
theorem dX11_allQueries_15 : decode cX11_allQueries 15 = .ok (.iload_n 1, 1) := by decide +kernel
theorem dX11_allQueries_16 : decode cX11_allQueries 16 = .ok (.aload_n 0, 1) := by decide +kernel
theorem dX11_allQueries_17 : decode cX11_allQueries 17 = .ok (.getfield 81, 3) := by decide +kernel
theorem dX11_allQueries_20 : decode cX11_allQueries 20 = .ok (.iload_n 2, 1) := by decide +kernel
theorem dX11_allQueries_21 : decode cX11_allQueries 21 = .ok (.iaload, 1) := by decide +kernel
theorem dX11_allQueries_22 : decode cX11_allQueries 22 = .ok (.iadd, 1) := by decide +kernel
theorem dX11_allQueries_23 : decode cX11_allQueries 23 = .ok (.istore_n 1, 1) := by decide +kernel
theorem dX11_allQueries_24 : decode cX11_allQueries 24 = .ok (.iinc 2 1, 3) := by decide +kernel
theorem dX11_allQueries_27 : decode cX11_allQueries 27 = .ok (.goto (-23), 3) := by decide +kernel
theorem dX11_allQueries_30 : decode cX11_allQueries 30 = .ok (.iload_n 1, 1) := by decide +kernel
theorem dX11_allQueries_31 : decode cX11_allQueries 31 = .ok (.ireturn, 1) := by decide +kernel
theorem dX11_draw_0 : decode cX11_draw 0 = .ok (.aload_n 0, 1) := by decide +kernel
theorem dX11_draw_1 : decode cX11_draw 1 = .ok (.aload_n 0, 1) := by decide +kernel
theorem dX11_draw_2 : decode cX11_draw 2 = .ok (.getfield 173, 3) := by decide +kernel
theorem dX11_draw_5 : decode cX11_draw 5 = .ok (.ldc_w 418, 3) := by decide +kernel
theorem dX11_draw_8 : decode cX11_draw 8 = .ok (.imul, 1) := by decide +kernel
theorem dX11_draw_9 : decode cX11_draw 9 = .ok (.sipush 12345, 3) := by decide +kernel
theorem dX11_draw_12 : decode cX11_draw 12 = .ok (.iadd, 1) := by decide +kernel
theorem dX11_draw_13 : decode cX11_draw 13 = .ok (.putfield 173, 3) := by decide +kernel
theorem dX11_draw_16 : decode cX11_draw 16 = .ok (.iload_n 1, 1) := by decide +kernel
theorem dX11_draw_17 : decode cX11_draw 17 = .ok (.iconst 1, 1) := by decide +kernel
theorem dX11_draw_18 : decode cX11_draw 18 = .ok (.if_icmp .ge 7, 3) := by decide +kernel
theorem dX11_draw_21 : decode cX11_draw 21 = .ok (.iconst 0, 1) := by decide +kernel
theorem dX11_draw_22 : decode cX11_draw 22 = .ok (.goto 12, 3) := by decide +kernel
theorem dX11_draw_25 : decode cX11_draw 25 = .ok (.aload_n 0, 1) := by decide +kernel
theorem dX11_draw_26 : decode cX11_draw 26 = .ok (.getfield 173, 3) := by decide +kernel
theorem dX11_draw_29 : decode cX11_draw 29 = .ok (.bipush 8, 2) := by decide +kernel
theorem dX11_draw_31 : decode cX11_draw 31 = .ok (.iushr, 1) := by decide +kernel
theorem dX11_draw_32 : decode cX11_draw 32 = .ok (.iload_n 1, 1) := by decide +kernel
theorem dX11_draw_33 : decode cX11_draw 33 = .ok (.irem, 1) := by decide +kernel
theorem dX11_draw_34 : decode cX11_draw 34 = .ok (.ireturn, 1) := by decide +kernel
set_option maxRecDepth 20000 in
theorem ggX11_drawSample_X7_allNodes : GoodIn wsX11_drawSample wsX7_allNodes := goodIn_r _ [8, 9, 36, 37, 38, 39, 40, 41, 42, 43, 44] (by decide +kernel) (by decide +kernel)
set_option maxRecDepth 20000 in
theorem gX11_drawSample_X7_allNodes : GoodIn wsX11_drawSample (wsV RX11 419 RX7 yX7_allNodes wsX7_allNodes) := goodIn_app (goodIn_of _ (by decide +kernel)) ggX11_drawSample_X7_allNodes
set_option maxRecDepth 20000 in
theorem ggX11_drawSample_X11_draw : GoodIn wsX11_drawSample wsX11_draw := goodIn_r _ [14, 15, 16, 20, 21, 22, 23, 24, 25, 26, 27, 28, 29, 30, 31, 32, 33, 34, 35] (by decide +kernel) (by decide +kernel)
set_option maxRecDepth 20000 in
theorem gX11_drawSample_X11_draw : GoodIn wsX11_drawSample (wsV RX11 178 RX11 yX11_draw wsX11_draw) := goodIn_app (goodIn_of _ (by decide +kernel)) ggX11_drawSample_X11_draw
set_option maxRecDepth 20000 in
theorem ggX11_drawSample_X11_bitAt : GoodIn wsX11_drawSample wsX11_bitAt := goodIn_r _ [19] (by decide +kernel) (by decide +kernel)
set_option maxRecDepth 20000 in
theorem gX11_drawSample_X11_bitAt : GoodIn wsX11_drawSample (va_wsS RX11 313 yX11_bitAt wsX11_bitAt) := goodIn_app (goodIn_of _ (by decide +kernel)) ggX11_drawSample_X11_bitAt
theorem dX11_drawSample_0 : decode cX11_drawSample 0 = .ok (.aload_n 0, 1) := by decide +kernel
theorem dX11_drawSample_1 : decode cX11_drawSample 1 = .ok (.getfield 10, 3) := by decide +kernel
theorem dX11_drawSample_4 : decode cX11_drawSample 4 = .ok (.invokevirtual 419, 3) := by decide +kernel
theorem dX11_drawSample_7 : decode cX11_drawSample 7 = .ok (.iconst 1, 1) := by decide +kernel
theorem dX11_drawSample_8 : decode cX11_drawSample 8 = .ok (.iload_n 1, 1) := by decide +kernel
theorem dX11_drawSample_9 : decode cX11_drawSample 9 = .ok (.ishl, 1) := by decide +kernel
theorem dX11_drawSample_10 : decode cX11_drawSample 10 = .ok (.iconst (-1), 1) := by decide +kernel
theorem dX11_drawSample_11 : decode cX11_drawSample 11 = .ok (.ixor, 1) := by decide +kernel
theorem dX11_drawSample_12 : decode cX11_drawSample 12 = .ok (.iand, 1) := by decide +kernel
theorem dX11_drawSample_13 : decode cX11_drawSample 13 = .ok (.istore_n 2, 1) := by decide +kernel
theorem dX11_drawSample_14 : decode cX11_drawSample 14 = .ok (.iconst 0, 1) := by decide +kernel
theorem dX11_drawSample_15 : decode cX11_drawSample 15 = .ok (.istore_n 3, 1) := by decide +kernel
theorem dX11_drawSample_16 : decode cX11_drawSample 16 = .ok (.iconst 0, 1) := by decide +kernel
theorem dX11_drawSample_17 : decode cX11_drawSample 17 = .ok (.istore 4, 2) := by decide +kernel
theorem dX11_drawSample_19 : decode cX11_drawSample 19 = .ok (.iload 4, 2) := by decide +kernel
theorem dX11_drawSample_21 : decode cX11_drawSample 21 = .ok (.aload_n 0, 1) := by decide +kernel
theorem dX11_drawSample_22 : decode cX11_drawSample 22 = .ok (.getfield 10, 3) := by decide +kernel
theorem dX11_drawSample_25 : decode cX11_drawSample 25 = .ok (.getfield 373, 3) := by decide +kernel
theorem dX11_drawSample_28 : decode cX11_drawSample 28 = .ok (.if_icmp .ge 45, 3) := by decide +kernel
theorem dX11_drawSample_31 : decode cX11_drawSample 31 = .ok (.iconst 1, 1) := by decide +kernel
theorem dX11_drawSample_32 : decode cX11_drawSample 32 = .ok (.iload_n 2, 1) := by decide +kernel
theorem dX11_drawSample_33 : decode cX11_drawSample 33 = .ok (.aload_n 0, 1) := by decide +kernel
theorem dX11_drawSample_34 : decode cX11_drawSample 34 = .ok (.aload_n 0, 1) := by decide +kernel
theorem dX11_drawSample_35 : decode cX11_drawSample 35 = .ok (.getfield 10, 3) := by decide +kernel
theorem dX11_drawSample_38 : decode cX11_drawSample 38 = .ok (.getfield 176, 3) := by decide +kernel
theorem dX11_drawSample_41 : decode cX11_drawSample 41 = .ok (.iconst 1, 1) := by decide +kernel
theorem dX11_drawSample_42 : decode cX11_drawSample 42 = .ok (.isub, 1) := by decide +kernel
theorem dX11_drawSample_43 : decode cX11_drawSample 43 = .ok (.iload 4, 2) := by decide +kernel
theorem dX11_drawSample_45 : decode cX11_drawSample 45 = .ok (.isub, 1) := by decide +kernel
theorem dX11_drawSample_46 : decode cX11_drawSample 46 = .ok (.invokevirtual 178, 3) := by decide +kernel
theorem dX11_drawSample_49 : decode cX11_drawSample 49 = .ok (.invokestatic 313, 3) := by decide +kernel
theorem dX11_drawSample_52 : decode cX11_drawSample 52 = .ok (.ishl, 1) := by decide +kernel
theorem dX11_drawSample_53 : decode cX11_drawSample 53 = .ok (.istore 5, 2) := by decide +kernel
theorem dX11_drawSample_55 : decode cX11_drawSample 55 = .ok (.iload_n 3, 1) := by decide +kernel
theorem dX11_drawSample_56 : decode cX11_drawSample 56 = .ok (.iload 5, 2) := by decide +kernel
theorem dX11_drawSample_58 : decode cX11_drawSample 58 = .ok (.ior, 1) := by decide +kernel
theorem dX11_drawSample_59 : decode cX11_drawSample 59 = .ok (.istore_n 3, 1) := by decide +kernel
theorem dX11_drawSample_60 : decode cX11_drawSample 60 = .ok (.iload_n 2, 1) := by decide +kernel
theorem dX11_drawSample_61 : decode cX11_drawSample 61 = .ok (.iload 5, 2) := by decide +kernel
theorem dX11_drawSample_63 : decode cX11_drawSample 63 = .ok (.iconst (-1), 1) := by decide +kernel
theorem dX11_drawSample_64 : decode cX11_drawSample 64 = .ok (.ixor, 1) := by decide +kernel
theorem dX11_drawSample_65 : decode cX11_drawSample 65 = .ok (.iand, 1) := by decide +kernel
theorem dX11_drawSample_66 : decode cX11_drawSample 66 = .ok (.istore_n 2, 1) := by decide +kernel
theorem dX11_drawSample_67 : decode cX11_drawSample 67 = .ok (.iinc 4 1, 3) := by decide +kernel
theorem dX11_drawSample_70 : decode cX11_drawSample 70 = .ok (.goto (-51), 3) := by decide +kernel
theorem dX11_drawSample_73 : decode cX11_drawSample 73 = .ok (.iload_n 3, 1) := by decide +kernel
theorem dX11_drawSample_74 : decode cX11_drawSample 74 = .ok (.ireturn, 1) := by decide +kernel
theorem dX11_bitAt_0 : decode cX11_bitAt 0 = .ok (.iload_n 1, 1) := by decide +kernel
theorem dX11_bitAt_1 : decode cX11_bitAt 1 = .ok (.istore_n 2, 1) := by decide +kernel
theorem dX11_bitAt_2 : decode cX11_bitAt 2 = .ok (.iconst 0, 1) := by decide +kernel
theorem dX11_bitAt_3 : decode cX11_bitAt 3 = .ok (.istore_n 3, 1) := by decide +kernel
theorem dX11_bitAt_4 : decode cX11_bitAt 4 = .ok (.iload_n 3, 1) := by decide +kernel
theorem dX11_bitAt_5 : decode cX11_bitAt 5 = .ok (.bipush 31, 2) := by decide +kernel
theorem dX11_bitAt_7 : decode cX11_bitAt 7 = .ok (.if_icmp .ge 27, 3) := by decide +kernel
theorem dX11_bitAt_10 : decode cX11_bitAt 10 = .ok (.iload_n 0, 1) := by decide +kernel
theorem dX11_bitAt_11 : decode cX11_bitAt 11 = .ok (.iload_n 3, 1) := by decide +kernel
theorem dX11_bitAt_12 : decode cX11_bitAt 12 = .ok (.ishr, 1) := by decide +kernel
theorem dX11_bitAt_13 : decode cX11_bitAt 13 = .ok (.iconst 1, 1) := by decide +kernel
theorem dX11_bitAt_14 : decode cX11_bitAt 14 = .ok (.iand, 1) := by decide +kernel
theorem dX11_bitAt_15 : decode cX11_bitAt 15 = .ok (.iconst 1, 1) := by decide +kernel
theorem dX11_bitAt_16 : decode cX11_bitAt 16 = .ok (.if_icmp .ne 12, 3) := by decide +kernel
theorem dX11_bitAt_19 : decode cX11_bitAt 19 = .ok (.iload_n 2, 1) := by decide +kernel
theorem dX11_bitAt_20 : decode cX11_bitAt 20 = .ok (.ifCond .ne 5, 3) := by decide +kernel
theorem dX11_bitAt_23 : decode cX11_bitAt 23 = .ok (.iload_n 3, 1) := by decide +kernel
theorem dX11_bitAt_24 : decode cX11_bitAt 24 = .ok (.ireturn, 1) := by decide +kernel
theorem dX11_bitAt_25 : decode cX11_bitAt 25 = .ok (.iinc 2 (-1), 3) := by decide +kernel
theorem dX11_bitAt_28 : decode cX11_bitAt 28 = .ok (.iinc 3 1, 3) := by decide +kernel
theorem dX11_bitAt_31 : decode cX11_bitAt 31 = .ok (.goto (-27), 3) := by decide +kernel
theorem dX11_bitAt_34 : decode cX11_bitAt 34 = .ok (.iconst 0, 1) := by decide +kernel
theorem dX11_bitAt_35 : decode cX11_bitAt 35 = .ok (.ireturn, 1) := by decide +kernel
theorem dX11_isTold_0 : decode cX11_isTold 0 = .ok (.iload_n 0, 1) := by decide +kernel
theorem dX11_isTold_1 : decode cX11_isTold 1 = .ok (.iconst 1, 1) := by decide +kernel
theorem dX11_isTold_2 : decode cX11_isTold 2 = .ok (.if_icmp .lt 13, 3) := by decide +kernel
theorem dX11_isTold_5 : decode cX11_isTold 5 = .ok (.iload_n 0, 1) := by decide +kernel
theorem dX11_isTold_6 : decode cX11_isTold 6 = .ok (.bipush 12, 2) := by decide +kernel
theorem dX11_isTold_8 : decode cX11_isTold 8 = .ok (.if_icmp .gt 7, 3) := by decide +kernel
theorem dX11_isTold_11 : decode cX11_isTold 11 = .ok (.iconst 1, 1) := by decide +kernel
theorem dX11_isTold_12 : decode cX11_isTold 12 = .ok (.goto 4, 3) := by decide +kernel
theorem dX11_isTold_15 : decode cX11_isTold 15 = .ok (.iconst 0, 1) := by decide +kernel
theorem dX11_isTold_16 : decode cX11_isTold 16 = .ok (.ireturn, 1) := by decide +kernel
theorem dX11_bitsOf_0 : decode cX11_bitsOf 0 = .ok (.fload_n 0, 1) := by decide +kernel
theorem dX11_bitsOf_1 : decode cX11_bitsOf 1 = .ok (.fconst 0, 1) := by decide +kernel
theorem dX11_bitsOf_2 : decode cX11_bitsOf 2 = .ok (.fcmp .l, 1) := by decide +kernel
theorem dX11_bitsOf_3 : decode cX11_bitsOf 3 = .ok (.ifCond .gt 5, 3) := by decide +kernel
theorem dX11_bitsOf_6 : decode cX11_bitsOf 6 = .ok (.iconst 0, 1) := by decide +kernel
theorem dX11_bitsOf_7 : decode cX11_bitsOf 7 = .ok (.ireturn, 1) := by decide +kernel
theorem dX11_bitsOf_8 : decode cX11_bitsOf 8 = .ok (.fload_n 0, 1) := by decide +kernel
theorem dX11_bitsOf_9 : decode cX11_bitsOf 9 = .ok (.fstore_n 1, 1) := by decide +kernel
theorem dX11_bitsOf_10 : decode cX11_bitsOf 10 = .ok (.bipush 127, 2) := by decide +kernel
theorem dX11_bitsOf_12 : decode cX11_bitsOf 12 = .ok (.istore_n 2, 1) := by decide +kernel
theorem dX11_bitsOf_13 : decode cX11_bitsOf 13 = .ok (.iload_n 2, 1) := by decide +kernel
theorem dX11_bitsOf_14 : decode cX11_bitsOf 14 = .ok (.iconst 1, 1) := by decide +kernel
theorem dX11_bitsOf_15 : decode cX11_bitsOf 15 = .ok (.if_icmp .le 19, 3) := by decide +kernel
theorem dX11_bitsOf_18 : decode cX11_bitsOf 18 = .ok (.fload_n 1, 1) := by decide +kernel
theorem dX11_bitsOf_19 : decode cX11_bitsOf 19 = .ok (.fconst 1, 1) := by decide +kernel
theorem dX11_bitsOf_20 : decode cX11_bitsOf 20 = .ok (.fcmp .g, 1) := by decide +kernel
theorem dX11_bitsOf_21 : decode cX11_bitsOf 21 = .ok (.ifCond .ge 13, 3) := by decide +kernel
theorem dX11_bitsOf_24 : decode cX11_bitsOf 24 = .ok (.fload_n 1, 1) := by decide +kernel
theorem dX11_bitsOf_25 : decode cX11_bitsOf 25 = .ok (.fconst 2, 1) := by decide +kernel
theorem dX11_bitsOf_26 : decode cX11_bitsOf 26 = .ok (.fmul, 1) := by decide +kernel
theorem dX11_bitsOf_27 : decode cX11_bitsOf 27 = .ok (.fstore_n 1, 1) := by decide +kernel
theorem dX11_bitsOf_28 : decode cX11_bitsOf 28 = .ok (.iinc 2 (-1), 3) := by decide +kernel
theorem dX11_bitsOf_31 : decode cX11_bitsOf 31 = .ok (.goto (-18), 3) := by decide +kernel
theorem dX11_bitsOf_34 : decode cX11_bitsOf 34 = .ok (.iload_n 2, 1) := by decide +kernel
theorem dX11_bitsOf_35 : decode cX11_bitsOf 35 = .ok (.bipush 23, 2) := by decide +kernel
theorem dX11_bitsOf_37 : decode cX11_bitsOf 37 = .ok (.ishl, 1) := by decide +kernel
theorem dX11_bitsOf_38 : decode cX11_bitsOf 38 = .ok (.fload_n 1, 1) := by decide +kernel
theorem dX11_bitsOf_39 : decode cX11_bitsOf 39 = .ok (.fconst 1, 1) := by decide +kernel
theorem dX11_bitsOf_40 : decode cX11_bitsOf 40 = .ok (.fsub, 1) := by decide +kernel
theorem dX11_bitsOf_41 : decode cX11_bitsOf 41 = .ok (.ldc_w 422, 3) := by decide +kernel
theorem dX11_bitsOf_44 : decode cX11_bitsOf 44 = .ok (.fmul, 1) := by decide +kernel
theorem dX11_bitsOf_45 : decode cX11_bitsOf 45 = .ok (.f2i, 1) := by decide +kernel
theorem dX11_bitsOf_46 : decode cX11_bitsOf 46 = .ok (.ior, 1) := by decide +kernel
theorem dX11_bitsOf_47 : decode cX11_bitsOf 47 = .ok (.ireturn, 1) := by decide +kernel
set_option maxRecDepth 20000 in
theorem ggX12_init_X12_begins : GoodIn wsX12_init wsX12_begins := goodIn_r _ [38, 5, 14, 39, 40, 41, 42, 43, 44, 45, 46, 47, 48, 49, 50, 51, 52, 53, 54, 55, 56, 57, 58, 59, 60, 61, 62, 63, 64, 65, 66, 67, 68, 69, 70, 71, 72, 73, 74, 75, 76, 77, 78, 79, 80] (by decide +kernel) (by decide +kernel)
set_option maxRecDepth 20000 in
theorem gX12_init_X12_begins : GoodIn wsX12_init (wsV RX12 94 RX12 yX12_begins wsX12_begins) := goodIn_app (goodIn_of _ (by decide +kernel)) ggX12_init_X12_begins
theorem dX12_init_0 : decode cX12_init 0 = .ok (.aload_n 0, 1) := by decide +kernel
theorem dX12_init_1 : decode cX12_init 1 = .ok (.invokespecial 1, 3) := by decide +kernel
theorem dX12_init_4 : decode cX12_init 4 = .ok (.aload_n 0, 1) := by decide +kernel
theorem dX12_init_5 : decode cX12_init 5 = .ok (.sipush 288, 3) := by decide +kernel
theorem dX12_init_8 : decode cX12_init 8 = .ok (.newarray .int, 2) := by decide +kernel
theorem dX12_init_10 : decode cX12_init 10 = .ok (.putfield 7, 3) := by decide +kernel
theorem dX12_init_13 : decode cX12_init 13 = .ok (.aload_n 0, 1) := by decide +kernel
theorem dX12_init_14 : decode cX12_init 14 = .ok (.sipush 2304, 3) := by decide +kernel
theorem dX12_init_17 : decode cX12_init 17 = .ok (.newarray .int, 2) := by decide +kernel
theorem dX12_init_19 : decode cX12_init 19 = .ok (.putfield 13, 3) := by decide +kernel
theorem dX12_init_22 : decode cX12_init 22 = .ok (.aload_n 0, 1) := by decide +kernel
theorem dX12_init_23 : decode cX12_init 23 = .ok (.sipush 288, 3) := by decide +kernel
theorem dX12_init_26 : decode cX12_init 26 = .ok (.newarray .int, 2) := by decide +kernel
theorem dX12_init_28 : decode cX12_init 28 = .ok (.putfield 16, 3) := by decide +kernel
theorem dX12_init_31 : decode cX12_init 31 = .ok (.aload_n 0, 1) := by decide +kernel
theorem dX12_init_32 : decode cX12_init 32 = .ok (.iconst 4, 1) := by decide +kernel
theorem dX12_init_33 : decode cX12_init 33 = .ok (.putfield 19, 3) := by decide +kernel
theorem dX12_init_36 : decode cX12_init 36 = .ok (.aload_n 0, 1) := by decide +kernel
theorem dX12_init_37 : decode cX12_init 37 = .ok (.iconst 2, 1) := by decide +kernel
theorem dX12_init_38 : decode cX12_init 38 = .ok (.putfield 23, 3) := by decide +kernel
theorem dX12_init_41 : decode cX12_init 41 = .ok (.aload_n 0, 1) := by decide +kernel
theorem dX12_init_42 : decode cX12_init 42 = .ok (.iconst 2, 1) := by decide +kernel
theorem dX12_init_43 : decode cX12_init 43 = .ok (.putfield 26, 3) := by decide +kernel
theorem dX12_init_46 : decode cX12_init 46 = .ok (.aload_n 0, 1) := by decide +kernel
theorem dX12_init_47 : decode cX12_init 47 = .ok (.iconst 3, 1) := by decide +kernel
theorem dX12_init_48 : decode cX12_init 48 = .ok (.putfield 29, 3) := by decide +kernel
theorem dX12_init_51 : decode cX12_init 51 = .ok (.aload_n 0, 1) := by decide +kernel
theorem dX12_init_52 : decode cX12_init 52 = .ok (.iconst 2, 1) := by decide +kernel
theorem dX12_init_53 : decode cX12_init 53 = .ok (.putfield 32, 3) := by decide +kernel
theorem dX12_init_56 : decode cX12_init 56 = .ok (.aload_n 0, 1) := by decide +kernel
theorem dX12_init_57 : decode cX12_init 57 = .ok (.iconst 1, 1) := by decide +kernel
theorem dX12_init_58 : decode cX12_init 58 = .ok (.putfield 35, 3) := by decide +kernel
theorem dX12_init_61 : decode cX12_init 61 = .ok (.aload_n 0, 1) := by decide +kernel
theorem dX12_init_62 : decode cX12_init 62 = .ok (.bipush 8, 2) := by decide +kernel
theorem dX12_init_64 : decode cX12_init 64 = .ok (.newarray .int, 2) := by decide +kernel
theorem dX12_init_66 : decode cX12_init 66 = .ok (.putfield 38, 3) := by decide +kernel
theorem dX12_init_69 : decode cX12_init 69 = .ok (.aload_n 0, 1) := by decide +kernel
theorem dX12_init_70 : decode cX12_init 70 = .ok (.bipush 16, 2) := by decide +kernel
theorem dX12_init_72 : decode cX12_init 72 = .ok (.newarray .int, 2) := by decide +kernel
theorem dX12_init_74 : decode cX12_init 74 = .ok (.putfield 41, 3) := by decide +kernel
theorem dX12_init_77 : decode cX12_init 77 = .ok (.aload_n 0, 1) := by decide +kernel
theorem dX12_init_78 : decode cX12_init 78 = .ok (.bipush 16, 2) := by decide +kernel
theorem dX12_init_80 : decode cX12_init 80 = .ok (.newarray .int, 2) := by decide +kernel
theorem dX12_init_82 : decode cX12_init 82 = .ok (.putfield 44, 3) := by decide +kernel
