theorem dX3_widestOf_68 : decode cX3_widestOf 68 = .ok (.iload 6, 2) := by decide +kernel
theorem dX3_widestOf_70 : decode cX3_widestOf 70 = .ok (.goto 17, 3) := by decide +kernel
theorem dX3_widestOf_73 : decode cX3_widestOf 73 = .ok (.iload 6, 2) := by decide +kernel
theorem dX3_widestOf_75 : decode cX3_widestOf 75 = .ok (.aload_n 0, 1) := by decide +kernel
theorem dX3_widestOf_76 : decode cX3_widestOf 76 = .ok (.iload 4, 2) := by decide +kernel
theorem dX3_widestOf_78 : decode cX3_widestOf 78 = .ok (.iload_n 3, 1) := by decide +kernel
theorem dX3_widestOf_79 : decode cX3_widestOf 79 = .ok (.iconst 1, 1) := by decide +kernel
theorem dX3_widestOf_80 : decode cX3_widestOf 80 = .ok (.iadd, 1) := by decide +kernel
theorem dX3_widestOf_81 : decode cX3_widestOf 81 = .ok (.invokestatic 60, 3) := by decide +kernel
theorem dX3_widestOf_84 : decode cX3_widestOf 84 = .ok (.invokestatic 54, 3) := by decide +kernel
theorem dX3_widestOf_87 : decode cX3_widestOf 87 = .ok (.ireturn, 1) := by decide +kernel
theorem dX3_widestOf_88 : decode cX3_widestOf 88 = .ok (.iinc 3 1, 3) := by decide +kernel
theorem dX3_widestOf_91 : decode cX3_widestOf 91 = .ok (.goto (-89), 3) := by decide +kernel
theorem dX3_widestOf_94 : decode cX3_widestOf 94 = .ok (.iconst 0, 1) := by decide +kernel
theorem dX3_widestOf_95 : decode cX3_widestOf 95 = .ok (.ireturn, 1) := by decide +kernel
set_option maxRecDepth 20000 in
theorem ggX4_init_X10_init : GoodIn wsX4_init wsX10_init := goodIn_r _ [13, 14, 2, 3, 4, 15, 39, 40, 41] (by decide +kernel) (by decide +kernel)
set_option maxRecDepth 20000 in
theorem gX4_init_X10_init_n27 : GoodIn wsX4_init (wsX10_init) := ggX4_init_X10_init
set_option maxRecDepth 20000 in
theorem ggX4_init_X4_begin : GoodIn wsX4_init wsX4_begin := goodIn_r _ [20, 5, 6, 7, 9, 21, 22, 23, 24, 25, 26, 27, 11, 28, 29, 30, 31, 32, 33, 34, 15, 35, 36, 37, 38, 39, 40, 41] (by decide +kernel) (by decide +kernel)
set_option maxRecDepth 20000 in
theorem gX4_init_X4_begin : GoodIn wsX4_init (wsV RX4 28 RX4 yX4_begin wsX4_begin) := goodIn_app (goodIn_of _ (by decide +kernel)) ggX4_init_X4_begin
theorem dX4_init_0 : decode cX4_init 0 = .ok (.aload_n 0, 1) := by decide +kernel
theorem dX4_init_1 : decode cX4_init 1 = .ok (.invokespecial 3, 3) := by decide +kernel
theorem dX4_init_4 : decode cX4_init 4 = .ok (.aload_n 0, 1) := by decide +kernel
theorem dX4_init_5 : decode cX4_init 5 = .ok (.bipush 8, 2) := by decide +kernel
theorem dX4_init_7 : decode cX4_init 7 = .ok (.newarray .int, 2) := by decide +kernel
theorem dX4_init_9 : decode cX4_init 9 = .ok (.putfield 9, 3) := by decide +kernel
theorem dX4_init_12 : decode cX4_init 12 = .ok (.aload_n 0, 1) := by decide +kernel
theorem dX4_init_13 : decode cX4_init 13 = .ok (.bipush 8, 2) := by decide +kernel
theorem dX4_init_15 : decode cX4_init 15 = .ok (.newarray .int, 2) := by decide +kernel
theorem dX4_init_17 : decode cX4_init 17 = .ok (.putfield 15, 3) := by decide +kernel
theorem dX4_init_20 : decode cX4_init 20 = .ok (.aload_n 0, 1) := by decide +kernel
theorem dX4_init_21 : decode cX4_init 21 = .ok (.bipush 8, 2) := by decide +kernel
theorem dX4_init_23 : decode cX4_init 23 = .ok (.newarray .int, 2) := by decide +kernel
theorem dX4_init_25 : decode cX4_init 25 = .ok (.putfield 18, 3) := by decide +kernel
theorem dX4_init_28 : decode cX4_init 28 = .ok (.aload_n 0, 1) := by decide +kernel
theorem dX4_init_29 : decode cX4_init 29 = .ok (.bipush 8, 2) := by decide +kernel
theorem dX4_init_31 : decode cX4_init 31 = .ok (.anewarray 21, 3) := by decide +kernel
theorem dX4_init_34 : decode cX4_init 34 = .ok (.putfield 23, 3) := by decide +kernel
theorem dX4_init_37 : decode cX4_init 37 = .ok (.iconst 0, 1) := by decide +kernel
theorem dX4_init_38 : decode cX4_init 38 = .ok (.istore_n 1, 1) := by decide +kernel
theorem dX4_init_39 : decode cX4_init 39 = .ok (.iload_n 1, 1) := by decide +kernel
theorem dX4_init_40 : decode cX4_init 40 = .ok (.bipush 8, 2) := by decide +kernel
theorem dX4_init_42 : decode cX4_init 42 = .ok (.if_icmp .ge 22, 3) := by decide +kernel
theorem dX4_init_45 : decode cX4_init 45 = .ok (.aload_n 0, 1) := by decide +kernel
theorem dX4_init_46 : decode cX4_init 46 = .ok (.getfield 23, 3) := by decide +kernel
theorem dX4_init_49 : decode cX4_init 49 = .ok (.iload_n 1, 1) := by decide +kernel
theorem dX4_init_50 : decode cX4_init 50 = .ok (.new 21, 3) := by decide +kernel
theorem dX4_init_53 : decode cX4_init 53 = .ok (.dup, 1) := by decide +kernel
theorem dX4_init_54 : decode cX4_init 54 = .ok (.invokespecial 27, 3) := by decide +kernel
theorem dX4_init_57 : decode cX4_init 57 = .ok (.aastore, 1) := by decide +kernel
theorem dX4_init_58 : decode cX4_init 58 = .ok (.iinc 1 1, 3) := by decide +kernel
theorem dX4_init_61 : decode cX4_init 61 = .ok (.goto (-22), 3) := by decide +kernel
theorem dX4_init_64 : decode cX4_init 64 = .ok (.aload_n 0, 1) := by decide +kernel
theorem dX4_init_65 : decode cX4_init 65 = .ok (.invokevirtual 28, 3) := by decide +kernel
theorem dX4_init_68 : decode cX4_init 68 = .ok (.return_, 1) := by decide +kernel
set_option maxRecDepth 20000 in
theorem ggX4_begin_J7_fill_53178 : GoodIn wsX4_begin wsJ7_fill_53178 := goodIn_r _ [8] (by decide +kernel) (by decide +kernel)
set_option maxRecDepth 20000 in
theorem gX4_begin_J7_fill_53178 : GoodIn wsX4_begin (va_wsS RX4 31 yJ7_fill_53178 wsJ7_fill_53178) := goodIn_app (goodIn_of _ (by decide +kernel)) ggX4_begin_J7_fill_53178
set_option maxRecDepth 20000 in
theorem ggX4_begin_X10_begin : GoodIn wsX4_begin wsX10_begin := goodIn_r _ [13, 14, 15, 16, 17, 18, 12, 19, 20, 25, 26, 27] (by decide +kernel) (by decide +kernel)
set_option maxRecDepth 20000 in
theorem gX4_begin_X10_begin : GoodIn wsX4_begin (wsV RX4 37 RX10 yX10_begin wsX10_begin) := goodIn_app (goodIn_of _ (by decide +kernel)) ggX4_begin_X10_begin
theorem dX4_begin_0 : decode cX4_begin 0 = .ok (.aload_n 0, 1) := by decide +kernel
theorem dX4_begin_1 : decode cX4_begin 1 = .ok (.getfield 9, 3) := by decide +kernel
theorem dX4_begin_4 : decode cX4_begin 4 = .ok (.iconst 0, 1) := by decide +kernel
theorem dX4_begin_5 : decode cX4_begin 5 = .ok (.invokestatic 31, 3) := by decide +kernel
theorem dX4_begin_8 : decode cX4_begin 8 = .ok (.aload_n 0, 1) := by decide +kernel
theorem dX4_begin_9 : decode cX4_begin 9 = .ok (.getfield 15, 3) := by decide +kernel
theorem dX4_begin_12 : decode cX4_begin 12 = .ok (.iconst 0, 1) := by decide +kernel
theorem dX4_begin_13 : decode cX4_begin 13 = .ok (.invokestatic 31, 3) := by decide +kernel
theorem dX4_begin_16 : decode cX4_begin 16 = .ok (.aload_n 0, 1) := by decide +kernel
theorem dX4_begin_17 : decode cX4_begin 17 = .ok (.getfield 18, 3) := by decide +kernel
theorem dX4_begin_20 : decode cX4_begin 20 = .ok (.iconst (-1), 1) := by decide +kernel
theorem dX4_begin_21 : decode cX4_begin 21 = .ok (.invokestatic 31, 3) := by decide +kernel
theorem dX4_begin_24 : decode cX4_begin 24 = .ok (.iconst 0, 1) := by decide +kernel
theorem dX4_begin_25 : decode cX4_begin 25 = .ok (.istore_n 1, 1) := by decide +kernel
theorem dX4_begin_26 : decode cX4_begin 26 = .ok (.iload_n 1, 1) := by decide +kernel
theorem dX4_begin_27 : decode cX4_begin 27 = .ok (.bipush 8, 2) := by decide +kernel
theorem dX4_begin_29 : decode cX4_begin 29 = .ok (.if_icmp .ge 18, 3) := by decide +kernel
theorem dX4_begin_32 : decode cX4_begin 32 = .ok (.aload_n 0, 1) := by decide +kernel
theorem dX4_begin_33 : decode cX4_begin 33 = .ok (.getfield 23, 3) := by decide +kernel
theorem dX4_begin_36 : decode cX4_begin 36 = .ok (.iload_n 1, 1) := by decide +kernel
theorem dX4_begin_37 : decode cX4_begin 37 = .ok (.aaload, 1) := by decide +kernel
theorem dX4_begin_38 : decode cX4_begin 38 = .ok (.invokevirtual 37, 3) := by decide +kernel
theorem dX4_begin_41 : decode cX4_begin 41 = .ok (.iinc 1 1, 3) := by decide +kernel
theorem dX4_begin_44 : decode cX4_begin 44 = .ok (.goto (-18), 3) := by decide +kernel
theorem dX4_begin_47 : decode cX4_begin 47 = .ok (.return_, 1) := by decide +kernel
set_option maxRecDepth 20000 in
theorem ggX4_takeFrom_X10_takeFrom : GoodIn wsX4_takeFrom wsX10_takeFrom := goodIn_r _ [13, 14, 15, 16, 17, 3, 4, 5, 22, 23, 24] (by decide +kernel) (by decide +kernel)
set_option maxRecDepth 20000 in
theorem gX4_takeFrom_X10_takeFrom : GoodIn wsX4_takeFrom (wsV RX4 44 RX10 yX10_takeFrom wsX10_takeFrom) := goodIn_app (goodIn_of _ (by decide +kernel)) ggX4_takeFrom_X10_takeFrom
theorem dX4_takeFrom_0 : decode cX4_takeFrom 0 = .ok (.aload_n 1, 1) := by decide +kernel
theorem dX4_takeFrom_1 : decode cX4_takeFrom 1 = .ok (.getfield 9, 3) := by decide +kernel
theorem dX4_takeFrom_4 : decode cX4_takeFrom 4 = .ok (.iconst 0, 1) := by decide +kernel
theorem dX4_takeFrom_5 : decode cX4_takeFrom 5 = .ok (.aload_n 0, 1) := by decide +kernel
theorem dX4_takeFrom_6 : decode cX4_takeFrom 6 = .ok (.getfield 9, 3) := by decide +kernel
theorem dX4_takeFrom_9 : decode cX4_takeFrom 9 = .ok (.iconst 0, 1) := by decide +kernel
theorem dX4_takeFrom_10 : decode cX4_takeFrom 10 = .ok (.bipush 8, 2) := by decide +kernel
theorem dX4_takeFrom_12 : decode cX4_takeFrom 12 = .ok (.invokestatic 38, 3) := by decide +kernel
theorem dX4_takeFrom_15 : decode cX4_takeFrom 15 = .ok (.aload_n 1, 1) := by decide +kernel
theorem dX4_takeFrom_16 : decode cX4_takeFrom 16 = .ok (.getfield 15, 3) := by decide +kernel
theorem dX4_takeFrom_19 : decode cX4_takeFrom 19 = .ok (.iconst 0, 1) := by decide +kernel
theorem dX4_takeFrom_20 : decode cX4_takeFrom 20 = .ok (.aload_n 0, 1) := by decide +kernel
theorem dX4_takeFrom_21 : decode cX4_takeFrom 21 = .ok (.getfield 15, 3) := by decide +kernel
theorem dX4_takeFrom_24 : decode cX4_takeFrom 24 = .ok (.iconst 0, 1) := by decide +kernel
theorem dX4_takeFrom_25 : decode cX4_takeFrom 25 = .ok (.bipush 8, 2) := by decide +kernel
theorem dX4_takeFrom_27 : decode cX4_takeFrom 27 = .ok (.invokestatic 38, 3) := by decide +kernel
theorem dX4_takeFrom_30 : decode cX4_takeFrom 30 = .ok (.aload_n 1, 1) := by decide +kernel
theorem dX4_takeFrom_31 : decode cX4_takeFrom 31 = .ok (.getfield 18, 3) := by decide +kernel
theorem dX4_takeFrom_34 : decode cX4_takeFrom 34 = .ok (.iconst 0, 1) := by decide +kernel
theorem dX4_takeFrom_35 : decode cX4_takeFrom 35 = .ok (.aload_n 0, 1) := by decide +kernel
theorem dX4_takeFrom_36 : decode cX4_takeFrom 36 = .ok (.getfield 18, 3) := by decide +kernel
theorem dX4_takeFrom_39 : decode cX4_takeFrom 39 = .ok (.iconst 0, 1) := by decide +kernel
theorem dX4_takeFrom_40 : decode cX4_takeFrom 40 = .ok (.bipush 8, 2) := by decide +kernel
theorem dX4_takeFrom_42 : decode cX4_takeFrom 42 = .ok (.invokestatic 38, 3) := by decide +kernel
theorem dX4_takeFrom_45 : decode cX4_takeFrom 45 = .ok (.iconst 0, 1) := by decide +kernel
theorem dX4_takeFrom_46 : decode cX4_takeFrom 46 = .ok (.istore_n 2, 1) := by decide +kernel
theorem dX4_takeFrom_47 : decode cX4_takeFrom 47 = .ok (.iload_n 2, 1) := by decide +kernel
theorem dX4_takeFrom_48 : decode cX4_takeFrom 48 = .ok (.bipush 8, 2) := by decide +kernel
theorem dX4_takeFrom_50 : decode cX4_takeFrom 50 = .ok (.if_icmp .ge 24, 3) := by decide +kernel
theorem dX4_takeFrom_53 : decode cX4_takeFrom 53 = .ok (.aload_n 0, 1) := by decide +kernel
theorem dX4_takeFrom_54 : decode cX4_takeFrom 54 = .ok (.getfield 23, 3) := by decide +kernel
theorem dX4_takeFrom_57 : decode cX4_takeFrom 57 = .ok (.iload_n 2, 1) := by decide +kernel
theorem dX4_takeFrom_58 : decode cX4_takeFrom 58 = .ok (.aaload, 1) := by decide +kernel
theorem dX4_takeFrom_59 : decode cX4_takeFrom 59 = .ok (.aload_n 1, 1) := by decide +kernel
theorem dX4_takeFrom_60 : decode cX4_takeFrom 60 = .ok (.getfield 23, 3) := by decide +kernel
theorem dX4_takeFrom_63 : decode cX4_takeFrom 63 = .ok (.iload_n 2, 1) := by decide +kernel
theorem dX4_takeFrom_64 : decode cX4_takeFrom 64 = .ok (.aaload, 1) := by decide +kernel
theorem dX4_takeFrom_65 : decode cX4_takeFrom 65 = .ok (.invokevirtual 44, 3) := by decide +kernel
theorem dX4_takeFrom_68 : decode cX4_takeFrom 68 = .ok (.iinc 2 1, 3) := by decide +kernel
theorem dX4_takeFrom_71 : decode cX4_takeFrom 71 = .ok (.goto (-24), 3) := by decide +kernel
theorem dX4_takeFrom_74 : decode cX4_takeFrom 74 = .ok (.return_, 1) := by decide +kernel
theorem dX4_colourOf_0 : decode cX4_colourOf 0 = .ok (.iload_n 0, 1) := by decide +kernel
theorem dX4_colourOf_1 : decode cX4_colourOf 1 = .ok (.iconst 3, 1) := by decide +kernel
theorem dX4_colourOf_2 : decode cX4_colourOf 2 = .ok (.iand, 1) := by decide +kernel
theorem dX4_colourOf_3 : decode cX4_colourOf 3 = .ok (.iconst 1, 1) := by decide +kernel
theorem dX4_colourOf_4 : decode cX4_colourOf 4 = .ok (.isub, 1) := by decide +kernel
theorem dX4_colourOf_5 : decode cX4_colourOf 5 = .ok (.ireturn, 1) := by decide +kernel
theorem dX4_withColour_0 : decode cX4_withColour 0 = .ok (.iload_n 0, 1) := by decide +kernel
theorem dX4_withColour_1 : decode cX4_withColour 1 = .ok (.bipush (-4), 2) := by decide +kernel
theorem dX4_withColour_3 : decode cX4_withColour 3 = .ok (.iand, 1) := by decide +kernel
theorem dX4_withColour_4 : decode cX4_withColour 4 = .ok (.iload_n 1, 1) := by decide +kernel
theorem dX4_withColour_5 : decode cX4_withColour 5 = .ok (.iconst 1, 1) := by decide +kernel
theorem dX4_withColour_6 : decode cX4_withColour 6 = .ok (.iadd, 1) := by decide +kernel
theorem dX4_withColour_7 : decode cX4_withColour 7 = .ok (.ior, 1) := by decide +kernel
theorem dX4_withColour_8 : decode cX4_withColour 8 = .ok (.ireturn, 1) := by decide +kernel
theorem dX4_lastOf_0 : decode cX4_lastOf 0 = .ok (.iload_n 0, 1) := by decide +kernel
theorem dX4_lastOf_1 : decode cX4_lastOf 1 = .ok (.iconst 2, 1) := by decide +kernel
theorem dX4_lastOf_2 : decode cX4_lastOf 2 = .ok (.iushr, 1) := by decide +kernel
theorem dX4_lastOf_3 : decode cX4_lastOf 3 = .ok (.iconst 3, 1) := by decide +kernel
theorem dX4_lastOf_4 : decode cX4_lastOf 4 = .ok (.iand, 1) := by decide +kernel
theorem dX4_lastOf_5 : decode cX4_lastOf 5 = .ok (.iconst 1, 1) := by decide +kernel
theorem dX4_lastOf_6 : decode cX4_lastOf 6 = .ok (.isub, 1) := by decide +kernel
theorem dX4_lastOf_7 : decode cX4_lastOf 7 = .ok (.ireturn, 1) := by decide +kernel
theorem dX4_withLast_0 : decode cX4_withLast 0 = .ok (.iload_n 0, 1) := by decide +kernel
theorem dX4_withLast_1 : decode cX4_withLast 1 = .ok (.bipush (-13), 2) := by decide +kernel
theorem dX4_withLast_3 : decode cX4_withLast 3 = .ok (.iand, 1) := by decide +kernel
theorem dX4_withLast_4 : decode cX4_withLast 4 = .ok (.iload_n 1, 1) := by decide +kernel
theorem dX4_withLast_5 : decode cX4_withLast 5 = .ok (.iconst 1, 1) := by decide +kernel
theorem dX4_withLast_6 : decode cX4_withLast 6 = .ok (.iadd, 1) := by decide +kernel
theorem dX4_withLast_7 : decode cX4_withLast 7 = .ok (.iconst 2, 1) := by decide +kernel
theorem dX4_withLast_8 : decode cX4_withLast 8 = .ok (.ishl, 1) := by decide +kernel
theorem dX4_withLast_9 : decode cX4_withLast 9 = .ok (.ior, 1) := by decide +kernel
theorem dX4_withLast_10 : decode cX4_withLast 10 = .ok (.ireturn, 1) := by decide +kernel
theorem dX4_counterOf_0 : decode cX4_counterOf 0 = .ok (.iload_n 0, 1) := by decide +kernel
theorem dX4_counterOf_1 : decode cX4_counterOf 1 = .ok (.iconst 4, 1) := by decide +kernel
theorem dX4_counterOf_2 : decode cX4_counterOf 2 = .ok (.iushr, 1) := by decide +kernel
theorem dX4_counterOf_3 : decode cX4_counterOf 3 = .ok (.bipush 15, 2) := by decide +kernel
theorem dX4_counterOf_5 : decode cX4_counterOf 5 = .ok (.iand, 1) := by decide +kernel
theorem dX4_counterOf_6 : decode cX4_counterOf 6 = .ok (.ireturn, 1) := by decide +kernel
theorem dX4_withCounter_0 : decode cX4_withCounter 0 = .ok (.iload_n 0, 1) := by decide +kernel
theorem dX4_withCounter_1 : decode cX4_withCounter 1 = .ok (.sipush (-241), 3) := by decide +kernel
theorem dX4_withCounter_4 : decode cX4_withCounter 4 = .ok (.iand, 1) := by decide +kernel
theorem dX4_withCounter_5 : decode cX4_withCounter 5 = .ok (.iload_n 1, 1) := by decide +kernel
theorem dX4_withCounter_6 : decode cX4_withCounter 6 = .ok (.iconst 4, 1) := by decide +kernel
theorem dX4_withCounter_7 : decode cX4_withCounter 7 = .ok (.ishl, 1) := by decide +kernel
theorem dX4_withCounter_8 : decode cX4_withCounter 8 = .ok (.ior, 1) := by decide +kernel
theorem dX4_withCounter_9 : decode cX4_withCounter 9 = .ok (.ireturn, 1) := by decide +kernel
theorem dX4_confidenceOf_0 : decode cX4_confidenceOf 0 = .ok (.iload_n 0, 1) := by decide +kernel
theorem dX4_confidenceOf_1 : decode cX4_confidenceOf 1 = .ok (.bipush 8, 2) := by decide +kernel
theorem dX4_confidenceOf_3 : decode cX4_confidenceOf 3 = .ok (.iload_n 1, 1) := by decide +kernel
theorem dX4_confidenceOf_4 : decode cX4_confidenceOf 4 = .ok (.bipush 10, 2) := by decide +kernel
theorem dX4_confidenceOf_6 : decode cX4_confidenceOf 6 = .ok (.imul, 1) := by decide +kernel
theorem dX4_confidenceOf_7 : decode cX4_confidenceOf 7 = .ok (.iadd, 1) := by decide +kernel
theorem dX4_confidenceOf_8 : decode cX4_confidenceOf 8 = .ok (.iushr, 1) := by decide +kernel
theorem dX4_confidenceOf_9 : decode cX4_confidenceOf 9 = .ok (.sipush 1023, 3) := by decide +kernel
theorem dX4_confidenceOf_12 : decode cX4_confidenceOf 12 = .ok (.iand, 1) := by decide +kernel
theorem dX4_confidenceOf_13 : decode cX4_confidenceOf 13 = .ok (.ireturn, 1) := by decide +kernel
theorem dX4_withConfidence_0 : decode cX4_withConfidence 0 = .ok (.bipush 8, 2) := by decide +kernel
theorem dX4_withConfidence_2 : decode cX4_withConfidence 2 = .ok (.iload_n 1, 1) := by decide +kernel
theorem dX4_withConfidence_3 : decode cX4_withConfidence 3 = .ok (.bipush 10, 2) := by decide +kernel
theorem dX4_withConfidence_5 : decode cX4_withConfidence 5 = .ok (.imul, 1) := by decide +kernel
theorem dX4_withConfidence_6 : decode cX4_withConfidence 6 = .ok (.iadd, 1) := by decide +kernel
theorem dX4_withConfidence_7 : decode cX4_withConfidence 7 = .ok (.istore_n 3, 1) := by decide +kernel
theorem dX4_withConfidence_8 : decode cX4_withConfidence 8 = .ok (.iload_n 0, 1) := by decide +kernel
theorem dX4_withConfidence_9 : decode cX4_withConfidence 9 = .ok (.sipush 1023, 3) := by decide +kernel
theorem dX4_withConfidence_12 : decode cX4_withConfidence 12 = .ok (.iload_n 3, 1) := by decide +kernel
theorem dX4_withConfidence_13 : decode cX4_withConfidence 13 = .ok (.ishl, 1) := by decide +kernel
theorem dX4_withConfidence_14 : decode cX4_withConfidence 14 = .ok (.iconst (-1), 1) := by decide +kernel
theorem dX4_withConfidence_15 : decode cX4_withConfidence 15 = .ok (.ixor, 1) := by decide +kernel
theorem dX4_withConfidence_16 : decode cX4_withConfidence 16 = .ok (.iand, 1) := by decide +kernel
theorem dX4_withConfidence_17 : decode cX4_withConfidence 17 = .ok (.iload_n 2, 1) := by decide +kernel
theorem dX4_withConfidence_18 : decode cX4_withConfidence 18 = .ok (.iload_n 3, 1) := by decide +kernel
theorem dX4_withConfidence_19 : decode cX4_withConfidence 19 = .ok (.ishl, 1) := by decide +kernel
theorem dX4_withConfidence_20 : decode cX4_withConfidence 20 = .ok (.ior, 1) := by decide +kernel
theorem dX4_withConfidence_21 : decode cX4_withConfidence 21 = .ok (.ireturn, 1) := by decide +kernel
theorem dX4_isDecided_0 : decode cX4_isDecided 0 = .ok (.iload_n 0, 1) := by decide +kernel
theorem dX4_isDecided_1 : decode cX4_isDecided 1 = .ok (.ldc 48, 2) := by decide +kernel
theorem dX4_isDecided_3 : decode cX4_isDecided 3 = .ok (.iand, 1) := by decide +kernel
theorem dX4_isDecided_4 : decode cX4_isDecided 4 = .ok (.ifCond .eq 7, 3) := by decide +kernel
theorem dX4_isDecided_7 : decode cX4_isDecided 7 = .ok (.iconst 1, 1) := by decide +kernel
theorem dX4_isDecided_8 : decode cX4_isDecided 8 = .ok (.goto 4, 3) := by decide +kernel
theorem dX4_isDecided_11 : decode cX4_isDecided 11 = .ok (.iconst 0, 1) := by decide +kernel
theorem dX4_isDecided_12 : decode cX4_isDecided 12 = .ok (.ireturn, 1) := by decide +kernel
theorem dX4_withDecided_0 : decode cX4_withDecided 0 = .ok (.iload_n 0, 1) := by decide +kernel
theorem dX4_withDecided_1 : decode cX4_withDecided 1 = .ok (.ldc 48, 2) := by decide +kernel
theorem dX4_withDecided_3 : decode cX4_withDecided 3 = .ok (.ior, 1) := by decide +kernel
theorem dX4_withDecided_4 : decode cX4_withDecided 4 = .ok (.ireturn, 1) := by decide +kernel
theorem dX4_isLinked_0 : decode cX4_isLinked 0 = .ok (.aload_n 0, 1) := by decide +kernel
theorem dX4_isLinked_1 : decode cX4_isLinked 1 = .ok (.getfield 18, 3) := by decide +kernel
theorem dX4_isLinked_4 : decode cX4_isLinked 4 = .ok (.iload_n 1, 1) := by decide +kernel
theorem dX4_isLinked_5 : decode cX4_isLinked 5 = .ok (.iaload, 1) := by decide +kernel
theorem dX4_isLinked_6 : decode cX4_isLinked 6 = .ok (.iload_n 2, 1) := by decide +kernel
theorem dX4_isLinked_7 : decode cX4_isLinked 7 = .ok (.ishr, 1) := by decide +kernel
theorem dX4_isLinked_8 : decode cX4_isLinked 8 = .ok (.iconst 1, 1) := by decide +kernel
theorem dX4_isLinked_9 : decode cX4_isLinked 9 = .ok (.iand, 1) := by decide +kernel
theorem dX4_isLinked_10 : decode cX4_isLinked 10 = .ok (.iconst 1, 1) := by decide +kernel
theorem dX4_isLinked_11 : decode cX4_isLinked 11 = .ok (.if_icmp .ne 7, 3) := by decide +kernel
theorem dX4_isLinked_14 : decode cX4_isLinked 14 = .ok (.iconst 1, 1) := by decide +kernel
theorem dX4_isLinked_15 : decode cX4_isLinked 15 = .ok (.goto 4, 3) := by decide +kernel
theorem dX4_isLinked_18 : decode cX4_isLinked 18 = .ok (.iconst 0, 1) := by decide +kernel
theorem dX4_isLinked_19 : decode cX4_isLinked 19 = .ok (.ireturn, 1) := by decide +kernel
set_option maxRecDepth 20000 in
theorem ggX4_unlinkedPairs_X4_isLinked : GoodIn wsX4_unlinkedPairs wsX4_isLinked := goodIn_r _ [5, 6, 7, 8, 9, 10] (by decide +kernel) (by decide +kernel)
set_option maxRecDepth 20000 in
theorem gX4_unlinkedPairs_X4_isLinked : GoodIn wsX4_unlinkedPairs (wsV RX4 49 RX4 yX4_isLinked wsX4_isLinked) := goodIn_app (goodIn_of _ (by decide +kernel)) ggX4_unlinkedPairs_X4_isLinked
theorem dX4_unlinkedPairs_0 : decode cX4_unlinkedPairs 0 = .ok (.iconst 0, 1) := by decide +kernel
theorem dX4_unlinkedPairs_1 : decode cX4_unlinkedPairs 1 = .ok (.istore_n 2, 1) := by decide +kernel
theorem dX4_unlinkedPairs_2 : decode cX4_unlinkedPairs 2 = .ok (.iconst 0, 1) := by decide +kernel
theorem dX4_unlinkedPairs_3 : decode cX4_unlinkedPairs 3 = .ok (.istore_n 3, 1) := by decide +kernel
theorem dX4_unlinkedPairs_4 : decode cX4_unlinkedPairs 4 = .ok (.iload_n 3, 1) := by decide +kernel
theorem dX4_unlinkedPairs_5 : decode cX4_unlinkedPairs 5 = .ok (.iload_n 1, 1) := by decide +kernel
theorem dX4_unlinkedPairs_6 : decode cX4_unlinkedPairs 6 = .ok (.if_icmp .ge 44, 3) := by decide +kernel
theorem dX4_unlinkedPairs_9 : decode cX4_unlinkedPairs 9 = .ok (.iload_n 3, 1) := by decide +kernel
theorem dX4_unlinkedPairs_10 : decode cX4_unlinkedPairs 10 = .ok (.iconst 1, 1) := by decide +kernel
theorem dX4_unlinkedPairs_11 : decode cX4_unlinkedPairs 11 = .ok (.iadd, 1) := by decide +kernel
theorem dX4_unlinkedPairs_12 : decode cX4_unlinkedPairs 12 = .ok (.istore 4, 2) := by decide +kernel
theorem dX4_unlinkedPairs_14 : decode cX4_unlinkedPairs 14 = .ok (.iload 4, 2) := by decide +kernel
theorem dX4_unlinkedPairs_16 : decode cX4_unlinkedPairs 16 = .ok (.iload_n 1, 1) := by decide +kernel
theorem dX4_unlinkedPairs_17 : decode cX4_unlinkedPairs 17 = .ok (.if_icmp .ge 27, 3) := by decide +kernel
theorem dX4_unlinkedPairs_20 : decode cX4_unlinkedPairs 20 = .ok (.iload_n 2, 1) := by decide +kernel
theorem dX4_unlinkedPairs_21 : decode cX4_unlinkedPairs 21 = .ok (.aload_n 0, 1) := by decide +kernel
theorem dX4_unlinkedPairs_22 : decode cX4_unlinkedPairs 22 = .ok (.iload_n 3, 1) := by decide +kernel
theorem dX4_unlinkedPairs_23 : decode cX4_unlinkedPairs 23 = .ok (.iload 4, 2) := by decide +kernel
theorem dX4_unlinkedPairs_25 : decode cX4_unlinkedPairs 25 = .ok (.invokevirtual 49, 3) := by decide +kernel
theorem dX4_unlinkedPairs_28 : decode cX4_unlinkedPairs 28 = .ok (.ifCond .eq 7, 3) := by decide +kernel
theorem dX4_unlinkedPairs_31 : decode cX4_unlinkedPairs 31 = .ok (.iconst 0, 1) := by decide +kernel
theorem dX4_unlinkedPairs_32 : decode cX4_unlinkedPairs 32 = .ok (.goto 4, 3) := by decide +kernel
theorem dX4_unlinkedPairs_35 : decode cX4_unlinkedPairs 35 = .ok (.iconst 1, 1) := by decide +kernel
theorem dX4_unlinkedPairs_36 : decode cX4_unlinkedPairs 36 = .ok (.iadd, 1) := by decide +kernel
theorem dX4_unlinkedPairs_37 : decode cX4_unlinkedPairs 37 = .ok (.istore_n 2, 1) := by decide +kernel
theorem dX4_unlinkedPairs_38 : decode cX4_unlinkedPairs 38 = .ok (.iinc 4 1, 3) := by decide +kernel
theorem dX4_unlinkedPairs_41 : decode cX4_unlinkedPairs 41 = .ok (.goto (-27), 3) := by decide +kernel
theorem dX4_unlinkedPairs_44 : decode cX4_unlinkedPairs 44 = .ok (.iinc 3 1, 3) := by decide +kernel
theorem dX4_unlinkedPairs_47 : decode cX4_unlinkedPairs 47 = .ok (.goto (-43), 3) := by decide +kernel
theorem dX4_unlinkedPairs_50 : decode cX4_unlinkedPairs 50 = .ok (.iload_n 2, 1) := by decide +kernel
theorem dX4_unlinkedPairs_51 : decode cX4_unlinkedPairs 51 = .ok (.ireturn, 1) := by decide +kernel
theorem dX4_honestBits_0 : decode cX4_honestBits 0 = .ok (.iconst 0, 1) := by decide +kernel
theorem dX4_honestBits_1 : decode cX4_honestBits 1 = .ok (.istore_n 2, 1) := by decide +kernel
theorem dX4_honestBits_2 : decode cX4_honestBits 2 = .ok (.iconst 0, 1) := by decide +kernel
theorem dX4_honestBits_3 : decode cX4_honestBits 3 = .ok (.istore_n 3, 1) := by decide +kernel
theorem dX4_honestBits_4 : decode cX4_honestBits 4 = .ok (.iload_n 3, 1) := by decide +kernel
theorem dX4_honestBits_5 : decode cX4_honestBits 5 = .ok (.iload_n 1, 1) := by decide +kernel
theorem dX4_honestBits_6 : decode cX4_honestBits 6 = .ok (.if_icmp .ge 28, 3) := by decide +kernel
theorem dX4_honestBits_9 : decode cX4_honestBits 9 = .ok (.iload_n 2, 1) := by decide +kernel
theorem dX4_honestBits_10 : decode cX4_honestBits 10 = .ok (.aload_n 0, 1) := by decide +kernel
theorem dX4_honestBits_11 : decode cX4_honestBits 11 = .ok (.getfield 15, 3) := by decide +kernel
theorem dX4_honestBits_14 : decode cX4_honestBits 14 = .ok (.iload_n 3, 1) := by decide +kernel
theorem dX4_honestBits_15 : decode cX4_honestBits 15 = .ok (.iaload, 1) := by decide +kernel
theorem dX4_honestBits_16 : decode cX4_honestBits 16 = .ok (.ifCond .ne 9, 3) := by decide +kernel
theorem dX4_honestBits_19 : decode cX4_honestBits 19 = .ok (.iconst 1, 1) := by decide +kernel
theorem dX4_honestBits_20 : decode cX4_honestBits 20 = .ok (.iload_n 3, 1) := by decide +kernel
theorem dX4_honestBits_21 : decode cX4_honestBits 21 = .ok (.ishl, 1) := by decide +kernel
theorem dX4_honestBits_22 : decode cX4_honestBits 22 = .ok (.goto 4, 3) := by decide +kernel
theorem dX4_honestBits_25 : decode cX4_honestBits 25 = .ok (.iconst 0, 1) := by decide +kernel
theorem dX4_honestBits_26 : decode cX4_honestBits 26 = .ok (.ior, 1) := by decide +kernel
theorem dX4_honestBits_27 : decode cX4_honestBits 27 = .ok (.istore_n 2, 1) := by decide +kernel
theorem dX4_honestBits_28 : decode cX4_honestBits 28 = .ok (.iinc 3 1, 3) := by decide +kernel
theorem dX4_honestBits_31 : decode cX4_honestBits 31 = .ok (.goto (-27), 3) := by decide +kernel
theorem dX4_honestBits_34 : decode cX4_honestBits 34 = .ok (.iload_n 2, 1) := by decide +kernel
theorem dX4_honestBits_35 : decode cX4_honestBits 35 = .ok (.ireturn, 1) := by decide +kernel
set_option maxRecDepth 20000 in
theorem ggX4_decidedBits_X4_isDecided : GoodIn wsX4_decidedBits wsX4_isDecided := goodIn_r _ [5, 6] (by decide +kernel) (by decide +kernel)
set_option maxRecDepth 20000 in
theorem gX4_decidedBits_X4_isDecided : GoodIn wsX4_decidedBits (va_wsS RX4 53 yX4_isDecided wsX4_isDecided) := goodIn_app (goodIn_of _ (by decide +kernel)) ggX4_decidedBits_X4_isDecided
theorem dX4_decidedBits_0 : decode cX4_decidedBits 0 = .ok (.iconst 0, 1) := by decide +kernel
theorem dX4_decidedBits_1 : decode cX4_decidedBits 1 = .ok (.istore_n 2, 1) := by decide +kernel
theorem dX4_decidedBits_2 : decode cX4_decidedBits 2 = .ok (.iconst 0, 1) := by decide +kernel
theorem dX4_decidedBits_3 : decode cX4_decidedBits 3 = .ok (.istore_n 3, 1) := by decide +kernel
theorem dX4_decidedBits_4 : decode cX4_decidedBits 4 = .ok (.iload_n 3, 1) := by decide +kernel
theorem dX4_decidedBits_5 : decode cX4_decidedBits 5 = .ok (.iload_n 1, 1) := by decide +kernel
theorem dX4_decidedBits_6 : decode cX4_decidedBits 6 = .ok (.if_icmp .ge 31, 3) := by decide +kernel
theorem dX4_decidedBits_9 : decode cX4_decidedBits 9 = .ok (.iload_n 2, 1) := by decide +kernel
theorem dX4_decidedBits_10 : decode cX4_decidedBits 10 = .ok (.aload_n 0, 1) := by decide +kernel
theorem dX4_decidedBits_11 : decode cX4_decidedBits 11 = .ok (.getfield 9, 3) := by decide +kernel
theorem dX4_decidedBits_14 : decode cX4_decidedBits 14 = .ok (.iload_n 3, 1) := by decide +kernel
theorem dX4_decidedBits_15 : decode cX4_decidedBits 15 = .ok (.iaload, 1) := by decide +kernel
theorem dX4_decidedBits_16 : decode cX4_decidedBits 16 = .ok (.invokestatic 53, 3) := by decide +kernel
theorem dX4_decidedBits_19 : decode cX4_decidedBits 19 = .ok (.ifCond .eq 9, 3) := by decide +kernel
theorem dX4_decidedBits_22 : decode cX4_decidedBits 22 = .ok (.iconst 1, 1) := by decide +kernel
theorem dX4_decidedBits_23 : decode cX4_decidedBits 23 = .ok (.iload_n 3, 1) := by decide +kernel
theorem dX4_decidedBits_24 : decode cX4_decidedBits 24 = .ok (.ishl, 1) := by decide +kernel
theorem dX4_decidedBits_25 : decode cX4_decidedBits 25 = .ok (.goto 4, 3) := by decide +kernel
theorem dX4_decidedBits_28 : decode cX4_decidedBits 28 = .ok (.iconst 0, 1) := by decide +kernel
theorem dX4_decidedBits_29 : decode cX4_decidedBits 29 = .ok (.ior, 1) := by decide +kernel
theorem dX4_decidedBits_30 : decode cX4_decidedBits 30 = .ok (.istore_n 2, 1) := by decide +kernel
theorem dX4_decidedBits_31 : decode cX4_decidedBits 31 = .ok (.iinc 3 1, 3) := by decide +kernel
theorem dX4_decidedBits_34 : decode cX4_decidedBits 34 = .ok (.goto (-30), 3) := by decide +kernel
theorem dX4_decidedBits_37 : decode cX4_decidedBits 37 = .ok (.iload_n 2, 1) := by decide +kernel
theorem dX4_decidedBits_38 : decode cX4_decidedBits 38 = .ok (.ireturn, 1) := by decide +kernel
theorem dX5_init_0 : decode cX5_init 0 = .ok (.aload_n 0, 1) := by decide +kernel
theorem dX5_init_1 : decode cX5_init 1 = .ok (.invokespecial 3, 3) := by decide +kernel
theorem dX5_init_4 : decode cX5_init 4 = .ok (.aload_n 0, 1) := by decide +kernel
theorem dX5_init_5 : decode cX5_init 5 = .ok (.bipush 8, 2) := by decide +kernel
theorem dX5_init_7 : decode cX5_init 7 = .ok (.newarray .int, 2) := by decide +kernel
theorem dX5_init_9 : decode cX5_init 9 = .ok (.putfield 9, 3) := by decide +kernel
theorem dX5_init_12 : decode cX5_init 12 = .ok (.aload_n 0, 1) := by decide +kernel
theorem dX5_init_13 : decode cX5_init 13 = .ok (.bipush 13, 2) := by decide +kernel
theorem dX5_init_15 : decode cX5_init 15 = .ok (.newarray .long, 2) := by decide +kernel
theorem dX5_init_17 : decode cX5_init 17 = .ok (.putfield 15, 3) := by decide +kernel
theorem dX5_init_20 : decode cX5_init 20 = .ok (.aload_n 0, 1) := by decide +kernel
theorem dX5_init_21 : decode cX5_init 21 = .ok (.bipush 13, 2) := by decide +kernel
theorem dX5_init_23 : decode cX5_init 23 = .ok (.newarray .long, 2) := by decide +kernel
theorem dX5_init_25 : decode cX5_init 25 = .ok (.putfield 19, 3) := by decide +kernel
theorem dX5_init_28 : decode cX5_init 28 = .ok (.aload_n 0, 1) := by decide +kernel
theorem dX5_init_29 : decode cX5_init 29 = .ok (.bipush 13, 2) := by decide +kernel
theorem dX5_init_31 : decode cX5_init 31 = .ok (.bipush 9, 2) := by decide +kernel
theorem dX5_init_33 : decode cX5_init 33 = .ok (.multianewarray 22 2, 4) := by decide +kernel
theorem dX5_init_37 : decode cX5_init 37 = .ok (.putfield 24, 3) := by decide +kernel
theorem dX5_init_40 : decode cX5_init 40 = .ok (.aload_n 0, 1) := by decide +kernel
theorem dX5_init_41 : decode cX5_init 41 = .ok (.aload_n 1, 1) := by decide +kernel
theorem dX5_init_42 : decode cX5_init 42 = .ok (.putfield 27, 3) := by decide +kernel
theorem dX5_init_45 : decode cX5_init 45 = .ok (.aload_n 0, 1) := by decide +kernel
theorem dX5_init_46 : decode cX5_init 46 = .ok (.aload_n 2, 1) := by decide +kernel
theorem dX5_init_47 : decode cX5_init 47 = .ok (.putfield 31, 3) := by decide +kernel
theorem dX5_init_50 : decode cX5_init 50 = .ok (.return_, 1) := by decide +kernel
set_option maxRecDepth 20000 in
theorem ggX5_reach_X5_begin : GoodIn wsX5_reach wsX5_begin := goodIn_r _ [9, 1, 10, 11, 12, 13, 14, 15, 16, 3, 4, 17, 18, 19, 20, 21, 22, 23, 24, 25, 26, 27, 28, 29, 30, 31, 32, 33, 34, 35, 36, 37, 38, 39, 40, 41, 42, 43, 44, 45, 46, 47, 48, 49, 50, 51, 52, 53, 219, 220, 221, 222, 223, 224, 225, 226, 227, 228, 229, 230, 231, 232, 233, 234] (by decide +kernel) (by decide +kernel)
set_option maxRecDepth 20000 in
theorem gX5_reach_X5_begin : GoodIn wsX5_reach (wsV RX5 43 RX5 yX5_begin wsX5_begin) := goodIn_app (goodIn_of _ (by decide +kernel)) ggX5_reach_X5_begin
set_option maxRecDepth 20000 in
theorem ggX5_reach_X5_spreadAll : GoodIn wsX5_reach wsX5_spreadAll := goodIn_r _ [57, 13, 1, 58, 59, 60, 25, 26, 27, 12, 28, 24, 29, 30, 31, 32, 33, 61, 62, 63, 8, 64, 65, 66, 67, 15, 68, 69, 70, 71, 72, 73, 74, 75, 76, 77, 78, 79, 80, 81, 82, 83, 84, 85, 86, 87, 88, 89, 90, 91, 92, 93, 94, 95, 96, 97, 98, 99, 100, 101, 102, 103, 104, 105, 106, 107, 108, 23, 50, 51, 52, 53, 109, 110, 111, 112, 16, 34, 35, 36, 37, 38, 39, 40, 41, 42, 43, 44, 45, 113, 114, 115, 116, 117, 118, 119, 120, 46, 47, 48, 49, 121, 122, 123, 124, 125, 126, 127, 128, 129, 130, 131, 132, 133, 134, 135, 136, 137, 138, 139, 140, 141, 142, 143, 144, 145, 146, 147, 148, 149, 150, 151, 152, 153, 154, 155, 156, 157, 158, 159, 160, 161, 162, 163, 164, 165, 166, 167, 168, 169, 170, 171, 172, 173, 174, 175, 176, 177, 178, 179, 180, 181, 182, 183, 184, 185, 186, 187, 188, 219, 220, 221, 222, 223, 224, 225, 226, 227, 228, 229, 230, 231, 232, 233, 234, 235, 236, 237, 238, 239, 240, 241, 242, 243, 244, 245, 246, 247, 248, 249, 250, 251, 252] (by decide +kernel) (by decide +kernel)
set_option maxRecDepth 20000 in
theorem gX5_reach_X5_spreadAll : GoodIn wsX5_reach (wsV RX5 54 RX5 yX5_spreadAll wsX5_spreadAll) := goodIn_app (goodIn_of _ (by decide +kernel)) ggX5_reach_X5_spreadAll
set_option maxRecDepth 20000 in
theorem ggX5_reach_X5_turn : GoodIn wsX5_reach wsX5_turn := goodIn_r _ [192, 1, 13, 15, 16, 219, 220, 221, 222, 223, 224, 225, 226, 227, 228, 229, 230, 231] (by decide +kernel) (by decide +kernel)
set_option maxRecDepth 20000 in
theorem gX5_reach_X5_turn : GoodIn wsX5_reach (wsV RX5 58 RX5 yX5_turn wsX5_turn) := goodIn_app (goodIn_of _ (by decide +kernel)) ggX5_reach_X5_turn
set_option maxRecDepth 20000 in
theorem ggX5_reach_X5_tally : GoodIn wsX5_reach wsX5_tally := goodIn_r _ [196, 197, 198, 199, 1, 58, 65, 66, 15, 200, 201, 32, 202, 203, 204, 205, 76, 206, 207, 208, 209, 210, 83, 84, 81, 82, 89, 90, 87, 91, 92, 85, 86, 88, 211, 212, 213, 214, 215, 216, 217, 218, 121, 122, 123, 124, 125, 126, 127, 219, 220, 221, 222, 223, 224, 225, 226, 227, 228, 229, 230, 231, 232, 233, 234, 244, 245, 246, 247, 248, 235, 236, 237, 238, 239, 240, 241, 242, 243, 249, 250, 251, 252] (by decide +kernel) (by decide +kernel)
set_option maxRecDepth 20000 in
theorem gX5_reach_X5_tally : GoodIn wsX5_reach (wsV RX5 61 RX5 yX5_tally wsX5_tally) := goodIn_app (goodIn_of _ (by decide +kernel)) ggX5_reach_X5_tally
theorem dX5_reach_0 : decode cX5_reach 0 = .ok (.aload_n 0, 1) := by decide +kernel
theorem dX5_reach_1 : decode cX5_reach 1 = .ok (.getfield 35, 3) := by decide +kernel
theorem dX5_reach_4 : decode cX5_reach 4 = .ok (.ifnull 11, 3) := by decide +kernel
theorem dX5_reach_7 : decode cX5_reach 7 = .ok (.aload_n 0, 1) := by decide +kernel
theorem dX5_reach_8 : decode cX5_reach 8 = .ok (.getfield 39, 3) := by decide +kernel
theorem dX5_reach_11 : decode cX5_reach 11 = .ok (.iload_n 3, 1) := by decide +kernel
theorem dX5_reach_12 : decode cX5_reach 12 = .ok (.if_icmp .eq 13, 3) := by decide +kernel
theorem dX5_reach_15 : decode cX5_reach 15 = .ok (.aload_n 0, 1) := by decide +kernel
theorem dX5_reach_16 : decode cX5_reach 16 = .ok (.aload_n 2, 1) := by decide +kernel
theorem dX5_reach_17 : decode cX5_reach 17 = .ok (.invokevirtual 43, 3) := by decide +kernel
theorem dX5_reach_20 : decode cX5_reach 20 = .ok (.aload_n 0, 1) := by decide +kernel
theorem dX5_reach_21 : decode cX5_reach 21 = .ok (.iload_n 3, 1) := by decide +kernel
theorem dX5_reach_22 : decode cX5_reach 22 = .ok (.putfield 39, 3) := by decide +kernel
theorem dX5_reach_25 : decode cX5_reach 25 = .ok (.aload_n 0, 1) := by decide +kernel
theorem dX5_reach_26 : decode cX5_reach 26 = .ok (.getfield 47, 3) := by decide +kernel
theorem dX5_reach_29 : decode cX5_reach 29 = .ok (.iconst 1, 1) := by decide +kernel
theorem dX5_reach_30 : decode cX5_reach 30 = .ok (.iadd, 1) := by decide +kernel
theorem dX5_reach_31 : decode cX5_reach 31 = .ok (.istore 4, 2) := by decide +kernel
theorem dX5_reach_33 : decode cX5_reach 33 = .ok (.iload 4, 2) := by decide +kernel
theorem dX5_reach_35 : decode cX5_reach 35 = .ok (.iload_n 1, 1) := by decide +kernel
theorem dX5_reach_36 : decode cX5_reach 36 = .ok (.if_icmp .gt 55, 3) := by decide +kernel
theorem dX5_reach_39 : decode cX5_reach 39 = .ok (.aload_n 0, 1) := by decide +kernel
theorem dX5_reach_40 : decode cX5_reach 40 = .ok (.getfield 50, 3) := by decide +kernel
theorem dX5_reach_43 : decode cX5_reach 43 = .ok (.ifCond .ne 48, 3) := by decide +kernel
theorem dX5_reach_46 : decode cX5_reach 46 = .ok (.aload_n 0, 1) := by decide +kernel
theorem dX5_reach_47 : decode cX5_reach 47 = .ok (.aload_n 0, 1) := by decide +kernel
theorem dX5_reach_48 : decode cX5_reach 48 = .ok (.invokevirtual 54, 3) := by decide +kernel
theorem dX5_reach_51 : decode cX5_reach 51 = .ok (.ifCond .ne 7, 3) := by decide +kernel
theorem dX5_reach_54 : decode cX5_reach 54 = .ok (.iconst 1, 1) := by decide +kernel
theorem dX5_reach_55 : decode cX5_reach 55 = .ok (.goto 4, 3) := by decide +kernel
theorem dX5_reach_58 : decode cX5_reach 58 = .ok (.iconst 0, 1) := by decide +kernel
theorem dX5_reach_59 : decode cX5_reach 59 = .ok (.putfield 50, 3) := by decide +kernel
theorem dX5_reach_62 : decode cX5_reach 62 = .ok (.aload_n 0, 1) := by decide +kernel
theorem dX5_reach_63 : decode cX5_reach 63 = .ok (.getfield 50, 3) := by decide +kernel
theorem dX5_reach_66 : decode cX5_reach 66 = .ok (.ifCond .ne 19, 3) := by decide +kernel
theorem dX5_reach_69 : decode cX5_reach 69 = .ok (.aload_n 0, 1) := by decide +kernel
theorem dX5_reach_70 : decode cX5_reach 70 = .ok (.invokevirtual 58, 3) := by decide +kernel
theorem dX5_reach_73 : decode cX5_reach 73 = .ok (.aload_n 0, 1) := by decide +kernel
theorem dX5_reach_74 : decode cX5_reach 74 = .ok (.iload 4, 2) := by decide +kernel
theorem dX5_reach_76 : decode cX5_reach 76 = .ok (.invokevirtual 61, 3) := by decide +kernel
theorem dX5_reach_79 : decode cX5_reach 79 = .ok (.aload_n 0, 1) := by decide +kernel
theorem dX5_reach_80 : decode cX5_reach 80 = .ok (.iload 4, 2) := by decide +kernel
theorem dX5_reach_82 : decode cX5_reach 82 = .ok (.putfield 47, 3) := by decide +kernel
theorem dX5_reach_85 : decode cX5_reach 85 = .ok (.iinc 4 1, 3) := by decide +kernel
theorem dX5_reach_88 : decode cX5_reach 88 = .ok (.goto (-55), 3) := by decide +kernel
theorem dX5_reach_91 : decode cX5_reach 91 = .ok (.aload_n 0, 1) := by decide +kernel
theorem dX5_reach_92 : decode cX5_reach 92 = .ok (.getfield 47, 3) := by decide +kernel
theorem dX5_reach_95 : decode cX5_reach 95 = .ok (.iload_n 1, 1) := by decide +kernel
theorem dX5_reach_96 : decode cX5_reach 96 = .ok (.if_icmp .lt 7, 3) := by decide +kernel
theorem dX5_reach_99 : decode cX5_reach 99 = .ok (.iconst 1, 1) := by decide +kernel
theorem dX5_reach_100 : decode cX5_reach 100 = .ok (.goto 4, 3) := by decide +kernel
theorem dX5_reach_103 : decode cX5_reach 103 = .ok (.iconst 0, 1) := by decide +kernel
theorem dX5_reach_104 : decode cX5_reach 104 = .ok (.ireturn, 1) := by decide +kernel
set_option maxRecDepth 20000 in
theorem ggX5_begin_X9_init : GoodIn wsX5_begin wsX9_init := goodIn_r _ [12, 13, 14, 15, 16, 17, 18, 61, 62, 63] (by decide +kernel) (by decide +kernel)
set_option maxRecDepth 20000 in
theorem gX5_begin_X9_init_n67 : GoodIn wsX5_begin (wsX9_init) := ggX5_begin_X9_init
set_option maxRecDepth 20000 in
theorem ggX5_begin_X9_clear : GoodIn wsX5_begin wsX9_clear := goodIn_r _ [22, 18, 23, 24, 25, 26, 27, 61, 62, 63] (by decide +kernel) (by decide +kernel)
set_option maxRecDepth 20000 in
theorem gX5_begin_X9_clear : GoodIn wsX5_begin (wsV RX5 77 RX9 yX9_clear wsX9_clear) := goodIn_app (goodIn_of _ (by decide +kernel)) ggX5_begin_X9_clear
set_option maxRecDepth 20000 in
theorem ggX5_begin_X9_slotOf : GoodIn wsX5_begin wsX9_slotOf := goodIn_r _ [31, 18, 32, 33, 4, 34, 35, 36, 37, 38, 39, 17, 61, 62, 63] (by decide +kernel) (by decide +kernel)
set_option maxRecDepth 20000 in
theorem gX5_begin_X9_slotOf : GoodIn wsX5_begin (wsV RX5 80 RX9 yX9_slotOf wsX9_slotOf) := goodIn_app (goodIn_of _ (by decide +kernel)) ggX5_begin_X9_slotOf
set_option maxRecDepth 20000 in
theorem ggX5_begin_X9_add : GoodIn wsX5_begin wsX9_add := goodIn_r _ [43, 23, 17, 44, 45, 46, 47, 18, 61, 62, 63] (by decide +kernel) (by decide +kernel)
set_option maxRecDepth 20000 in
theorem gX5_begin_X9_add : GoodIn wsX5_begin (wsV RX5 84 RX9 yX9_add wsX9_add) := goodIn_app (goodIn_of _ (by decide +kernel)) ggX5_begin_X9_add
theorem dX5_begin_0 : decode cX5_begin 0 = .ok (.aload_n 0, 1) := by decide +kernel
theorem dX5_begin_1 : decode cX5_begin 1 = .ok (.getfield 35, 3) := by decide +kernel
theorem dX5_begin_4 : decode cX5_begin 4 = .ok (.ifnonnull 43, 3) := by decide +kernel
theorem dX5_begin_7 : decode cX5_begin 7 = .ok (.aload_n 0, 1) := by decide +kernel
theorem dX5_begin_8 : decode cX5_begin 8 = .ok (.new 65, 3) := by decide +kernel
theorem dX5_begin_11 : decode cX5_begin 11 = .ok (.dup, 1) := by decide +kernel
theorem dX5_begin_12 : decode cX5_begin 12 = .ok (.invokespecial 67, 3) := by decide +kernel
theorem dX5_begin_15 : decode cX5_begin 15 = .ok (.putfield 35, 3) := by decide +kernel
theorem dX5_begin_18 : decode cX5_begin 18 = .ok (.aload_n 0, 1) := by decide +kernel
theorem dX5_begin_19 : decode cX5_begin 19 = .ok (.new 65, 3) := by decide +kernel
theorem dX5_begin_22 : decode cX5_begin 22 = .ok (.dup, 1) := by decide +kernel
theorem dX5_begin_23 : decode cX5_begin 23 = .ok (.invokespecial 67, 3) := by decide +kernel
theorem dX5_begin_26 : decode cX5_begin 26 = .ok (.putfield 68, 3) := by decide +kernel
theorem dX5_begin_29 : decode cX5_begin 29 = .ok (.aload_n 0, 1) := by decide +kernel
theorem dX5_begin_30 : decode cX5_begin 30 = .ok (.sipush 2000, 3) := by decide +kernel
theorem dX5_begin_33 : decode cX5_begin 33 = .ok (.newarray .long, 2) := by decide +kernel
theorem dX5_begin_35 : decode cX5_begin 35 = .ok (.putfield 71, 3) := by decide +kernel
theorem dX5_begin_38 : decode cX5_begin 38 = .ok (.aload_n 0, 1) := by decide +kernel
theorem dX5_begin_39 : decode cX5_begin 39 = .ok (.sipush 2000, 3) := by decide +kernel
theorem dX5_begin_42 : decode cX5_begin 42 = .ok (.newarray .long, 2) := by decide +kernel
theorem dX5_begin_44 : decode cX5_begin 44 = .ok (.putfield 74, 3) := by decide +kernel
theorem dX5_begin_47 : decode cX5_begin 47 = .ok (.aload_n 0, 1) := by decide +kernel
theorem dX5_begin_48 : decode cX5_begin 48 = .ok (.getfield 35, 3) := by decide +kernel
theorem dX5_begin_51 : decode cX5_begin 51 = .ok (.invokevirtual 77, 3) := by decide +kernel
theorem dX5_begin_54 : decode cX5_begin 54 = .ok (.aload_n 0, 1) := by decide +kernel
theorem dX5_begin_55 : decode cX5_begin 55 = .ok (.getfield 35, 3) := by decide +kernel
theorem dX5_begin_58 : decode cX5_begin 58 = .ok (.aload_n 0, 1) := by decide +kernel
theorem dX5_begin_59 : decode cX5_begin 59 = .ok (.getfield 35, 3) := by decide +kernel
theorem dX5_begin_62 : decode cX5_begin 62 = .ok (.aload_n 1, 1) := by decide +kernel
theorem dX5_begin_63 : decode cX5_begin 63 = .ok (.invokevirtual 80, 3) := by decide +kernel
theorem dX5_begin_66 : decode cX5_begin 66 = .ok (.aload_n 1, 1) := by decide +kernel
theorem dX5_begin_67 : decode cX5_begin 67 = .ok (.invokevirtual 84, 3) := by decide +kernel
theorem dX5_begin_70 : decode cX5_begin 70 = .ok (.pop, 1) := by decide +kernel
theorem dX5_begin_71 : decode cX5_begin 71 = .ok (.aload_n 0, 1) := by decide +kernel
theorem dX5_begin_72 : decode cX5_begin 72 = .ok (.getfield 71, 3) := by decide +kernel
theorem dX5_begin_75 : decode cX5_begin 75 = .ok (.iconst 0, 1) := by decide +kernel
theorem dX5_begin_76 : decode cX5_begin 76 = .ok (.lconst 1, 1) := by decide +kernel
theorem dX5_begin_77 : decode cX5_begin 77 = .ok (.lastore, 1) := by decide +kernel
theorem dX5_begin_78 : decode cX5_begin 78 = .ok (.aload_n 0, 1) := by decide +kernel
theorem dX5_begin_79 : decode cX5_begin 79 = .ok (.iconst 0, 1) := by decide +kernel
theorem dX5_begin_80 : decode cX5_begin 80 = .ok (.putfield 47, 3) := by decide +kernel
theorem dX5_begin_83 : decode cX5_begin 83 = .ok (.aload_n 0, 1) := by decide +kernel
theorem dX5_begin_84 : decode cX5_begin 84 = .ok (.iconst 0, 1) := by decide +kernel
theorem dX5_begin_85 : decode cX5_begin 85 = .ok (.putfield 50, 3) := by decide +kernel
theorem dX5_begin_88 : decode cX5_begin 88 = .ok (.return_, 1) := by decide +kernel
theorem dX5_turn_0 : decode cX5_turn 0 = .ok (.aload_n 0, 1) := by decide +kernel
theorem dX5_turn_1 : decode cX5_turn 1 = .ok (.getfield 35, 3) := by decide +kernel
theorem dX5_turn_4 : decode cX5_turn 4 = .ok (.astore_n 1, 1) := by decide +kernel
theorem dX5_turn_5 : decode cX5_turn 5 = .ok (.aload_n 0, 1) := by decide +kernel
theorem dX5_turn_6 : decode cX5_turn 6 = .ok (.aload_n 0, 1) := by decide +kernel
theorem dX5_turn_7 : decode cX5_turn 7 = .ok (.getfield 68, 3) := by decide +kernel
theorem dX5_turn_10 : decode cX5_turn 10 = .ok (.putfield 35, 3) := by decide +kernel
theorem dX5_turn_13 : decode cX5_turn 13 = .ok (.aload_n 0, 1) := by decide +kernel
theorem dX5_turn_14 : decode cX5_turn 14 = .ok (.aload_n 1, 1) := by decide +kernel
theorem dX5_turn_15 : decode cX5_turn 15 = .ok (.putfield 68, 3) := by decide +kernel
theorem dX5_turn_18 : decode cX5_turn 18 = .ok (.aload_n 0, 1) := by decide +kernel
theorem dX5_turn_19 : decode cX5_turn 19 = .ok (.getfield 71, 3) := by decide +kernel
theorem dX5_turn_22 : decode cX5_turn 22 = .ok (.astore_n 2, 1) := by decide +kernel
theorem dX5_turn_23 : decode cX5_turn 23 = .ok (.aload_n 0, 1) := by decide +kernel
theorem dX5_turn_24 : decode cX5_turn 24 = .ok (.aload_n 0, 1) := by decide +kernel
theorem dX5_turn_25 : decode cX5_turn 25 = .ok (.getfield 74, 3) := by decide +kernel
theorem dX5_turn_28 : decode cX5_turn 28 = .ok (.putfield 71, 3) := by decide +kernel
theorem dX5_turn_31 : decode cX5_turn 31 = .ok (.aload_n 0, 1) := by decide +kernel
theorem dX5_turn_32 : decode cX5_turn 32 = .ok (.aload_n 2, 1) := by decide +kernel
theorem dX5_turn_33 : decode cX5_turn 33 = .ok (.putfield 74, 3) := by decide +kernel
theorem dX5_turn_36 : decode cX5_turn 36 = .ok (.return_, 1) := by decide +kernel
set_option maxRecDepth 20000 in
theorem ggX5_spreadAll_X9_clear : GoodIn wsX5_spreadAll wsX9_clear := goodIn_r _ [10, 11, 12, 13, 14, 15, 16, 182, 183, 184] (by decide +kernel) (by decide +kernel)
set_option maxRecDepth 20000 in
theorem gX5_spreadAll_X9_clear : GoodIn wsX5_spreadAll (wsV RX5 77 RX9 yX9_clear wsX9_clear) := goodIn_app (goodIn_of _ (by decide +kernel)) ggX5_spreadAll_X9_clear
set_option maxRecDepth 20000 in
theorem ggX5_spreadAll_X5_spread : GoodIn wsX5_spreadAll wsX5_spread := goodIn_r _ [21, 22, 2, 23, 24, 25, 4, 26, 27, 28, 29, 30, 31, 32, 33, 34, 35, 36, 37, 38, 39, 40, 41, 42, 43, 44, 45, 46, 47, 48, 49, 50, 51, 52, 53, 54, 55, 56, 57, 58, 59, 60, 61, 62, 63, 64, 65, 9, 66, 67, 68, 69, 70, 71, 72, 73, 74, 20, 75, 1, 76, 77, 78, 79, 80, 11, 81, 82, 83, 84, 85, 86, 87, 88, 89, 90, 91, 92, 93, 94, 95, 96, 12, 97, 98, 99, 100, 101, 102, 103, 104, 105, 106, 107, 108, 109, 110, 111, 112, 113, 114, 115, 116, 117, 118, 119, 120, 121, 122, 123, 124, 125, 126, 127, 128, 129, 130, 131, 132, 133, 134, 135, 136, 137, 138, 139, 140, 141, 142, 143, 144, 145, 146, 147, 148, 149, 150, 151, 152, 153, 154, 155, 156, 157, 158, 159, 160, 161, 162, 163, 164, 165, 166, 167, 168, 169, 170, 171, 172, 173, 174, 175, 176, 177, 178, 179, 180, 181, 182, 183, 184, 185, 186, 187, 188, 189, 190, 191, 192, 193, 194, 195, 196, 197, 198, 199, 200, 201, 202] (by decide +kernel) (by decide +kernel)
set_option maxRecDepth 20000 in
theorem gX5_spreadAll_X5_spread : GoodIn wsX5_spreadAll (wsV RX5 96 RX5 yX5_spread wsX5_spread) := goodIn_app (goodIn_of _ (by decide +kernel)) ggX5_spreadAll_X5_spread
theorem dX5_spreadAll_0 : decode cX5_spreadAll 0 = .ok (.aload_n 0, 1) := by decide +kernel
theorem dX5_spreadAll_1 : decode cX5_spreadAll 1 = .ok (.getfield 68, 3) := by decide +kernel
theorem dX5_spreadAll_4 : decode cX5_spreadAll 4 = .ok (.invokevirtual 77, 3) := by decide +kernel
theorem dX5_spreadAll_7 : decode cX5_spreadAll 7 = .ok (.iconst 0, 1) := by decide +kernel
theorem dX5_spreadAll_8 : decode cX5_spreadAll 8 = .ok (.istore_n 1, 1) := by decide +kernel
theorem dX5_spreadAll_9 : decode cX5_spreadAll 9 = .ok (.iload_n 1, 1) := by decide +kernel
theorem dX5_spreadAll_10 : decode cX5_spreadAll 10 = .ok (.aload_n 0, 1) := by decide +kernel
theorem dX5_spreadAll_11 : decode cX5_spreadAll 11 = .ok (.getfield 35, 3) := by decide +kernel
theorem dX5_spreadAll_14 : decode cX5_spreadAll 14 = .ok (.getfield 88, 3) := by decide +kernel
theorem dX5_spreadAll_17 : decode cX5_spreadAll 17 = .ok (.if_icmp .ge 39, 3) := by decide +kernel
theorem dX5_spreadAll_20 : decode cX5_spreadAll 20 = .ok (.iconst 0, 1) := by decide +kernel
theorem dX5_spreadAll_21 : decode cX5_spreadAll 21 = .ok (.istore_n 2, 1) := by decide +kernel
theorem dX5_spreadAll_22 : decode cX5_spreadAll 22 = .ok (.iload_n 2, 1) := by decide +kernel
theorem dX5_spreadAll_23 : decode cX5_spreadAll 23 = .ok (.aload_n 0, 1) := by decide +kernel
theorem dX5_spreadAll_24 : decode cX5_spreadAll 24 = .ok (.getfield 27, 3) := by decide +kernel
theorem dX5_spreadAll_27 : decode cX5_spreadAll 27 = .ok (.getfield 91, 3) := by decide +kernel
theorem dX5_spreadAll_30 : decode cX5_spreadAll 30 = .ok (.if_icmp .ge 20, 3) := by decide +kernel
theorem dX5_spreadAll_33 : decode cX5_spreadAll 33 = .ok (.aload_n 0, 1) := by decide +kernel
theorem dX5_spreadAll_34 : decode cX5_spreadAll 34 = .ok (.iload_n 1, 1) := by decide +kernel
theorem dX5_spreadAll_35 : decode cX5_spreadAll 35 = .ok (.iload_n 2, 1) := by decide +kernel
theorem dX5_spreadAll_36 : decode cX5_spreadAll 36 = .ok (.invokevirtual 96, 3) := by decide +kernel
theorem dX5_spreadAll_39 : decode cX5_spreadAll 39 = .ok (.ifCond .ne 5, 3) := by decide +kernel
theorem dX5_spreadAll_42 : decode cX5_spreadAll 42 = .ok (.iconst 0, 1) := by decide +kernel
theorem dX5_spreadAll_43 : decode cX5_spreadAll 43 = .ok (.ireturn, 1) := by decide +kernel
theorem dX5_spreadAll_44 : decode cX5_spreadAll 44 = .ok (.iinc 2 1, 3) := by decide +kernel
theorem dX5_spreadAll_47 : decode cX5_spreadAll 47 = .ok (.goto (-25), 3) := by decide +kernel
theorem dX5_spreadAll_50 : decode cX5_spreadAll 50 = .ok (.iinc 1 1, 3) := by decide +kernel
theorem dX5_spreadAll_53 : decode cX5_spreadAll 53 = .ok (.goto (-44), 3) := by decide +kernel
theorem dX5_spreadAll_56 : decode cX5_spreadAll 56 = .ok (.iconst 1, 1) := by decide +kernel
theorem dX5_spreadAll_57 : decode cX5_spreadAll 57 = .ok (.ireturn, 1) := by decide +kernel
set_option maxRecDepth 20000 in
theorem ggX5_spread_X0_listen : GoodIn wsX5_spread wsX0_listen := goodIn_r _ [16, 17, 18, 19, 20, 21, 22, 23, 24, 25, 26, 27, 28, 29, 30, 31, 32, 33, 34, 35, 36, 37, 38, 39, 15, 40, 41, 42, 43, 180, 181, 182, 183, 184, 185, 186, 187, 188, 171, 172, 173, 174, 175, 176, 177, 178, 179] (by decide +kernel) (by decide +kernel)
set_option maxRecDepth 20000 in
theorem gX5_spread_X0_listen : GoodIn wsX5_spread (wsV RX5 103 RX0 yX0_listen wsX0_listen) := goodIn_app (goodIn_of _ (by decide +kernel)) ggX5_spread_X0_listen
set_option maxRecDepth 20000 in
theorem ggX5_spread_X9_copyTo : GoodIn wsX5_spread wsX9_copyTo := goodIn_r _ [48, 49, 50, 51, 52, 53, 168, 169, 170] (by decide +kernel) (by decide +kernel)
set_option maxRecDepth 20000 in
theorem gX5_spread_X9_copyTo : GoodIn wsX5_spread (wsV RX5 109 RX9 yX9_copyTo wsX9_copyTo) := goodIn_app (goodIn_of _ (by decide +kernel)) ggX5_spread_X9_copyTo
set_option maxRecDepth 20000 in
theorem ggX5_spread_X5_pass : GoodIn wsX5_spread wsX5_pass := goodIn_r _ [58, 59, 4, 60, 61, 62, 63, 47, 64, 65, 66, 67, 68, 69, 70, 71, 72, 73, 49, 74, 75, 76, 77, 78, 79, 80, 81, 82, 83, 84, 85, 86, 50, 51, 52, 53, 155, 156, 157, 158, 159, 160, 161, 162, 163, 164, 165, 166, 167, 168, 169, 170] (by decide +kernel) (by decide +kernel)
set_option maxRecDepth 20000 in
theorem gX5_spread_X5_pass : GoodIn wsX5_spread (wsV RX5 116 RX5 yX5_pass wsX5_pass) := goodIn_app (goodIn_of _ (by decide +kernel)) ggX5_spread_X5_pass
set_option maxRecDepth 20000 in
theorem ggX5_spread_J6_bitCount_0f7a4 : GoodIn wsX5_spread wsJ6_bitCount_0f7a4 := goodIn_r _ [90, 91, 92, 93] (by decide +kernel) (by decide +kernel)
set_option maxRecDepth 20000 in
theorem gX5_spread_J6_bitCount_0f7a4 : GoodIn wsX5_spread (va_wsS RX5 126 yJ6_bitCount_0f7a4 wsJ6_bitCount_0f7a4) := goodIn_app (goodIn_of _ (by decide +kernel)) ggX5_spread_J6_bitCount_0f7a4
set_option maxRecDepth 20000 in
theorem ggX5_spread_X7_carriedBy : GoodIn wsX5_spread wsX7_carriedBy := goodIn_r _ [98, 99, 100, 171, 172, 173, 174, 175, 176, 177, 178, 179] (by decide +kernel) (by decide +kernel)
set_option maxRecDepth 20000 in
theorem gX5_spread_X7_carriedBy : GoodIn wsX5_spread (wsV RX5 132 RX7 yX7_carriedBy wsX7_carriedBy) := goodIn_app (goodIn_of _ (by decide +kernel)) ggX5_spread_X7_carriedBy
set_option maxRecDepth 20000 in
theorem ggX5_spread_X5_spreadOne : GoodIn wsX5_spread wsX5_spreadOne := goodIn_r _ [104, 2, 4, 1, 5, 44, 45, 46, 47, 48, 49, 50, 51, 52, 53, 105, 106, 107, 15, 108, 19, 22, 109, 110, 24, 25, 26, 27, 111, 112, 113, 114, 23, 115, 116, 117, 118, 119, 120, 121, 122, 123, 124, 125, 126, 127, 128, 129, 130, 131, 132, 133, 134, 135, 136, 137, 138, 139, 140, 141, 142, 143, 144, 145, 146, 147, 148, 31, 54, 55, 56, 57, 58, 59, 60, 61, 62, 63, 64, 65, 66, 67, 68, 69, 70, 71, 72, 73, 74, 75, 76, 77, 78, 79, 80, 81, 82, 83, 84, 85, 86, 155, 156, 157, 158, 159, 160, 161, 162, 163, 164, 165, 166, 167, 168, 169, 170, 180, 181, 182, 183, 184, 171, 172, 173, 174, 175, 176, 177, 178, 179] (by decide +kernel) (by decide +kernel)
set_option maxRecDepth 20000 in
theorem gX5_spread_X5_spreadOne : GoodIn wsX5_spread (wsV RX5 137 RX5 yX5_spreadOne wsX5_spreadOne) := goodIn_app (goodIn_of _ (by decide +kernel)) ggX5_spread_X5_spreadOne
set_option maxRecDepth 20000 in
theorem ggX5_spread_X0_winner : GoodIn wsX5_spread wsX0_winner := goodIn_r _ [152, 18, 22, 153, 17, 154, 88, 89, 90, 91, 92, 93, 180, 181, 182, 183, 184, 171, 172, 173, 174, 175, 176, 177, 178, 179] (by decide +kernel) (by decide +kernel)
set_option maxRecDepth 20000 in
theorem gX5_spread_X0_winner : GoodIn wsX5_spread (wsV RX5 145 RX0 yX0_winner wsX0_winner) := goodIn_app (goodIn_of _ (by decide +kernel)) ggX5_spread_X0_winner
theorem dX5_spread_0 : decode cX5_spread 0 = .ok (.aload_n 0, 1) := by decide +kernel
theorem dX5_spread_1 : decode cX5_spread 1 = .ok (.getfield 31, 3) := by decide +kernel
theorem dX5_spread_4 : decode cX5_spread 4 = .ok (.aload_n 0, 1) := by decide +kernel
theorem dX5_spread_5 : decode cX5_spread 5 = .ok (.getfield 35, 3) := by decide +kernel
theorem dX5_spread_8 : decode cX5_spread 8 = .ok (.getfield 100, 3) := by decide +kernel
theorem dX5_spread_11 : decode cX5_spread 11 = .ok (.iload_n 1, 1) := by decide +kernel
theorem dX5_spread_12 : decode cX5_spread 12 = .ok (.bipush 8, 2) := by decide +kernel
theorem dX5_spread_14 : decode cX5_spread 14 = .ok (.imul, 1) := by decide +kernel
theorem dX5_spread_15 : decode cX5_spread 15 = .ok (.iload_n 2, 1) := by decide +kernel
theorem dX5_spread_16 : decode cX5_spread 16 = .ok (.invokevirtual 103, 3) := by decide +kernel
theorem dX5_spread_19 : decode cX5_spread 19 = .ok (.ifCond .ne 35, 3) := by decide +kernel
theorem dX5_spread_22 : decode cX5_spread 22 = .ok (.aload_n 0, 1) := by decide +kernel
theorem dX5_spread_23 : decode cX5_spread 23 = .ok (.getfield 35, 3) := by decide +kernel
theorem dX5_spread_26 : decode cX5_spread 26 = .ok (.aload_n 0, 1) := by decide +kernel
theorem dX5_spread_27 : decode cX5_spread 27 = .ok (.getfield 9, 3) := by decide +kernel
theorem dX5_spread_30 : decode cX5_spread 30 = .ok (.iload_n 1, 1) := by decide +kernel
theorem dX5_spread_31 : decode cX5_spread 31 = .ok (.invokevirtual 109, 3) := by decide +kernel
theorem dX5_spread_34 : decode cX5_spread 34 = .ok (.aload_n 0, 1) := by decide +kernel
theorem dX5_spread_35 : decode cX5_spread 35 = .ok (.aload_n 0, 1) := by decide +kernel
theorem dX5_spread_36 : decode cX5_spread 36 = .ok (.getfield 71, 3) := by decide +kernel
theorem dX5_spread_39 : decode cX5_spread 39 = .ok (.iload_n 1, 1) := by decide +kernel
theorem dX5_spread_40 : decode cX5_spread 40 = .ok (.laload, 1) := by decide +kernel
theorem dX5_spread_41 : decode cX5_spread 41 = .ok (.aload_n 0, 1) := by decide +kernel
theorem dX5_spread_42 : decode cX5_spread 42 = .ok (.getfield 27, 3) := by decide +kernel
theorem dX5_spread_45 : decode cX5_spread 45 = .ok (.getfield 113, 3) := by decide +kernel
theorem dX5_spread_48 : decode cX5_spread 48 = .ok (.i2l, 1) := by decide +kernel
theorem dX5_spread_49 : decode cX5_spread 49 = .ok (.lmul, 1) := by decide +kernel
theorem dX5_spread_50 : decode cX5_spread 50 = .ok (.invokevirtual 116, 3) := by decide +kernel
theorem dX5_spread_53 : decode cX5_spread 53 = .ok (.ireturn, 1) := by decide +kernel
theorem dX5_spread_54 : decode cX5_spread 54 = .ok (.aload_n 0, 1) := by decide +kernel
theorem dX5_spread_55 : decode cX5_spread 55 = .ok (.getfield 31, 3) := by decide +kernel
theorem dX5_spread_58 : decode cX5_spread 58 = .ok (.getfield 120, 3) := by decide +kernel
theorem dX5_spread_61 : decode cX5_spread 61 = .ok (.ifCond .ne 94, 3) := by decide +kernel
theorem dX5_spread_64 : decode cX5_spread 64 = .ok (.aload_n 0, 1) := by decide +kernel
theorem dX5_spread_65 : decode cX5_spread 65 = .ok (.getfield 27, 3) := by decide +kernel
theorem dX5_spread_68 : decode cX5_spread 68 = .ok (.aload_n 0, 1) := by decide +kernel
theorem dX5_spread_69 : decode cX5_spread 69 = .ok (.getfield 31, 3) := by decide +kernel
theorem dX5_spread_72 : decode cX5_spread 72 = .ok (.getfield 123, 3) := by decide +kernel
theorem dX5_spread_75 : decode cX5_spread 75 = .ok (.invokestatic 126, 3) := by decide +kernel
theorem dX5_spread_78 : decode cX5_spread 78 = .ok (.invokevirtual 132, 3) := by decide +kernel
theorem dX5_spread_81 : decode cX5_spread 81 = .ok (.istore_n 3, 1) := by decide +kernel
theorem dX5_spread_82 : decode cX5_spread 82 = .ok (.aload_n 0, 1) := by decide +kernel
theorem dX5_spread_83 : decode cX5_spread 83 = .ok (.getfield 27, 3) := by decide +kernel
theorem dX5_spread_86 : decode cX5_spread 86 = .ok (.aload_n 0, 1) := by decide +kernel
theorem dX5_spread_87 : decode cX5_spread 87 = .ok (.getfield 31, 3) := by decide +kernel
theorem dX5_spread_90 : decode cX5_spread 90 = .ok (.getfield 135, 3) := by decide +kernel
theorem dX5_spread_93 : decode cX5_spread 93 = .ok (.invokestatic 126, 3) := by decide +kernel
theorem dX5_spread_96 : decode cX5_spread 96 = .ok (.invokevirtual 132, 3) := by decide +kernel
theorem dX5_spread_99 : decode cX5_spread 99 = .ok (.istore 4, 2) := by decide +kernel
theorem dX5_spread_101 : decode cX5_spread 101 = .ok (.aload_n 0, 1) := by decide +kernel
theorem dX5_spread_102 : decode cX5_spread 102 = .ok (.iload_n 1, 1) := by decide +kernel
theorem dX5_spread_103 : decode cX5_spread 103 = .ok (.iload_n 2, 1) := by decide +kernel
theorem dX5_spread_104 : decode cX5_spread 104 = .ok (.iconst 0, 1) := by decide +kernel
theorem dX5_spread_105 : decode cX5_spread 105 = .ok (.iconst 0, 1) := by decide +kernel
theorem dX5_spread_106 : decode cX5_spread 106 = .ok (.iload_n 3, 1) := by decide +kernel
theorem dX5_spread_107 : decode cX5_spread 107 = .ok (.invokevirtual 137, 3) := by decide +kernel
theorem dX5_spread_110 : decode cX5_spread 110 = .ok (.ifCond .eq 43, 3) := by decide +kernel
theorem dX5_spread_113 : decode cX5_spread 113 = .ok (.aload_n 0, 1) := by decide +kernel
theorem dX5_spread_114 : decode cX5_spread 114 = .ok (.iload_n 1, 1) := by decide +kernel
theorem dX5_spread_115 : decode cX5_spread 115 = .ok (.iload_n 2, 1) := by decide +kernel
theorem dX5_spread_116 : decode cX5_spread 116 = .ok (.iconst 1, 1) := by decide +kernel
theorem dX5_spread_117 : decode cX5_spread 117 = .ok (.iconst 0, 1) := by decide +kernel
theorem dX5_spread_118 : decode cX5_spread 118 = .ok (.iload 4, 2) := by decide +kernel
theorem dX5_spread_120 : decode cX5_spread 120 = .ok (.invokevirtual 137, 3) := by decide +kernel
theorem dX5_spread_123 : decode cX5_spread 123 = .ok (.ifCond .eq 30, 3) := by decide +kernel
theorem dX5_spread_126 : decode cX5_spread 126 = .ok (.aload_n 0, 1) := by decide +kernel
theorem dX5_spread_127 : decode cX5_spread 127 = .ok (.iload_n 1, 1) := by decide +kernel
theorem dX5_spread_128 : decode cX5_spread 128 = .ok (.iload_n 2, 1) := by decide +kernel
theorem dX5_spread_129 : decode cX5_spread 129 = .ok (.iconst (-1), 1) := by decide +kernel
theorem dX5_spread_130 : decode cX5_spread 130 = .ok (.iconst 0, 1) := by decide +kernel
theorem dX5_spread_131 : decode cX5_spread 131 = .ok (.aload_n 0, 1) := by decide +kernel
theorem dX5_spread_132 : decode cX5_spread 132 = .ok (.getfield 27, 3) := by decide +kernel
theorem dX5_spread_135 : decode cX5_spread 135 = .ok (.getfield 113, 3) := by decide +kernel
theorem dX5_spread_138 : decode cX5_spread 138 = .ok (.iload_n 3, 1) := by decide +kernel
theorem dX5_spread_139 : decode cX5_spread 139 = .ok (.isub, 1) := by decide +kernel
theorem dX5_spread_140 : decode cX5_spread 140 = .ok (.iload 4, 2) := by decide +kernel
theorem dX5_spread_142 : decode cX5_spread 142 = .ok (.isub, 1) := by decide +kernel
theorem dX5_spread_143 : decode cX5_spread 143 = .ok (.invokevirtual 137, 3) := by decide +kernel
theorem dX5_spread_146 : decode cX5_spread 146 = .ok (.ifCond .eq 7, 3) := by decide +kernel
theorem dX5_spread_149 : decode cX5_spread 149 = .ok (.iconst 1, 1) := by decide +kernel
theorem dX5_spread_150 : decode cX5_spread 150 = .ok (.goto 4, 3) := by decide +kernel
theorem dX5_spread_153 : decode cX5_spread 153 = .ok (.iconst 0, 1) := by decide +kernel
theorem dX5_spread_154 : decode cX5_spread 154 = .ok (.ireturn, 1) := by decide +kernel
theorem dX5_spread_155 : decode cX5_spread 155 = .ok (.iconst 0, 1) := by decide +kernel
theorem dX5_spread_156 : decode cX5_spread 156 = .ok (.istore_n 3, 1) := by decide +kernel
theorem dX5_spread_157 : decode cX5_spread 157 = .ok (.iload_n 3, 1) := by decide +kernel
theorem dX5_spread_158 : decode cX5_spread 158 = .ok (.aload_n 0, 1) := by decide +kernel
theorem dX5_spread_159 : decode cX5_spread 159 = .ok (.getfield 27, 3) := by decide +kernel
theorem dX5_spread_162 : decode cX5_spread 162 = .ok (.getfield 113, 3) := by decide +kernel
theorem dX5_spread_165 : decode cX5_spread 165 = .ok (.if_icmp .ge 45, 3) := by decide +kernel
theorem dX5_spread_168 : decode cX5_spread 168 = .ok (.aload_n 0, 1) := by decide +kernel
theorem dX5_spread_169 : decode cX5_spread 169 = .ok (.getfield 27, 3) := by decide +kernel
theorem dX5_spread_172 : decode cX5_spread 172 = .ok (.getfield 141, 3) := by decide +kernel
theorem dX5_spread_175 : decode cX5_spread 175 = .ok (.iload_n 2, 1) := by decide +kernel
theorem dX5_spread_176 : decode cX5_spread 176 = .ok (.aaload, 1) := by decide +kernel
theorem dX5_spread_177 : decode cX5_spread 177 = .ok (.iload_n 3, 1) := by decide +kernel
theorem dX5_spread_178 : decode cX5_spread 178 = .ok (.iaload, 1) := by decide +kernel
theorem dX5_spread_179 : decode cX5_spread 179 = .ok (.istore 4, 2) := by decide +kernel
theorem dX5_spread_181 : decode cX5_spread 181 = .ok (.aload_n 0, 1) := by decide +kernel
theorem dX5_spread_182 : decode cX5_spread 182 = .ok (.iload_n 1, 1) := by decide +kernel
theorem dX5_spread_183 : decode cX5_spread 183 = .ok (.iload_n 2, 1) := by decide +kernel
theorem dX5_spread_184 : decode cX5_spread 184 = .ok (.aload_n 0, 1) := by decide +kernel
theorem dX5_spread_185 : decode cX5_spread 185 = .ok (.getfield 31, 3) := by decide +kernel
theorem dX5_spread_188 : decode cX5_spread 188 = .ok (.iload 4, 2) := by decide +kernel
theorem dX5_spread_190 : decode cX5_spread 190 = .ok (.invokevirtual 145, 3) := by decide +kernel
theorem dX5_spread_193 : decode cX5_spread 193 = .ok (.iload 4, 2) := by decide +kernel
theorem dX5_spread_195 : decode cX5_spread 195 = .ok (.iconst 1, 1) := by decide +kernel
theorem dX5_spread_196 : decode cX5_spread 196 = .ok (.invokevirtual 137, 3) := by decide +kernel
theorem dX5_spread_199 : decode cX5_spread 199 = .ok (.ifCond .ne 5, 3) := by decide +kernel
theorem dX5_spread_202 : decode cX5_spread 202 = .ok (.iconst 0, 1) := by decide +kernel
theorem dX5_spread_203 : decode cX5_spread 203 = .ok (.ireturn, 1) := by decide +kernel
theorem dX5_spread_204 : decode cX5_spread 204 = .ok (.iinc 3 1, 3) := by decide +kernel
theorem dX5_spread_207 : decode cX5_spread 207 = .ok (.goto (-50), 3) := by decide +kernel
theorem dX5_spread_210 : decode cX5_spread 210 = .ok (.iconst 1, 1) := by decide +kernel
theorem dX5_spread_211 : decode cX5_spread 211 = .ok (.ireturn, 1) := by decide +kernel
set_option maxRecDepth 20000 in
theorem ggX5_spreadOne_X9_copyTo : GoodIn wsX5_spreadOne wsX9_copyTo := goodIn_r _ [9, 10, 11, 12, 13, 14, 114, 115, 116] (by decide +kernel) (by decide +kernel)
set_option maxRecDepth 20000 in
theorem gX5_spreadOne_X9_copyTo : GoodIn wsX5_spreadOne (wsV RX5 109 RX9 yX9_copyTo wsX9_copyTo) := goodIn_app (goodIn_of _ (by decide +kernel)) ggX5_spreadOne_X9_copyTo
set_option maxRecDepth 20000 in
theorem ggX5_spreadOne_X0_settle : GoodIn wsX5_spreadOne wsX0_settle := goodIn_r _ [19, 20, 21, 22, 23, 24, 25, 26, 27, 28, 29, 30, 18, 31, 32, 33, 34, 35, 36, 37, 38, 39, 40, 41, 42, 43, 44, 45, 46, 47, 48, 49, 50, 51, 52, 53, 54, 55, 56, 57, 58, 59, 60, 61, 62, 63, 64, 65, 66, 67, 117, 118, 119, 120, 121, 122, 123, 124, 125, 126, 127, 128, 129, 130] (by decide +kernel) (by decide +kernel)
set_option maxRecDepth 20000 in
theorem gX5_spreadOne_X0_settle : GoodIn wsX5_spreadOne (wsV RX5 148 RX0 yX0_settle wsX0_settle) := goodIn_app (goodIn_of _ (by decide +kernel)) ggX5_spreadOne_X0_settle
set_option maxRecDepth 20000 in
theorem ggX5_spreadOne_X5_pass : GoodIn wsX5_spreadOne wsX5_pass := goodIn_r _ [72, 73, 2, 74, 75, 76, 77, 8, 78, 79, 80, 81, 82, 83, 84, 85, 86, 87, 10, 88, 89, 90, 91, 92, 93, 94, 95, 96, 97, 98, 99, 100, 11, 12, 13, 14, 101, 102, 103, 104, 105, 106, 107, 108, 109, 110, 111, 112, 113, 114, 115, 116] (by decide +kernel) (by decide +kernel)
set_option maxRecDepth 20000 in
theorem gX5_spreadOne_X5_pass : GoodIn wsX5_spreadOne (wsV RX5 116 RX5 yX5_pass wsX5_pass) := goodIn_app (goodIn_of _ (by decide +kernel)) ggX5_spreadOne_X5_pass
theorem dX5_spreadOne_0 : decode cX5_spreadOne 0 = .ok (.iload 5, 2) := by decide +kernel
theorem dX5_spreadOne_2 : decode cX5_spreadOne 2 = .ok (.ifCond .ne 5, 3) := by decide +kernel
theorem dX5_spreadOne_5 : decode cX5_spreadOne 5 = .ok (.iconst 1, 1) := by decide +kernel
theorem dX5_spreadOne_6 : decode cX5_spreadOne 6 = .ok (.ireturn, 1) := by decide +kernel
theorem dX5_spreadOne_7 : decode cX5_spreadOne 7 = .ok (.aload_n 0, 1) := by decide +kernel
theorem dX5_spreadOne_8 : decode cX5_spreadOne 8 = .ok (.getfield 35, 3) := by decide +kernel
theorem dX5_spreadOne_11 : decode cX5_spreadOne 11 = .ok (.aload_n 0, 1) := by decide +kernel
theorem dX5_spreadOne_12 : decode cX5_spreadOne 12 = .ok (.getfield 9, 3) := by decide +kernel
theorem dX5_spreadOne_15 : decode cX5_spreadOne 15 = .ok (.iload_n 1, 1) := by decide +kernel
theorem dX5_spreadOne_16 : decode cX5_spreadOne 16 = .ok (.invokevirtual 109, 3) := by decide +kernel
theorem dX5_spreadOne_19 : decode cX5_spreadOne 19 = .ok (.aload_n 0, 1) := by decide +kernel
theorem dX5_spreadOne_20 : decode cX5_spreadOne 20 = .ok (.getfield 31, 3) := by decide +kernel
theorem dX5_spreadOne_23 : decode cX5_spreadOne 23 = .ok (.aload_n 0, 1) := by decide +kernel
theorem dX5_spreadOne_24 : decode cX5_spreadOne 24 = .ok (.getfield 9, 3) := by decide +kernel
theorem dX5_spreadOne_27 : decode cX5_spreadOne 27 = .ok (.iload_n 2, 1) := by decide +kernel
theorem dX5_spreadOne_28 : decode cX5_spreadOne 28 = .ok (.iload_n 3, 1) := by decide +kernel
theorem dX5_spreadOne_29 : decode cX5_spreadOne 29 = .ok (.iload 4, 2) := by decide +kernel
theorem dX5_spreadOne_31 : decode cX5_spreadOne 31 = .ok (.invokevirtual 148, 3) := by decide +kernel
theorem dX5_spreadOne_34 : decode cX5_spreadOne 34 = .ok (.aload_n 0, 1) := by decide +kernel
theorem dX5_spreadOne_35 : decode cX5_spreadOne 35 = .ok (.aload_n 0, 1) := by decide +kernel
theorem dX5_spreadOne_36 : decode cX5_spreadOne 36 = .ok (.getfield 71, 3) := by decide +kernel
theorem dX5_spreadOne_39 : decode cX5_spreadOne 39 = .ok (.iload_n 1, 1) := by decide +kernel
theorem dX5_spreadOne_40 : decode cX5_spreadOne 40 = .ok (.laload, 1) := by decide +kernel
theorem dX5_spreadOne_41 : decode cX5_spreadOne 41 = .ok (.iload 5, 2) := by decide +kernel
theorem dX5_spreadOne_43 : decode cX5_spreadOne 43 = .ok (.i2l, 1) := by decide +kernel
theorem dX5_spreadOne_44 : decode cX5_spreadOne 44 = .ok (.lmul, 1) := by decide +kernel
theorem dX5_spreadOne_45 : decode cX5_spreadOne 45 = .ok (.invokevirtual 116, 3) := by decide +kernel
theorem dX5_spreadOne_48 : decode cX5_spreadOne 48 = .ok (.ireturn, 1) := by decide +kernel
set_option maxRecDepth 20000 in
theorem ggX5_pass_X9_slotOf : GoodIn wsX5_pass wsX9_slotOf := goodIn_r _ [8, 9, 10, 11, 7, 12, 13, 14, 15, 16, 17, 18, 49, 50, 51] (by decide +kernel) (by decide +kernel)
set_option maxRecDepth 20000 in
theorem gX5_pass_X9_slotOf : GoodIn wsX5_pass (wsV RX5 80 RX9 yX9_slotOf wsX9_slotOf) := goodIn_app (goodIn_of _ (by decide +kernel)) ggX5_pass_X9_slotOf
set_option maxRecDepth 20000 in
theorem ggX5_pass_X9_at : GoodIn wsX5_pass wsX9_at := goodIn_r _ [22, 9, 49, 50, 51] (by decide +kernel) (by decide +kernel)
set_option maxRecDepth 20000 in
theorem gX5_pass_X9_at : GoodIn wsX5_pass (wsV RX5 152 RX9 yX9_at wsX9_at) := goodIn_app (goodIn_of _ (by decide +kernel)) ggX5_pass_X9_at
set_option maxRecDepth 20000 in
theorem ggX5_pass_X9_isFull : GoodIn wsX5_pass wsX9_isFull := goodIn_r _ [26, 27, 49, 50, 51] (by decide +kernel) (by decide +kernel)
set_option maxRecDepth 20000 in
theorem gX5_pass_X9_isFull : GoodIn wsX5_pass (wsV RX5 155 RX9 yX9_isFull wsX9_isFull) := goodIn_app (goodIn_of _ (by decide +kernel)) ggX5_pass_X9_isFull
set_option maxRecDepth 20000 in
theorem ggX5_pass_X9_add : GoodIn wsX5_pass wsX9_add := goodIn_r _ [31, 27, 18, 32, 33, 34, 35, 9, 49, 50, 51] (by decide +kernel) (by decide +kernel)
set_option maxRecDepth 20000 in
theorem gX5_pass_X9_add : GoodIn wsX5_pass (wsV RX5 84 RX9 yX9_add wsX9_add) := goodIn_app (goodIn_of _ (by decide +kernel)) ggX5_pass_X9_add
theorem dX5_pass_0 : decode cX5_pass 0 = .ok (.aload_n 0, 1) := by decide +kernel
theorem dX5_pass_1 : decode cX5_pass 1 = .ok (.getfield 68, 3) := by decide +kernel
theorem dX5_pass_4 : decode cX5_pass 4 = .ok (.aload_n 0, 1) := by decide +kernel
theorem dX5_pass_5 : decode cX5_pass 5 = .ok (.getfield 9, 3) := by decide +kernel
theorem dX5_pass_8 : decode cX5_pass 8 = .ok (.invokevirtual 80, 3) := by decide +kernel
theorem dX5_pass_11 : decode cX5_pass 11 = .ok (.istore_n 3, 1) := by decide +kernel
theorem dX5_pass_12 : decode cX5_pass 12 = .ok (.aload_n 0, 1) := by decide +kernel
theorem dX5_pass_13 : decode cX5_pass 13 = .ok (.getfield 68, 3) := by decide +kernel
theorem dX5_pass_16 : decode cX5_pass 16 = .ok (.iload_n 3, 1) := by decide +kernel
theorem dX5_pass_17 : decode cX5_pass 17 = .ok (.invokevirtual 152, 3) := by decide +kernel
theorem dX5_pass_20 : decode cX5_pass 20 = .ok (.istore 4, 2) := by decide +kernel
theorem dX5_pass_22 : decode cX5_pass 22 = .ok (.iload 4, 2) := by decide +kernel
theorem dX5_pass_24 : decode cX5_pass 24 = .ok (.iconst (-1), 1) := by decide +kernel
theorem dX5_pass_25 : decode cX5_pass 25 = .ok (.if_icmp .ne 47, 3) := by decide +kernel
theorem dX5_pass_28 : decode cX5_pass 28 = .ok (.aload_n 0, 1) := by decide +kernel
theorem dX5_pass_29 : decode cX5_pass 29 = .ok (.getfield 68, 3) := by decide +kernel
theorem dX5_pass_32 : decode cX5_pass 32 = .ok (.invokevirtual 155, 3) := by decide +kernel
theorem dX5_pass_35 : decode cX5_pass 35 = .ok (.ifCond .eq 7, 3) := by decide +kernel
theorem dX5_pass_38 : decode cX5_pass 38 = .ok (.iconst (-1), 1) := by decide +kernel
theorem dX5_pass_39 : decode cX5_pass 39 = .ok (.goto 15, 3) := by decide +kernel
theorem dX5_pass_42 : decode cX5_pass 42 = .ok (.aload_n 0, 1) := by decide +kernel
theorem dX5_pass_43 : decode cX5_pass 43 = .ok (.getfield 68, 3) := by decide +kernel
theorem dX5_pass_46 : decode cX5_pass 46 = .ok (.iload_n 3, 1) := by decide +kernel
theorem dX5_pass_47 : decode cX5_pass 47 = .ok (.aload_n 0, 1) := by decide +kernel
theorem dX5_pass_48 : decode cX5_pass 48 = .ok (.getfield 9, 3) := by decide +kernel
theorem dX5_pass_51 : decode cX5_pass 51 = .ok (.invokevirtual 84, 3) := by decide +kernel
theorem dX5_pass_54 : decode cX5_pass 54 = .ok (.istore 4, 2) := by decide +kernel
theorem dX5_pass_56 : decode cX5_pass 56 = .ok (.iload 4, 2) := by decide +kernel
theorem dX5_pass_58 : decode cX5_pass 58 = .ok (.iconst (-1), 1) := by decide +kernel
theorem dX5_pass_59 : decode cX5_pass 59 = .ok (.if_icmp .ne 5, 3) := by decide +kernel
theorem dX5_pass_62 : decode cX5_pass 62 = .ok (.iconst 0, 1) := by decide +kernel
theorem dX5_pass_63 : decode cX5_pass 63 = .ok (.ireturn, 1) := by decide +kernel
theorem dX5_pass_64 : decode cX5_pass 64 = .ok (.aload_n 0, 1) := by decide +kernel
theorem dX5_pass_65 : decode cX5_pass 65 = .ok (.getfield 74, 3) := by decide +kernel
theorem dX5_pass_68 : decode cX5_pass 68 = .ok (.iload 4, 2) := by decide +kernel
theorem dX5_pass_70 : decode cX5_pass 70 = .ok (.lconst 0, 1) := by decide +kernel
theorem dX5_pass_71 : decode cX5_pass 71 = .ok (.lastore, 1) := by decide +kernel
theorem dX5_pass_72 : decode cX5_pass 72 = .ok (.aload_n 0, 1) := by decide +kernel
theorem dX5_pass_73 : decode cX5_pass 73 = .ok (.getfield 74, 3) := by decide +kernel
theorem dX5_pass_76 : decode cX5_pass 76 = .ok (.iload 4, 2) := by decide +kernel
theorem dX5_pass_78 : decode cX5_pass 78 = .ok (.dup2, 1) := by decide +kernel
theorem dX5_pass_79 : decode cX5_pass 79 = .ok (.laload, 1) := by decide +kernel
theorem dX5_pass_80 : decode cX5_pass 80 = .ok (.lload_n 1, 1) := by decide +kernel
theorem dX5_pass_81 : decode cX5_pass 81 = .ok (.ladd, 1) := by decide +kernel
theorem dX5_pass_82 : decode cX5_pass 82 = .ok (.lastore, 1) := by decide +kernel
theorem dX5_pass_83 : decode cX5_pass 83 = .ok (.iconst 1, 1) := by decide +kernel
theorem dX5_pass_84 : decode cX5_pass 84 = .ok (.ireturn, 1) := by decide +kernel
set_option maxRecDepth 20000 in
theorem ggX5_tally_J7_fill_d0a16 : GoodIn wsX5_tally wsJ7_fill_d0a16 := goodIn_r _ [12] (by decide +kernel) (by decide +kernel)
set_option maxRecDepth 20000 in
theorem gX5_tally_J7_fill_d0a16 : GoodIn wsX5_tally (va_wsS RX5 158 yJ7_fill_d0a16 wsJ7_fill_d0a16) := goodIn_app (goodIn_of _ (by decide +kernel)) ggX5_tally_J7_fill_d0a16
set_option maxRecDepth 20000 in
theorem ggX5_tally_X0_isSplit : GoodIn wsX5_tally wsX0_isSplit := goodIn_r _ [17, 18, 19, 20, 16, 21, 22, 23, 24, 25, 26, 27, 28, 29, 30, 31, 32, 33, 65, 66, 67, 68, 69, 70, 71, 72, 73, 74, 75, 76, 77, 78, 79, 80, 81, 82] (by decide +kernel) (by decide +kernel)
set_option maxRecDepth 20000 in
theorem gX5_tally_X0_isSplit : GoodIn wsX5_tally (wsV RX5 164 RX0 yX0_isSplit wsX0_isSplit) := goodIn_app (goodIn_of _ (by decide +kernel)) ggX5_tally_X0_isSplit
set_option maxRecDepth 20000 in
theorem ggX5_tally_X0_isAgreed : GoodIn wsX5_tally wsX0_isAgreed := goodIn_r _ [37, 22, 23, 24, 25, 26, 27, 28, 29, 30, 18, 19, 20, 16, 21, 31, 32, 33, 65, 66, 67, 68, 69, 70, 71, 72, 73, 74, 75, 76, 77, 78, 79, 80, 81, 82] (by decide +kernel) (by decide +kernel)
set_option maxRecDepth 20000 in
theorem gX5_tally_X0_isAgreed : GoodIn wsX5_tally (wsV RX5 168 RX0 yX0_isAgreed wsX0_isAgreed) := goodIn_app (goodIn_of _ (by decide +kernel)) ggX5_tally_X0_isAgreed
set_option maxRecDepth 20000 in
theorem ggX5_tally_X0_honestOnes : GoodIn wsX5_tally wsX0_honestOnes := goodIn_r _ [41, 22, 23, 24, 25, 31, 32, 28, 33, 65, 66, 67, 68, 69, 70, 71, 72, 73, 74, 75, 76, 77, 78, 79, 80, 81, 82] (by decide +kernel) (by decide +kernel)
set_option maxRecDepth 20000 in
theorem gX5_tally_X0_honestOnes : GoodIn wsX5_tally (wsV RX5 171 RX0 yX0_honestOnes wsX0_honestOnes) := goodIn_app (goodIn_of _ (by decide +kernel)) ggX5_tally_X0_honestOnes
set_option maxRecDepth 20000 in
theorem ggX5_tally_J6_bitCount_0f7a4 : GoodIn wsX5_tally wsJ6_bitCount_0f7a4 := goodIn_r _ [45, 46, 47, 48] (by decide +kernel) (by decide +kernel)
set_option maxRecDepth 20000 in
theorem gX5_tally_J6_bitCount_0f7a4 : GoodIn wsX5_tally (va_wsS RX5 126 yJ6_bitCount_0f7a4 wsJ6_bitCount_0f7a4) := goodIn_app (goodIn_of _ (by decide +kernel)) ggX5_tally_J6_bitCount_0f7a4
theorem dX5_tally_0 : decode cX5_tally 0 = .ok (.aload_n 0, 1) := by decide +kernel
theorem dX5_tally_1 : decode cX5_tally 1 = .ok (.getfield 15, 3) := by decide +kernel
theorem dX5_tally_4 : decode cX5_tally 4 = .ok (.iload_n 1, 1) := by decide +kernel
theorem dX5_tally_5 : decode cX5_tally 5 = .ok (.lconst 0, 1) := by decide +kernel
theorem dX5_tally_6 : decode cX5_tally 6 = .ok (.lastore, 1) := by decide +kernel
theorem dX5_tally_7 : decode cX5_tally 7 = .ok (.aload_n 0, 1) := by decide +kernel
theorem dX5_tally_8 : decode cX5_tally 8 = .ok (.getfield 19, 3) := by decide +kernel
theorem dX5_tally_11 : decode cX5_tally 11 = .ok (.iload_n 1, 1) := by decide +kernel
theorem dX5_tally_12 : decode cX5_tally 12 = .ok (.lconst 0, 1) := by decide +kernel
theorem dX5_tally_13 : decode cX5_tally 13 = .ok (.lastore, 1) := by decide +kernel
theorem dX5_tally_14 : decode cX5_tally 14 = .ok (.aload_n 0, 1) := by decide +kernel
theorem dX5_tally_15 : decode cX5_tally 15 = .ok (.getfield 24, 3) := by decide +kernel
theorem dX5_tally_18 : decode cX5_tally 18 = .ok (.iload_n 1, 1) := by decide +kernel
theorem dX5_tally_19 : decode cX5_tally 19 = .ok (.aaload, 1) := by decide +kernel
theorem dX5_tally_20 : decode cX5_tally 20 = .ok (.lconst 0, 1) := by decide +kernel
theorem dX5_tally_21 : decode cX5_tally 21 = .ok (.invokestatic 158, 3) := by decide +kernel
theorem dX5_tally_24 : decode cX5_tally 24 = .ok (.iconst 0, 1) := by decide +kernel
theorem dX5_tally_25 : decode cX5_tally 25 = .ok (.istore_n 2, 1) := by decide +kernel
theorem dX5_tally_26 : decode cX5_tally 26 = .ok (.iload_n 2, 1) := by decide +kernel
theorem dX5_tally_27 : decode cX5_tally 27 = .ok (.aload_n 0, 1) := by decide +kernel
theorem dX5_tally_28 : decode cX5_tally 28 = .ok (.getfield 35, 3) := by decide +kernel
theorem dX5_tally_31 : decode cX5_tally 31 = .ok (.getfield 88, 3) := by decide +kernel
theorem dX5_tally_34 : decode cX5_tally 34 = .ok (.if_icmp .ge 122, 3) := by decide +kernel
theorem dX5_tally_37 : decode cX5_tally 37 = .ok (.iload_n 2, 1) := by decide +kernel
theorem dX5_tally_38 : decode cX5_tally 38 = .ok (.bipush 8, 2) := by decide +kernel
theorem dX5_tally_40 : decode cX5_tally 40 = .ok (.imul, 1) := by decide +kernel
theorem dX5_tally_41 : decode cX5_tally 41 = .ok (.istore_n 3, 1) := by decide +kernel
theorem dX5_tally_42 : decode cX5_tally 42 = .ok (.aload_n 0, 1) := by decide +kernel
theorem dX5_tally_43 : decode cX5_tally 43 = .ok (.getfield 15, 3) := by decide +kernel
theorem dX5_tally_46 : decode cX5_tally 46 = .ok (.iload_n 1, 1) := by decide +kernel
theorem dX5_tally_47 : decode cX5_tally 47 = .ok (.dup2, 1) := by decide +kernel
theorem dX5_tally_48 : decode cX5_tally 48 = .ok (.laload, 1) := by decide +kernel
theorem dX5_tally_49 : decode cX5_tally 49 = .ok (.aload_n 0, 1) := by decide +kernel
theorem dX5_tally_50 : decode cX5_tally 50 = .ok (.getfield 31, 3) := by decide +kernel
theorem dX5_tally_53 : decode cX5_tally 53 = .ok (.aload_n 0, 1) := by decide +kernel
theorem dX5_tally_54 : decode cX5_tally 54 = .ok (.getfield 35, 3) := by decide +kernel
theorem dX5_tally_57 : decode cX5_tally 57 = .ok (.getfield 100, 3) := by decide +kernel
theorem dX5_tally_60 : decode cX5_tally 60 = .ok (.iload_n 3, 1) := by decide +kernel
theorem dX5_tally_61 : decode cX5_tally 61 = .ok (.invokevirtual 164, 3) := by decide +kernel
theorem dX5_tally_64 : decode cX5_tally 64 = .ok (.ifCond .eq 12, 3) := by decide +kernel
theorem dX5_tally_67 : decode cX5_tally 67 = .ok (.aload_n 0, 1) := by decide +kernel
theorem dX5_tally_68 : decode cX5_tally 68 = .ok (.getfield 71, 3) := by decide +kernel
theorem dX5_tally_71 : decode cX5_tally 71 = .ok (.iload_n 2, 1) := by decide +kernel
theorem dX5_tally_72 : decode cX5_tally 72 = .ok (.laload, 1) := by decide +kernel
theorem dX5_tally_73 : decode cX5_tally 73 = .ok (.goto 4, 3) := by decide +kernel
theorem dX5_tally_76 : decode cX5_tally 76 = .ok (.lconst 0, 1) := by decide +kernel
theorem dX5_tally_77 : decode cX5_tally 77 = .ok (.ladd, 1) := by decide +kernel
theorem dX5_tally_78 : decode cX5_tally 78 = .ok (.lastore, 1) := by decide +kernel
theorem dX5_tally_79 : decode cX5_tally 79 = .ok (.aload_n 0, 1) := by decide +kernel
theorem dX5_tally_80 : decode cX5_tally 80 = .ok (.getfield 19, 3) := by decide +kernel
theorem dX5_tally_83 : decode cX5_tally 83 = .ok (.iload_n 1, 1) := by decide +kernel
theorem dX5_tally_84 : decode cX5_tally 84 = .ok (.dup2, 1) := by decide +kernel
theorem dX5_tally_85 : decode cX5_tally 85 = .ok (.laload, 1) := by decide +kernel
theorem dX5_tally_86 : decode cX5_tally 86 = .ok (.aload_n 0, 1) := by decide +kernel
theorem dX5_tally_87 : decode cX5_tally 87 = .ok (.getfield 31, 3) := by decide +kernel
theorem dX5_tally_90 : decode cX5_tally 90 = .ok (.aload_n 0, 1) := by decide +kernel
theorem dX5_tally_91 : decode cX5_tally 91 = .ok (.getfield 35, 3) := by decide +kernel
theorem dX5_tally_94 : decode cX5_tally 94 = .ok (.getfield 100, 3) := by decide +kernel
theorem dX5_tally_97 : decode cX5_tally 97 = .ok (.iload_n 3, 1) := by decide +kernel
theorem dX5_tally_98 : decode cX5_tally 98 = .ok (.invokevirtual 168, 3) := by decide +kernel
theorem dX5_tally_101 : decode cX5_tally 101 = .ok (.ifCond .eq 12, 3) := by decide +kernel
theorem dX5_tally_104 : decode cX5_tally 104 = .ok (.aload_n 0, 1) := by decide +kernel
theorem dX5_tally_105 : decode cX5_tally 105 = .ok (.getfield 71, 3) := by decide +kernel
theorem dX5_tally_108 : decode cX5_tally 108 = .ok (.iload_n 2, 1) := by decide +kernel
theorem dX5_tally_109 : decode cX5_tally 109 = .ok (.laload, 1) := by decide +kernel
theorem dX5_tally_110 : decode cX5_tally 110 = .ok (.goto 4, 3) := by decide +kernel
theorem dX5_tally_113 : decode cX5_tally 113 = .ok (.lconst 0, 1) := by decide +kernel
theorem dX5_tally_114 : decode cX5_tally 114 = .ok (.ladd, 1) := by decide +kernel
theorem dX5_tally_115 : decode cX5_tally 115 = .ok (.lastore, 1) := by decide +kernel
theorem dX5_tally_116 : decode cX5_tally 116 = .ok (.aload_n 0, 1) := by decide +kernel
theorem dX5_tally_117 : decode cX5_tally 117 = .ok (.getfield 24, 3) := by decide +kernel
theorem dX5_tally_120 : decode cX5_tally 120 = .ok (.iload_n 1, 1) := by decide +kernel
theorem dX5_tally_121 : decode cX5_tally 121 = .ok (.aaload, 1) := by decide +kernel
theorem dX5_tally_122 : decode cX5_tally 122 = .ok (.aload_n 0, 1) := by decide +kernel
theorem dX5_tally_123 : decode cX5_tally 123 = .ok (.getfield 31, 3) := by decide +kernel
theorem dX5_tally_126 : decode cX5_tally 126 = .ok (.aload_n 0, 1) := by decide +kernel
theorem dX5_tally_127 : decode cX5_tally 127 = .ok (.getfield 35, 3) := by decide +kernel
theorem dX5_tally_130 : decode cX5_tally 130 = .ok (.getfield 100, 3) := by decide +kernel
theorem dX5_tally_133 : decode cX5_tally 133 = .ok (.iload_n 3, 1) := by decide +kernel
theorem dX5_tally_134 : decode cX5_tally 134 = .ok (.invokevirtual 171, 3) := by decide +kernel
theorem dX5_tally_137 : decode cX5_tally 137 = .ok (.invokestatic 126, 3) := by decide +kernel
theorem dX5_tally_140 : decode cX5_tally 140 = .ok (.dup2, 1) := by decide +kernel
theorem dX5_tally_141 : decode cX5_tally 141 = .ok (.laload, 1) := by decide +kernel
theorem dX5_tally_142 : decode cX5_tally 142 = .ok (.aload_n 0, 1) := by decide +kernel
theorem dX5_tally_143 : decode cX5_tally 143 = .ok (.getfield 71, 3) := by decide +kernel
theorem dX5_tally_146 : decode cX5_tally 146 = .ok (.iload_n 2, 1) := by decide +kernel
theorem dX5_tally_147 : decode cX5_tally 147 = .ok (.laload, 1) := by decide +kernel
theorem dX5_tally_148 : decode cX5_tally 148 = .ok (.ladd, 1) := by decide +kernel
theorem dX5_tally_149 : decode cX5_tally 149 = .ok (.lastore, 1) := by decide +kernel
theorem dX5_tally_150 : decode cX5_tally 150 = .ok (.iinc 2 1, 3) := by decide +kernel
theorem dX5_tally_153 : decode cX5_tally 153 = .ok (.goto (-127), 3) := by decide +kernel
theorem dX5_tally_156 : decode cX5_tally 156 = .ok (.return_, 1) := by decide +kernel
theorem dX6_init_0 : decode cX6_init 0 = .ok (.aload_n 0, 1) := by decide +kernel
theorem dX6_init_1 : decode cX6_init 1 = .ok (.invokespecial 3, 3) := by decide +kernel
theorem dX6_init_4 : decode cX6_init 4 = .ok (.aload_n 0, 1) := by decide +kernel
theorem dX6_init_5 : decode cX6_init 5 = .ok (.aload_n 1, 1) := by decide +kernel
theorem dX6_init_6 : decode cX6_init 6 = .ok (.putfield 9, 3) := by decide +kernel
theorem dX6_init_9 : decode cX6_init 9 = .ok (.aload_n 0, 1) := by decide +kernel
theorem dX6_init_10 : decode cX6_init 10 = .ok (.aload_n 2, 1) := by decide +kernel
theorem dX6_init_11 : decode cX6_init 11 = .ok (.putfield 15, 3) := by decide +kernel
theorem dX6_init_14 : decode cX6_init 14 = .ok (.aload_n 0, 1) := by decide +kernel
theorem dX6_init_15 : decode cX6_init 15 = .ok (.aload_n 3, 1) := by decide +kernel
theorem dX6_init_16 : decode cX6_init 16 = .ok (.putfield 19, 3) := by decide +kernel
theorem dX6_init_19 : decode cX6_init 19 = .ok (.return_, 1) := by decide +kernel
set_option maxRecDepth 20000 in
theorem ggX6_unpolled_X7_isNode : GoodIn wsX6_unpolled wsX7_isNode := goodIn_r _ [12, 13, 32, 33, 34, 35, 36, 37, 38, 39, 40] (by decide +kernel) (by decide +kernel)
set_option maxRecDepth 20000 in
theorem gX6_unpolled_X7_isNode : GoodIn wsX6_unpolled (wsV RX6 23 RX7 yX7_isNode wsX7_isNode) := goodIn_app (goodIn_of _ (by decide +kernel)) ggX6_unpolled_X7_isNode
theorem dX6_unpolled_0 : decode cX6_unpolled 0 = .ok (.aload_n 0, 1) := by decide +kernel
theorem dX6_unpolled_1 : decode cX6_unpolled 1 = .ok (.getfield 9, 3) := by decide +kernel
theorem dX6_unpolled_4 : decode cX6_unpolled 4 = .ok (.iload_n 1, 1) := by decide +kernel
theorem dX6_unpolled_5 : decode cX6_unpolled 5 = .ok (.invokevirtual 23, 3) := by decide +kernel
theorem dX6_unpolled_8 : decode cX6_unpolled 8 = .ok (.ifCond .eq 15, 3) := by decide +kernel
theorem dX6_unpolled_11 : decode cX6_unpolled 11 = .ok (.aload_n 0, 1) := by decide +kernel
theorem dX6_unpolled_12 : decode cX6_unpolled 12 = .ok (.getfield 15, 3) := by decide +kernel
theorem dX6_unpolled_15 : decode cX6_unpolled 15 = .ok (.getfield 29, 3) := by decide +kernel
theorem dX6_unpolled_18 : decode cX6_unpolled 18 = .ok (.iload_n 1, 1) := by decide +kernel
theorem dX6_unpolled_19 : decode cX6_unpolled 19 = .ok (.iaload, 1) := by decide +kernel
theorem dX6_unpolled_20 : decode cX6_unpolled 20 = .ok (.ifCond .eq 5, 3) := by decide +kernel
theorem dX6_unpolled_23 : decode cX6_unpolled 23 = .ok (.iconst 0, 1) := by decide +kernel
theorem dX6_unpolled_24 : decode cX6_unpolled 24 = .ok (.ireturn, 1) := by decide +kernel
theorem dX6_unpolled_25 : decode cX6_unpolled 25 = .ok (.iconst 1, 1) := by decide +kernel
theorem dX6_unpolled_26 : decode cX6_unpolled 26 = .ok (.aload_n 0, 1) := by decide +kernel
theorem dX6_unpolled_27 : decode cX6_unpolled 27 = .ok (.getfield 19, 3) := by decide +kernel
theorem dX6_unpolled_30 : decode cX6_unpolled 30 = .ok (.getfield 35, 3) := by decide +kernel
theorem dX6_unpolled_33 : decode cX6_unpolled 33 = .ok (.ishl, 1) := by decide +kernel
theorem dX6_unpolled_34 : decode cX6_unpolled 34 = .ok (.iconst 1, 1) := by decide +kernel
theorem dX6_unpolled_35 : decode cX6_unpolled 35 = .ok (.isub, 1) := by decide +kernel
theorem dX6_unpolled_36 : decode cX6_unpolled 36 = .ok (.aload_n 0, 1) := by decide +kernel
theorem dX6_unpolled_37 : decode cX6_unpolled 37 = .ok (.getfield 15, 3) := by decide +kernel
theorem dX6_unpolled_40 : decode cX6_unpolled 40 = .ok (.getfield 41, 3) := by decide +kernel
theorem dX6_unpolled_43 : decode cX6_unpolled 43 = .ok (.iload_n 1, 1) := by decide +kernel
theorem dX6_unpolled_44 : decode cX6_unpolled 44 = .ok (.aaload, 1) := by decide +kernel
theorem dX6_unpolled_45 : decode cX6_unpolled 45 = .ok (.getfield 45, 3) := by decide +kernel
theorem dX6_unpolled_48 : decode cX6_unpolled 48 = .ok (.iconst (-1), 1) := by decide +kernel
theorem dX6_unpolled_49 : decode cX6_unpolled 49 = .ok (.ixor, 1) := by decide +kernel
theorem dX6_unpolled_50 : decode cX6_unpolled 50 = .ok (.iand, 1) := by decide +kernel
theorem dX6_unpolled_51 : decode cX6_unpolled 51 = .ok (.ireturn, 1) := by decide +kernel
set_option maxRecDepth 20000 in
theorem ggX6_confidence_J6_bitCount_0f7a4 : GoodIn wsX6_confidence wsJ6_bitCount_0f7a4 := goodIn_r _ [7, 8, 9, 10] (by decide +kernel) (by decide +kernel)
set_option maxRecDepth 20000 in
theorem gX6_confidence_J6_bitCount_0f7a4 : GoodIn wsX6_confidence (va_wsS RX6 56 yJ6_bitCount_0f7a4 wsJ6_bitCount_0f7a4) := goodIn_app (goodIn_of _ (by decide +kernel)) ggX6_confidence_J6_bitCount_0f7a4
theorem dX6_confidence_0 : decode cX6_confidence 0 = .ok (.aload_n 1, 1) := by decide +kernel
theorem dX6_confidence_1 : decode cX6_confidence 1 = .ok (.getfield 50, 3) := by decide +kernel
theorem dX6_confidence_4 : decode cX6_confidence 4 = .ok (.aload_n 0, 1) := by decide +kernel
theorem dX6_confidence_5 : decode cX6_confidence 5 = .ok (.getfield 19, 3) := by decide +kernel
theorem dX6_confidence_8 : decode cX6_confidence 8 = .ok (.getfield 53, 3) := by decide +kernel
theorem dX6_confidence_11 : decode cX6_confidence 11 = .ok (.iload_n 2, 1) := by decide +kernel
theorem dX6_confidence_12 : decode cX6_confidence 12 = .ok (.iaload, 1) := by decide +kernel
theorem dX6_confidence_13 : decode cX6_confidence 13 = .ok (.iconst 1, 1) := by decide +kernel
theorem dX6_confidence_14 : decode cX6_confidence 14 = .ok (.iload_n 2, 1) := by decide +kernel
theorem dX6_confidence_15 : decode cX6_confidence 15 = .ok (.ishl, 1) := by decide +kernel
theorem dX6_confidence_16 : decode cX6_confidence 16 = .ok (.ior, 1) := by decide +kernel
theorem dX6_confidence_17 : decode cX6_confidence 17 = .ok (.iand, 1) := by decide +kernel
theorem dX6_confidence_18 : decode cX6_confidence 18 = .ok (.invokestatic 56, 3) := by decide +kernel
theorem dX6_confidence_21 : decode cX6_confidence 21 = .ok (.ireturn, 1) := by decide +kernel
set_option maxRecDepth 20000 in
theorem ggX6_isStrong_X3_lineOf : GoodIn wsX6_isStrong wsX3_lineOf := goodIn_r _ [7, 8, 9, 10, 11, 6, 12, 13, 23, 24, 25, 26, 27, 28, 29, 30] (by decide +kernel) (by decide +kernel)
set_option maxRecDepth 20000 in
theorem gX6_isStrong_X3_lineOf : GoodIn wsX6_isStrong (wsV RX6 62 RX3 yX3_lineOf wsX3_lineOf) := goodIn_app (goodIn_of _ (by decide +kernel)) ggX6_isStrong_X3_lineOf
set_option maxRecDepth 20000 in
theorem ggX6_isStrong_X10_get : GoodIn wsX6_isStrong wsX10_get := goodIn_r _ [18, 19, 31, 32, 33] (by decide +kernel) (by decide +kernel)
set_option maxRecDepth 20000 in
theorem gX6_isStrong_X10_get : GoodIn wsX6_isStrong (wsV RX6 68 RX10 yX10_get wsX10_get) := goodIn_app (goodIn_of _ (by decide +kernel)) ggX6_isStrong_X10_get
theorem dX6_isStrong_0 : decode cX6_isStrong 0 = .ok (.aload_n 0, 1) := by decide +kernel
theorem dX6_isStrong_1 : decode cX6_isStrong 1 = .ok (.getfield 19, 3) := by decide +kernel
theorem dX6_isStrong_4 : decode cX6_isStrong 4 = .ok (.iload_n 2, 1) := by decide +kernel
theorem dX6_isStrong_5 : decode cX6_isStrong 5 = .ok (.invokevirtual 62, 3) := by decide +kernel
theorem dX6_isStrong_8 : decode cX6_isStrong 8 = .ok (.istore_n 3, 1) := by decide +kernel
theorem dX6_isStrong_9 : decode cX6_isStrong 9 = .ok (.iconst 0, 1) := by decide +kernel
theorem dX6_isStrong_10 : decode cX6_isStrong 10 = .ok (.istore 4, 2) := by decide +kernel
theorem dX6_isStrong_12 : decode cX6_isStrong 12 = .ok (.iload 4, 2) := by decide +kernel
theorem dX6_isStrong_14 : decode cX6_isStrong 14 = .ok (.iload_n 2, 1) := by decide +kernel
theorem dX6_isStrong_15 : decode cX6_isStrong 15 = .ok (.if_icmp .gt 41, 3) := by decide +kernel
theorem dX6_isStrong_18 : decode cX6_isStrong 18 = .ok (.iload_n 3, 1) := by decide +kernel
theorem dX6_isStrong_19 : decode cX6_isStrong 19 = .ok (.iload 4, 2) := by decide +kernel
theorem dX6_isStrong_21 : decode cX6_isStrong 21 = .ok (.ishr, 1) := by decide +kernel
theorem dX6_isStrong_22 : decode cX6_isStrong 22 = .ok (.iconst 1, 1) := by decide +kernel
theorem dX6_isStrong_23 : decode cX6_isStrong 23 = .ok (.iand, 1) := by decide +kernel
theorem dX6_isStrong_24 : decode cX6_isStrong 24 = .ok (.iconst 1, 1) := by decide +kernel
theorem dX6_isStrong_25 : decode cX6_isStrong 25 = .ok (.if_icmp .ne 25, 3) := by decide +kernel
theorem dX6_isStrong_28 : decode cX6_isStrong 28 = .ok (.aload_n 1, 1) := by decide +kernel
theorem dX6_isStrong_29 : decode cX6_isStrong 29 = .ok (.aload_n 0, 1) := by decide +kernel
theorem dX6_isStrong_30 : decode cX6_isStrong 30 = .ok (.getfield 19, 3) := by decide +kernel
theorem dX6_isStrong_33 : decode cX6_isStrong 33 = .ok (.getfield 65, 3) := by decide +kernel
theorem dX6_isStrong_36 : decode cX6_isStrong 36 = .ok (.iload 4, 2) := by decide +kernel
theorem dX6_isStrong_38 : decode cX6_isStrong 38 = .ok (.iaload, 1) := by decide +kernel
theorem dX6_isStrong_39 : decode cX6_isStrong 39 = .ok (.iconst 0, 1) := by decide +kernel
theorem dX6_isStrong_40 : decode cX6_isStrong 40 = .ok (.invokevirtual 68, 3) := by decide +kernel
theorem dX6_isStrong_43 : decode cX6_isStrong 43 = .ok (.iload 4, 2) := by decide +kernel
theorem dX6_isStrong_45 : decode cX6_isStrong 45 = .ok (.if_icmp .eq 5, 3) := by decide +kernel
theorem dX6_isStrong_48 : decode cX6_isStrong 48 = .ok (.iconst 0, 1) := by decide +kernel
theorem dX6_isStrong_49 : decode cX6_isStrong 49 = .ok (.ireturn, 1) := by decide +kernel
theorem dX6_isStrong_50 : decode cX6_isStrong 50 = .ok (.iinc 4 1, 3) := by decide +kernel
theorem dX6_isStrong_53 : decode cX6_isStrong 53 = .ok (.goto (-41), 3) := by decide +kernel
theorem dX6_isStrong_56 : decode cX6_isStrong 56 = .ok (.iconst 1, 1) := by decide +kernel
theorem dX6_isStrong_57 : decode cX6_isStrong 57 = .ok (.ireturn, 1) := by decide +kernel
set_option maxRecDepth 20000 in
theorem ggX6_standing_X10_isOpen : GoodIn wsX6_standing wsX10_isOpen := goodIn_r _ [7, 8, 9, 10, 6, 11, 12, 25, 26, 27] (by decide +kernel) (by decide +kernel)
set_option maxRecDepth 20000 in
theorem gX6_standing_X10_isOpen : GoodIn wsX6_standing (wsV RX6 72 RX10 yX10_isOpen wsX10_isOpen) := goodIn_app (goodIn_of _ (by decide +kernel)) ggX6_standing_X10_isOpen
set_option maxRecDepth 20000 in
theorem ggX6_standing_X10_get : GoodIn wsX6_standing wsX10_get := goodIn_r _ [11, 12, 25, 26, 27] (by decide +kernel) (by decide +kernel)
set_option maxRecDepth 20000 in
theorem gX6_standing_X10_get : GoodIn wsX6_standing (wsV RX6 68 RX10 yX10_get wsX10_get) := goodIn_app (goodIn_of _ (by decide +kernel)) ggX6_standing_X10_get
theorem dX6_standing_0 : decode cX6_standing 0 = .ok (.aload_n 0, 1) := by decide +kernel
theorem dX6_standing_1 : decode cX6_standing 1 = .ok (.getfield 19, 3) := by decide +kernel
theorem dX6_standing_4 : decode cX6_standing 4 = .ok (.getfield 65, 3) := by decide +kernel
theorem dX6_standing_7 : decode cX6_standing 7 = .ok (.iload_n 2, 1) := by decide +kernel
theorem dX6_standing_8 : decode cX6_standing 8 = .ok (.iaload, 1) := by decide +kernel
theorem dX6_standing_9 : decode cX6_standing 9 = .ok (.istore_n 3, 1) := by decide +kernel
theorem dX6_standing_10 : decode cX6_standing 10 = .ok (.aload_n 1, 1) := by decide +kernel
theorem dX6_standing_11 : decode cX6_standing 11 = .ok (.iload_n 3, 1) := by decide +kernel
theorem dX6_standing_12 : decode cX6_standing 12 = .ok (.invokevirtual 72, 3) := by decide +kernel
theorem dX6_standing_15 : decode cX6_standing 15 = .ok (.ifCond .eq 5, 3) := by decide +kernel
theorem dX6_standing_18 : decode cX6_standing 18 = .ok (.iconst 0, 1) := by decide +kernel
theorem dX6_standing_19 : decode cX6_standing 19 = .ok (.ireturn, 1) := by decide +kernel
theorem dX6_standing_20 : decode cX6_standing 20 = .ok (.aload_n 1, 1) := by decide +kernel
theorem dX6_standing_21 : decode cX6_standing 21 = .ok (.iload_n 3, 1) := by decide +kernel
theorem dX6_standing_22 : decode cX6_standing 22 = .ok (.iconst 3, 1) := by decide +kernel
theorem dX6_standing_23 : decode cX6_standing 23 = .ok (.invokevirtual 68, 3) := by decide +kernel
theorem dX6_standing_26 : decode cX6_standing 26 = .ok (.iload_n 2, 1) := by decide +kernel
theorem dX6_standing_27 : decode cX6_standing 27 = .ok (.if_icmp .ne 7, 3) := by decide +kernel
theorem dX6_standing_30 : decode cX6_standing 30 = .ok (.iconst 1, 1) := by decide +kernel
theorem dX6_standing_31 : decode cX6_standing 31 = .ok (.goto 4, 3) := by decide +kernel
theorem dX6_standing_34 : decode cX6_standing 34 = .ok (.iconst 2, 1) := by decide +kernel
theorem dX6_standing_35 : decode cX6_standing 35 = .ok (.ireturn, 1) := by decide +kernel
set_option maxRecDepth 20000 in
theorem ggX6_nodesThatSee_X6_standing : GoodIn wsX6_nodesThatSee wsX6_standing := goodIn_r _ [9, 10, 11, 12, 13, 14, 15, 16, 17, 18, 19, 20, 21, 22, 23, 24, 25, 39, 40, 41, 42, 43, 44, 45, 46, 47, 48, 49] (by decide +kernel) (by decide +kernel)
set_option maxRecDepth 20000 in
theorem gX6_nodesThatSee_X6_standing : GoodIn wsX6_nodesThatSee (wsV RX6 78 RX6 yX6_standing wsX6_standing) := goodIn_app (goodIn_of _ (by decide +kernel)) ggX6_nodesThatSee_X6_standing
theorem dX6_nodesThatSee_0 : decode cX6_nodesThatSee 0 = .ok (.iconst 0, 1) := by decide +kernel
theorem dX6_nodesThatSee_1 : decode cX6_nodesThatSee 1 = .ok (.istore_n 3, 1) := by decide +kernel
theorem dX6_nodesThatSee_2 : decode cX6_nodesThatSee 2 = .ok (.iconst 0, 1) := by decide +kernel
theorem dX6_nodesThatSee_3 : decode cX6_nodesThatSee 3 = .ok (.istore 4, 2) := by decide +kernel
theorem dX6_nodesThatSee_5 : decode cX6_nodesThatSee 5 = .ok (.iload 4, 2) := by decide +kernel
theorem dX6_nodesThatSee_7 : decode cX6_nodesThatSee 7 = .ok (.aload_n 0, 1) := by decide +kernel
theorem dX6_nodesThatSee_8 : decode cX6_nodesThatSee 8 = .ok (.getfield 9, 3) := by decide +kernel
theorem dX6_nodesThatSee_11 : decode cX6_nodesThatSee 11 = .ok (.getfield 75, 3) := by decide +kernel
theorem dX6_nodesThatSee_14 : decode cX6_nodesThatSee 14 = .ok (.if_icmp .ge 36, 3) := by decide +kernel
theorem dX6_nodesThatSee_17 : decode cX6_nodesThatSee 17 = .ok (.iload_n 3, 1) := by decide +kernel
theorem dX6_nodesThatSee_18 : decode cX6_nodesThatSee 18 = .ok (.aload_n 0, 1) := by decide +kernel
theorem dX6_nodesThatSee_19 : decode cX6_nodesThatSee 19 = .ok (.aload_n 0, 1) := by decide +kernel
theorem dX6_nodesThatSee_20 : decode cX6_nodesThatSee 20 = .ok (.getfield 15, 3) := by decide +kernel
theorem dX6_nodesThatSee_23 : decode cX6_nodesThatSee 23 = .ok (.getfield 41, 3) := by decide +kernel
theorem dX6_nodesThatSee_26 : decode cX6_nodesThatSee 26 = .ok (.iload 4, 2) := by decide +kernel
theorem dX6_nodesThatSee_28 : decode cX6_nodesThatSee 28 = .ok (.aaload, 1) := by decide +kernel
theorem dX6_nodesThatSee_29 : decode cX6_nodesThatSee 29 = .ok (.iload_n 1, 1) := by decide +kernel
theorem dX6_nodesThatSee_30 : decode cX6_nodesThatSee 30 = .ok (.invokevirtual 78, 3) := by decide +kernel
theorem dX6_nodesThatSee_33 : decode cX6_nodesThatSee 33 = .ok (.iload_n 2, 1) := by decide +kernel
theorem dX6_nodesThatSee_34 : decode cX6_nodesThatSee 34 = .ok (.if_icmp .ne 7, 3) := by decide +kernel
theorem dX6_nodesThatSee_37 : decode cX6_nodesThatSee 37 = .ok (.iconst 1, 1) := by decide +kernel
theorem dX6_nodesThatSee_38 : decode cX6_nodesThatSee 38 = .ok (.goto 4, 3) := by decide +kernel
theorem dX6_nodesThatSee_41 : decode cX6_nodesThatSee 41 = .ok (.iconst 0, 1) := by decide +kernel
theorem dX6_nodesThatSee_42 : decode cX6_nodesThatSee 42 = .ok (.iadd, 1) := by decide +kernel
theorem dX6_nodesThatSee_43 : decode cX6_nodesThatSee 43 = .ok (.istore_n 3, 1) := by decide +kernel
theorem dX6_nodesThatSee_44 : decode cX6_nodesThatSee 44 = .ok (.iinc 4 1, 3) := by decide +kernel
theorem dX6_nodesThatSee_47 : decode cX6_nodesThatSee 47 = .ok (.goto (-42), 3) := by decide +kernel
theorem dX6_nodesThatSee_50 : decode cX6_nodesThatSee 50 = .ok (.iload_n 3, 1) := by decide +kernel
theorem dX6_nodesThatSee_51 : decode cX6_nodesThatSee 51 = .ok (.ireturn, 1) := by decide +kernel
set_option maxRecDepth 20000 in
theorem ggX6_splitSets_X6_isSplitSet : GoodIn wsX6_splitSets wsX6_isSplitSet := goodIn_r _ [5, 6, 7, 8, 9, 10, 11, 12, 13, 14, 15, 16, 17, 18, 19, 20, 21, 22, 23, 24, 25, 26, 27, 28, 29, 30, 31, 32, 33, 34, 35, 36, 37, 38, 39, 40, 41, 42, 43, 44, 45, 46, 47] (by decide +kernel) (by decide +kernel)
set_option maxRecDepth 20000 in
theorem gX6_splitSets_X6_isSplitSet : GoodIn wsX6_splitSets (wsV RX6 82 RX6 yX6_isSplitSet wsX6_isSplitSet) := goodIn_app (goodIn_of _ (by decide +kernel)) ggX6_splitSets_X6_isSplitSet
theorem dX6_splitSets_0 : decode cX6_splitSets 0 = .ok (.iconst 0, 1) := by decide +kernel
theorem dX6_splitSets_1 : decode cX6_splitSets 1 = .ok (.istore_n 1, 1) := by decide +kernel
theorem dX6_splitSets_2 : decode cX6_splitSets 2 = .ok (.iconst 0, 1) := by decide +kernel
theorem dX6_splitSets_3 : decode cX6_splitSets 3 = .ok (.istore_n 2, 1) := by decide +kernel
theorem dX6_splitSets_4 : decode cX6_splitSets 4 = .ok (.iload_n 2, 1) := by decide +kernel
theorem dX6_splitSets_5 : decode cX6_splitSets 5 = .ok (.bipush 8, 2) := by decide +kernel
theorem dX6_splitSets_7 : decode cX6_splitSets 7 = .ok (.if_icmp .ge 27, 3) := by decide +kernel
theorem dX6_splitSets_10 : decode cX6_splitSets 10 = .ok (.iload_n 1, 1) := by decide +kernel
theorem dX6_splitSets_11 : decode cX6_splitSets 11 = .ok (.aload_n 0, 1) := by decide +kernel
theorem dX6_splitSets_12 : decode cX6_splitSets 12 = .ok (.iload_n 2, 1) := by decide +kernel
theorem dX6_splitSets_13 : decode cX6_splitSets 13 = .ok (.invokevirtual 82, 3) := by decide +kernel
theorem dX6_splitSets_16 : decode cX6_splitSets 16 = .ok (.ifCond .eq 9, 3) := by decide +kernel
theorem dX6_splitSets_19 : decode cX6_splitSets 19 = .ok (.iconst 1, 1) := by decide +kernel
theorem dX6_splitSets_20 : decode cX6_splitSets 20 = .ok (.iload_n 2, 1) := by decide +kernel
theorem dX6_splitSets_21 : decode cX6_splitSets 21 = .ok (.ishl, 1) := by decide +kernel
theorem dX6_splitSets_22 : decode cX6_splitSets 22 = .ok (.goto 4, 3) := by decide +kernel
theorem dX6_splitSets_25 : decode cX6_splitSets 25 = .ok (.iconst 0, 1) := by decide +kernel
theorem dX6_splitSets_26 : decode cX6_splitSets 26 = .ok (.ior, 1) := by decide +kernel
theorem dX6_splitSets_27 : decode cX6_splitSets 27 = .ok (.istore_n 1, 1) := by decide +kernel
theorem dX6_splitSets_28 : decode cX6_splitSets 28 = .ok (.iinc 2 1, 3) := by decide +kernel
theorem dX6_splitSets_31 : decode cX6_splitSets 31 = .ok (.goto (-27), 3) := by decide +kernel
theorem dX6_splitSets_34 : decode cX6_splitSets 34 = .ok (.iload_n 1, 1) := by decide +kernel
theorem dX6_splitSets_35 : decode cX6_splitSets 35 = .ok (.ireturn, 1) := by decide +kernel
set_option maxRecDepth 20000 in
theorem ggX6_isSplitSet_X10_isOpen : GoodIn wsX6_isSplitSet wsX10_isOpen := goodIn_r _ [10, 11, 12, 13, 9, 14, 15, 40, 41, 42] (by decide +kernel) (by decide +kernel)
set_option maxRecDepth 20000 in
theorem gX6_isSplitSet_X10_isOpen : GoodIn wsX6_isSplitSet (wsV RX6 72 RX10 yX10_isOpen wsX10_isOpen) := goodIn_app (goodIn_of _ (by decide +kernel)) ggX6_isSplitSet_X10_isOpen
set_option maxRecDepth 20000 in
theorem ggX6_isSplitSet_X10_get : GoodIn wsX6_isSplitSet wsX10_get := goodIn_r _ [14, 15, 40, 41, 42] (by decide +kernel) (by decide +kernel)
set_option maxRecDepth 20000 in
theorem gX6_isSplitSet_X10_get : GoodIn wsX6_isSplitSet (wsV RX6 68 RX10 yX10_get wsX10_get) := goodIn_app (goodIn_of _ (by decide +kernel)) ggX6_isSplitSet_X10_get
set_option maxRecDepth 20000 in
theorem ggX6_isSplitSet_J6_bitCount_0f7a4 : GoodIn wsX6_isSplitSet wsJ6_bitCount_0f7a4 := goodIn_r _ [20, 21, 22, 23] (by decide +kernel) (by decide +kernel)
set_option maxRecDepth 20000 in
theorem gX6_isSplitSet_J6_bitCount_0f7a4 : GoodIn wsX6_isSplitSet (va_wsS RX6 56 yJ6_bitCount_0f7a4 wsJ6_bitCount_0f7a4) := goodIn_app (goodIn_of _ (by decide +kernel)) ggX6_isSplitSet_J6_bitCount_0f7a4
theorem dX6_isSplitSet_0 : decode cX6_isSplitSet 0 = .ok (.iconst 0, 1) := by decide +kernel
theorem dX6_isSplitSet_1 : decode cX6_isSplitSet 1 = .ok (.istore_n 2, 1) := by decide +kernel
theorem dX6_isSplitSet_2 : decode cX6_isSplitSet 2 = .ok (.iconst 0, 1) := by decide +kernel
theorem dX6_isSplitSet_3 : decode cX6_isSplitSet 3 = .ok (.istore_n 3, 1) := by decide +kernel
theorem dX6_isSplitSet_4 : decode cX6_isSplitSet 4 = .ok (.iload_n 3, 1) := by decide +kernel
theorem dX6_isSplitSet_5 : decode cX6_isSplitSet 5 = .ok (.aload_n 0, 1) := by decide +kernel
theorem dX6_isSplitSet_6 : decode cX6_isSplitSet 6 = .ok (.getfield 9, 3) := by decide +kernel
theorem dX6_isSplitSet_9 : decode cX6_isSplitSet 9 = .ok (.getfield 75, 3) := by decide +kernel
theorem dX6_isSplitSet_12 : decode cX6_isSplitSet 12 = .ok (.if_icmp .ge 56, 3) := by decide +kernel
theorem dX6_isSplitSet_15 : decode cX6_isSplitSet 15 = .ok (.aload_n 0, 1) := by decide +kernel
theorem dX6_isSplitSet_16 : decode cX6_isSplitSet 16 = .ok (.getfield 15, 3) := by decide +kernel
theorem dX6_isSplitSet_19 : decode cX6_isSplitSet 19 = .ok (.getfield 29, 3) := by decide +kernel
theorem dX6_isSplitSet_22 : decode cX6_isSplitSet 22 = .ok (.iload_n 3, 1) := by decide +kernel
theorem dX6_isSplitSet_23 : decode cX6_isSplitSet 23 = .ok (.iaload, 1) := by decide +kernel
theorem dX6_isSplitSet_24 : decode cX6_isSplitSet 24 = .ok (.ifCond .ne 38, 3) := by decide +kernel
theorem dX6_isSplitSet_27 : decode cX6_isSplitSet 27 = .ok (.aload_n 0, 1) := by decide +kernel
theorem dX6_isSplitSet_28 : decode cX6_isSplitSet 28 = .ok (.getfield 15, 3) := by decide +kernel
theorem dX6_isSplitSet_31 : decode cX6_isSplitSet 31 = .ok (.getfield 41, 3) := by decide +kernel
theorem dX6_isSplitSet_34 : decode cX6_isSplitSet 34 = .ok (.iload_n 3, 1) := by decide +kernel
theorem dX6_isSplitSet_35 : decode cX6_isSplitSet 35 = .ok (.aaload, 1) := by decide +kernel
theorem dX6_isSplitSet_36 : decode cX6_isSplitSet 36 = .ok (.iload_n 1, 1) := by decide +kernel
theorem dX6_isSplitSet_37 : decode cX6_isSplitSet 37 = .ok (.invokevirtual 72, 3) := by decide +kernel
theorem dX6_isSplitSet_40 : decode cX6_isSplitSet 40 = .ok (.ifCond .ne 22, 3) := by decide +kernel
theorem dX6_isSplitSet_43 : decode cX6_isSplitSet 43 = .ok (.iload_n 2, 1) := by decide +kernel
theorem dX6_isSplitSet_44 : decode cX6_isSplitSet 44 = .ok (.iconst 1, 1) := by decide +kernel
theorem dX6_isSplitSet_45 : decode cX6_isSplitSet 45 = .ok (.aload_n 0, 1) := by decide +kernel
theorem dX6_isSplitSet_46 : decode cX6_isSplitSet 46 = .ok (.getfield 15, 3) := by decide +kernel
theorem dX6_isSplitSet_49 : decode cX6_isSplitSet 49 = .ok (.getfield 41, 3) := by decide +kernel
theorem dX6_isSplitSet_52 : decode cX6_isSplitSet 52 = .ok (.iload_n 3, 1) := by decide +kernel
theorem dX6_isSplitSet_53 : decode cX6_isSplitSet 53 = .ok (.aaload, 1) := by decide +kernel
theorem dX6_isSplitSet_54 : decode cX6_isSplitSet 54 = .ok (.iload_n 1, 1) := by decide +kernel
theorem dX6_isSplitSet_55 : decode cX6_isSplitSet 55 = .ok (.iconst 3, 1) := by decide +kernel
theorem dX6_isSplitSet_56 : decode cX6_isSplitSet 56 = .ok (.invokevirtual 68, 3) := by decide +kernel
theorem dX6_isSplitSet_59 : decode cX6_isSplitSet 59 = .ok (.ishl, 1) := by decide +kernel
theorem dX6_isSplitSet_60 : decode cX6_isSplitSet 60 = .ok (.ior, 1) := by decide +kernel
theorem dX6_isSplitSet_61 : decode cX6_isSplitSet 61 = .ok (.istore_n 2, 1) := by decide +kernel
theorem dX6_isSplitSet_62 : decode cX6_isSplitSet 62 = .ok (.iinc 3 1, 3) := by decide +kernel
theorem dX6_isSplitSet_65 : decode cX6_isSplitSet 65 = .ok (.goto (-61), 3) := by decide +kernel
theorem dX6_isSplitSet_68 : decode cX6_isSplitSet 68 = .ok (.iload_n 2, 1) := by decide +kernel
theorem dX6_isSplitSet_69 : decode cX6_isSplitSet 69 = .ok (.invokestatic 56, 3) := by decide +kernel
theorem dX6_isSplitSet_72 : decode cX6_isSplitSet 72 = .ok (.iconst 1, 1) := by decide +kernel
theorem dX6_isSplitSet_73 : decode cX6_isSplitSet 73 = .ok (.if_icmp .le 7, 3) := by decide +kernel
theorem dX6_isSplitSet_76 : decode cX6_isSplitSet 76 = .ok (.iconst 1, 1) := by decide +kernel
theorem dX6_isSplitSet_77 : decode cX6_isSplitSet 77 = .ok (.goto 4, 3) := by decide +kernel
theorem dX6_isSplitSet_80 : decode cX6_isSplitSet 80 = .ok (.iconst 0, 1) := by decide +kernel
theorem dX6_isSplitSet_81 : decode cX6_isSplitSet 81 = .ok (.ireturn, 1) := by decide +kernel
set_option maxRecDepth 20000 in
theorem ggX6_sayYes_X6_isStrong : GoodIn wsX6_sayYes wsX6_isStrong := goodIn_r _ [9, 10, 11, 12, 13, 14, 15, 16, 17, 18, 19, 20, 21, 22, 23, 24, 25, 26, 27, 28, 40, 41, 42, 56, 57, 58, 59, 60, 61, 62, 63, 64, 65, 66] (by decide +kernel) (by decide +kernel)
set_option maxRecDepth 20000 in
theorem gX6_sayYes_X6_isStrong : GoodIn wsX6_sayYes (wsV RX6 85 RX6 yX6_isStrong wsX6_isStrong) := goodIn_app (goodIn_of _ (by decide +kernel)) ggX6_sayYes_X6_isStrong
set_option maxRecDepth 20000 in
theorem ggX6_sayYes_X4_isLinked : GoodIn wsX6_sayYes wsX4_isLinked := goodIn_r _ [33, 34, 43, 44, 45, 46] (by decide +kernel) (by decide +kernel)
set_option maxRecDepth 20000 in
theorem gX6_sayYes_X4_isLinked : GoodIn wsX6_sayYes (wsV RX6 89 RX4 yX4_isLinked wsX4_isLinked) := goodIn_app (goodIn_of _ (by decide +kernel)) ggX6_sayYes_X4_isLinked
set_option maxRecDepth 20000 in
theorem ggX6_sayYes_X6_saysYes : GoodIn wsX6_sayYes wsX6_saysYes := goodIn_r _ [38, 1, 39, 2, 5, 6, 7, 8, 9, 10, 11, 12, 13, 14, 15, 16, 17, 18, 19, 20, 21, 22, 23, 24, 25, 26, 27, 28, 40, 41, 42, 43, 44, 45, 46, 56, 57, 58, 59, 60, 61, 62, 63, 64, 65, 66] (by decide +kernel) (by decide +kernel)
set_option maxRecDepth 20000 in
theorem gX6_sayYes_X6_saysYes : GoodIn wsX6_sayYes (wsV RX6 93 RX6 yX6_saysYes wsX6_saysYes) := goodIn_app (goodIn_of _ (by decide +kernel)) ggX6_sayYes_X6_saysYes
theorem dX6_sayYes_0 : decode cX6_sayYes 0 = .ok (.aload_n 0, 1) := by decide +kernel
theorem dX6_sayYes_1 : decode cX6_sayYes 1 = .ok (.aload_n 0, 1) := by decide +kernel
theorem dX6_sayYes_2 : decode cX6_sayYes 2 = .ok (.getfield 15, 3) := by decide +kernel
theorem dX6_sayYes_5 : decode cX6_sayYes 5 = .ok (.getfield 41, 3) := by decide +kernel
theorem dX6_sayYes_8 : decode cX6_sayYes 8 = .ok (.iload_n 1, 1) := by decide +kernel
theorem dX6_sayYes_9 : decode cX6_sayYes 9 = .ok (.aaload, 1) := by decide +kernel
theorem dX6_sayYes_10 : decode cX6_sayYes 10 = .ok (.iload_n 2, 1) := by decide +kernel
theorem dX6_sayYes_11 : decode cX6_sayYes 11 = .ok (.invokevirtual 85, 3) := by decide +kernel
theorem dX6_sayYes_14 : decode cX6_sayYes 14 = .ok (.istore 4, 2) := by decide +kernel
theorem dX6_sayYes_16 : decode cX6_sayYes 16 = .ok (.iconst 0, 1) := by decide +kernel
theorem dX6_sayYes_17 : decode cX6_sayYes 17 = .ok (.istore 5, 2) := by decide +kernel
theorem dX6_sayYes_19 : decode cX6_sayYes 19 = .ok (.iconst 0, 1) := by decide +kernel
theorem dX6_sayYes_20 : decode cX6_sayYes 20 = .ok (.istore 6, 2) := by decide +kernel
theorem dX6_sayYes_22 : decode cX6_sayYes 22 = .ok (.iload 6, 2) := by decide +kernel
theorem dX6_sayYes_24 : decode cX6_sayYes 24 = .ok (.aload_n 0, 1) := by decide +kernel
theorem dX6_sayYes_25 : decode cX6_sayYes 25 = .ok (.getfield 9, 3) := by decide +kernel
theorem dX6_sayYes_28 : decode cX6_sayYes 28 = .ok (.getfield 75, 3) := by decide +kernel
theorem dX6_sayYes_31 : decode cX6_sayYes 31 = .ok (.if_icmp .ge 54, 3) := by decide +kernel
theorem dX6_sayYes_34 : decode cX6_sayYes 34 = .ok (.iload_n 3, 1) := by decide +kernel
theorem dX6_sayYes_35 : decode cX6_sayYes 35 = .ok (.iload 6, 2) := by decide +kernel
theorem dX6_sayYes_37 : decode cX6_sayYes 37 = .ok (.ishr, 1) := by decide +kernel
theorem dX6_sayYes_38 : decode cX6_sayYes 38 = .ok (.iconst 1, 1) := by decide +kernel
theorem dX6_sayYes_39 : decode cX6_sayYes 39 = .ok (.iand, 1) := by decide +kernel
theorem dX6_sayYes_40 : decode cX6_sayYes 40 = .ok (.iconst 1, 1) := by decide +kernel
theorem dX6_sayYes_41 : decode cX6_sayYes 41 = .ok (.if_icmp .ne 38, 3) := by decide +kernel
theorem dX6_sayYes_44 : decode cX6_sayYes 44 = .ok (.aload_n 0, 1) := by decide +kernel
theorem dX6_sayYes_45 : decode cX6_sayYes 45 = .ok (.getfield 15, 3) := by decide +kernel
theorem dX6_sayYes_48 : decode cX6_sayYes 48 = .ok (.iload_n 1, 1) := by decide +kernel
theorem dX6_sayYes_49 : decode cX6_sayYes 49 = .ok (.iload 6, 2) := by decide +kernel
theorem dX6_sayYes_51 : decode cX6_sayYes 51 = .ok (.invokevirtual 89, 3) := by decide +kernel
theorem dX6_sayYes_54 : decode cX6_sayYes 54 = .ok (.ifCond .eq 25, 3) := by decide +kernel
theorem dX6_sayYes_57 : decode cX6_sayYes 57 = .ok (.iload 5, 2) := by decide +kernel
theorem dX6_sayYes_59 : decode cX6_sayYes 59 = .ok (.aload_n 0, 1) := by decide +kernel
theorem dX6_sayYes_60 : decode cX6_sayYes 60 = .ok (.iload 6, 2) := by decide +kernel
theorem dX6_sayYes_62 : decode cX6_sayYes 62 = .ok (.iload_n 2, 1) := by decide +kernel
theorem dX6_sayYes_63 : decode cX6_sayYes 63 = .ok (.iload 4, 2) := by decide +kernel
theorem dX6_sayYes_65 : decode cX6_sayYes 65 = .ok (.invokevirtual 93, 3) := by decide +kernel
theorem dX6_sayYes_68 : decode cX6_sayYes 68 = .ok (.ifCond .eq 7, 3) := by decide +kernel
theorem dX6_sayYes_71 : decode cX6_sayYes 71 = .ok (.iconst 1, 1) := by decide +kernel
theorem dX6_sayYes_72 : decode cX6_sayYes 72 = .ok (.goto 4, 3) := by decide +kernel
theorem dX6_sayYes_75 : decode cX6_sayYes 75 = .ok (.iconst 0, 1) := by decide +kernel
theorem dX6_sayYes_76 : decode cX6_sayYes 76 = .ok (.iadd, 1) := by decide +kernel
theorem dX6_sayYes_77 : decode cX6_sayYes 77 = .ok (.istore 5, 2) := by decide +kernel
theorem dX6_sayYes_79 : decode cX6_sayYes 79 = .ok (.iinc 6 1, 3) := by decide +kernel
theorem dX6_sayYes_82 : decode cX6_sayYes 82 = .ok (.goto (-60), 3) := by decide +kernel
theorem dX6_sayYes_85 : decode cX6_sayYes 85 = .ok (.iload 5, 2) := by decide +kernel
theorem dX6_sayYes_87 : decode cX6_sayYes 87 = .ok (.ireturn, 1) := by decide +kernel
set_option maxRecDepth 20000 in
theorem ggX6_saysYes_X6_isStrong : GoodIn wsX6_saysYes wsX6_isStrong := goodIn_r _ [8, 9, 10, 11, 12, 13, 14, 15, 16, 17, 18, 19, 20, 21, 22, 23, 24, 25, 26, 27, 28, 29, 30, 35, 36, 37, 38, 39, 40, 41, 42, 43, 44, 45] (by decide +kernel) (by decide +kernel)
set_option maxRecDepth 20000 in
theorem gX6_saysYes_X6_isStrong : GoodIn wsX6_saysYes (wsV RX6 85 RX6 yX6_isStrong wsX6_isStrong) := goodIn_app (goodIn_of _ (by decide +kernel)) ggX6_saysYes_X6_isStrong
theorem dX6_saysYes_0 : decode cX6_saysYes 0 = .ok (.aload_n 0, 1) := by decide +kernel
theorem dX6_saysYes_1 : decode cX6_saysYes 1 = .ok (.getfield 15, 3) := by decide +kernel
theorem dX6_saysYes_4 : decode cX6_saysYes 4 = .ok (.getfield 29, 3) := by decide +kernel
theorem dX6_saysYes_7 : decode cX6_saysYes 7 = .ok (.iload_n 1, 1) := by decide +kernel
theorem dX6_saysYes_8 : decode cX6_saysYes 8 = .ok (.iaload, 1) := by decide +kernel
theorem dX6_saysYes_9 : decode cX6_saysYes 9 = .ok (.tableswitch 58 0 3 #[31, 58, 46, 48], 31) := by decide +kernel
theorem dX6_saysYes_40 : decode cX6_saysYes 40 = .ok (.aload_n 0, 1) := by decide +kernel
theorem dX6_saysYes_41 : decode cX6_saysYes 41 = .ok (.aload_n 0, 1) := by decide +kernel
theorem dX6_saysYes_42 : decode cX6_saysYes 42 = .ok (.getfield 15, 3) := by decide +kernel
theorem dX6_saysYes_45 : decode cX6_saysYes 45 = .ok (.getfield 41, 3) := by decide +kernel
theorem dX6_saysYes_48 : decode cX6_saysYes 48 = .ok (.iload_n 1, 1) := by decide +kernel
theorem dX6_saysYes_49 : decode cX6_saysYes 49 = .ok (.aaload, 1) := by decide +kernel
theorem dX6_saysYes_50 : decode cX6_saysYes 50 = .ok (.iload_n 2, 1) := by decide +kernel
theorem dX6_saysYes_51 : decode cX6_saysYes 51 = .ok (.invokevirtual 85, 3) := by decide +kernel
theorem dX6_saysYes_54 : decode cX6_saysYes 54 = .ok (.ireturn, 1) := by decide +kernel
theorem dX6_saysYes_55 : decode cX6_saysYes 55 = .ok (.iconst 1, 1) := by decide +kernel
theorem dX6_saysYes_56 : decode cX6_saysYes 56 = .ok (.ireturn, 1) := by decide +kernel
theorem dX6_saysYes_57 : decode cX6_saysYes 57 = .ok (.iload_n 3, 1) := by decide +kernel
theorem dX6_saysYes_58 : decode cX6_saysYes 58 = .ok (.ifCond .ne 7, 3) := by decide +kernel
theorem dX6_saysYes_61 : decode cX6_saysYes 61 = .ok (.iconst 1, 1) := by decide +kernel
theorem dX6_saysYes_62 : decode cX6_saysYes 62 = .ok (.goto 4, 3) := by decide +kernel
theorem dX6_saysYes_65 : decode cX6_saysYes 65 = .ok (.iconst 0, 1) := by decide +kernel
theorem dX6_saysYes_66 : decode cX6_saysYes 66 = .ok (.ireturn, 1) := by decide +kernel
theorem dX6_saysYes_67 : decode cX6_saysYes 67 = .ok (.iconst 0, 1) := by decide +kernel
theorem dX6_saysYes_68 : decode cX6_saysYes 68 = .ok (.ireturn, 1) := by decide +kernel
set_option maxRecDepth 20000 in
theorem ggX6_hold_X3_lineOf : GoodIn wsX6_hold wsX3_lineOf := goodIn_r _ [12, 13, 14, 15, 16, 11, 17, 18, 134, 135, 136, 137, 138, 139, 140, 141] (by decide +kernel) (by decide +kernel)
set_option maxRecDepth 20000 in
theorem gX6_hold_X3_lineOf : GoodIn wsX6_hold (wsV RX6 62 RX3 yX3_lineOf wsX3_lineOf) := goodIn_app (goodIn_of _ (by decide +kernel)) ggX6_hold_X3_lineOf
set_option maxRecDepth 20000 in
theorem ggX6_hold_X6_sayYes : GoodIn wsX6_hold wsX6_sayYes := goodIn_r _ [23, 1, 2, 5, 24, 25, 26, 27, 22, 28, 3, 29, 8, 9, 10, 11, 12, 13, 14, 15, 16, 17, 18, 30, 31, 32, 33, 34, 35, 36, 37, 38, 39, 40, 41, 42, 43, 44, 45, 46, 115, 116, 117, 118, 119, 120, 121, 125, 126, 127, 128, 129, 130, 131, 132, 133, 134, 135, 136, 137, 138, 139, 140, 141, 122, 123, 124] (by decide +kernel) (by decide +kernel)
set_option maxRecDepth 20000 in
theorem gX6_hold_X6_sayYes : GoodIn wsX6_hold (wsV RX6 97 RX6 yX6_sayYes wsX6_sayYes) := goodIn_app (goodIn_of _ (by decide +kernel)) ggX6_hold_X6_sayYes
set_option maxRecDepth 20000 in
theorem ggX6_hold_X6_lose : GoodIn wsX6_hold wsX6_lose := goodIn_r _ [50, 3, 51, 29, 52, 53, 54, 22, 55, 56, 57, 58, 33, 59, 60, 31, 32, 34, 35, 61, 62, 63, 64, 115, 116, 117, 134, 135, 136, 137, 138, 139, 140, 141, 122, 123, 124] (by decide +kernel) (by decide +kernel)
set_option maxRecDepth 20000 in
theorem gX6_hold_X6_lose : GoodIn wsX6_hold (wsV RX6 104 RX6 yX6_lose wsX6_lose) := goodIn_app (goodIn_of _ (by decide +kernel)) ggX6_hold_X6_lose
set_option maxRecDepth 20000 in
theorem ggX6_hold_X6_gain : GoodIn wsX6_hold wsX6_gain := goodIn_r _ [68, 3, 51, 29, 52, 53, 54, 22, 55, 56, 57, 58, 33, 59, 60, 31, 32, 34, 35, 69, 70, 71, 72, 30, 73, 74, 75, 76, 7, 77, 78, 79, 80, 81, 82, 83, 84, 61, 62, 63, 64, 115, 116, 117, 134, 135, 136, 137, 138, 139, 140, 141, 122, 123, 124] (by decide +kernel) (by decide +kernel)
set_option maxRecDepth 20000 in
theorem gX6_hold_X6_gain : GoodIn wsX6_hold (wsV RX6 108 RX6 yX6_gain wsX6_gain) := goodIn_app (goodIn_of _ (by decide +kernel)) ggX6_hold_X6_gain
set_option maxRecDepth 20000 in
theorem ggX6_hold_X6_accept : GoodIn wsX6_hold wsX6_accept := goodIn_r _ [88, 3, 51, 29, 52, 53, 54, 22, 55, 56, 57, 58, 33, 59, 60, 31, 32, 34, 35, 89, 90, 91, 92, 5, 93, 94, 30, 95, 96, 97, 11, 98, 99, 100, 101, 102, 103, 104, 105, 106, 107, 108, 109, 110, 111, 112, 113, 114, 61, 62, 63, 64, 115, 116, 117, 134, 135, 136, 137, 138, 139, 140, 141, 122, 123, 124, 125, 126, 127, 128, 129, 130, 131, 132, 133] (by decide +kernel) (by decide +kernel)
set_option maxRecDepth 20000 in
theorem gX6_hold_X6_accept : GoodIn wsX6_hold (wsV RX6 111 RX6 yX6_accept wsX6_accept) := goodIn_app (goodIn_of _ (by decide +kernel)) ggX6_hold_X6_accept
theorem dX6_hold_0 : decode cX6_hold 0 = .ok (.aload_n 0, 1) := by decide +kernel
theorem dX6_hold_1 : decode cX6_hold 1 = .ok (.getfield 15, 3) := by decide +kernel
theorem dX6_hold_4 : decode cX6_hold 4 = .ok (.getfield 41, 3) := by decide +kernel
theorem dX6_hold_7 : decode cX6_hold 7 = .ok (.iload_n 1, 1) := by decide +kernel
theorem dX6_hold_8 : decode cX6_hold 8 = .ok (.aaload, 1) := by decide +kernel
theorem dX6_hold_9 : decode cX6_hold 9 = .ok (.astore 4, 2) := by decide +kernel
theorem dX6_hold_11 : decode cX6_hold 11 = .ok (.aload_n 0, 1) := by decide +kernel
theorem dX6_hold_12 : decode cX6_hold 12 = .ok (.getfield 19, 3) := by decide +kernel
theorem dX6_hold_15 : decode cX6_hold 15 = .ok (.iload_n 2, 1) := by decide +kernel
theorem dX6_hold_16 : decode cX6_hold 16 = .ok (.invokevirtual 62, 3) := by decide +kernel
theorem dX6_hold_19 : decode cX6_hold 19 = .ok (.istore 5, 2) := by decide +kernel
theorem dX6_hold_21 : decode cX6_hold 21 = .ok (.aload 4, 2) := by decide +kernel
theorem dX6_hold_23 : decode cX6_hold 23 = .ok (.dup, 1) := by decide +kernel
theorem dX6_hold_24 : decode cX6_hold 24 = .ok (.getfield 45, 3) := by decide +kernel
theorem dX6_hold_27 : decode cX6_hold 27 = .ok (.iconst 1, 1) := by decide +kernel
theorem dX6_hold_28 : decode cX6_hold 28 = .ok (.iload_n 2, 1) := by decide +kernel
theorem dX6_hold_29 : decode cX6_hold 29 = .ok (.ishl, 1) := by decide +kernel
theorem dX6_hold_30 : decode cX6_hold 30 = .ok (.ior, 1) := by decide +kernel
theorem dX6_hold_31 : decode cX6_hold 31 = .ok (.putfield 45, 3) := by decide +kernel
theorem dX6_hold_34 : decode cX6_hold 34 = .ok (.aload_n 0, 1) := by decide +kernel
theorem dX6_hold_35 : decode cX6_hold 35 = .ok (.iload_n 1, 1) := by decide +kernel
theorem dX6_hold_36 : decode cX6_hold 36 = .ok (.iload_n 2, 1) := by decide +kernel
theorem dX6_hold_37 : decode cX6_hold 37 = .ok (.iload_n 3, 1) := by decide +kernel
theorem dX6_hold_38 : decode cX6_hold 38 = .ok (.invokevirtual 97, 3) := by decide +kernel
theorem dX6_hold_41 : decode cX6_hold 41 = .ok (.aload_n 0, 1) := by decide +kernel
theorem dX6_hold_42 : decode cX6_hold 42 = .ok (.getfield 9, 3) := by decide +kernel
theorem dX6_hold_45 : decode cX6_hold 45 = .ok (.getfield 101, 3) := by decide +kernel
theorem dX6_hold_48 : decode cX6_hold 48 = .ok (.if_icmp .ge 13, 3) := by decide +kernel
theorem dX6_hold_51 : decode cX6_hold 51 = .ok (.aload_n 0, 1) := by decide +kernel
theorem dX6_hold_52 : decode cX6_hold 52 = .ok (.aload 4, 2) := by decide +kernel
theorem dX6_hold_54 : decode cX6_hold 54 = .ok (.iload 5, 2) := by decide +kernel
theorem dX6_hold_56 : decode cX6_hold 56 = .ok (.invokevirtual 104, 3) := by decide +kernel
theorem dX6_hold_59 : decode cX6_hold 59 = .ok (.iconst 0, 1) := by decide +kernel
theorem dX6_hold_60 : decode cX6_hold 60 = .ok (.ireturn, 1) := by decide +kernel
theorem dX6_hold_61 : decode cX6_hold 61 = .ok (.aload 4, 2) := by decide +kernel
theorem dX6_hold_63 : decode cX6_hold 63 = .ok (.dup, 1) := by decide +kernel
theorem dX6_hold_64 : decode cX6_hold 64 = .ok (.getfield 50, 3) := by decide +kernel
theorem dX6_hold_67 : decode cX6_hold 67 = .ok (.iconst 1, 1) := by decide +kernel
theorem dX6_hold_68 : decode cX6_hold 68 = .ok (.iload_n 2, 1) := by decide +kernel
theorem dX6_hold_69 : decode cX6_hold 69 = .ok (.ishl, 1) := by decide +kernel
theorem dX6_hold_70 : decode cX6_hold 70 = .ok (.ior, 1) := by decide +kernel
theorem dX6_hold_71 : decode cX6_hold 71 = .ok (.putfield 50, 3) := by decide +kernel
theorem dX6_hold_74 : decode cX6_hold 74 = .ok (.aload_n 0, 1) := by decide +kernel
theorem dX6_hold_75 : decode cX6_hold 75 = .ok (.aload 4, 2) := by decide +kernel
theorem dX6_hold_77 : decode cX6_hold 77 = .ok (.iload 5, 2) := by decide +kernel
theorem dX6_hold_79 : decode cX6_hold 79 = .ok (.invokevirtual 108, 3) := by decide +kernel
theorem dX6_hold_82 : decode cX6_hold 82 = .ok (.aload_n 0, 1) := by decide +kernel
theorem dX6_hold_83 : decode cX6_hold 83 = .ok (.aload 4, 2) := by decide +kernel
theorem dX6_hold_85 : decode cX6_hold 85 = .ok (.iload 5, 2) := by decide +kernel
theorem dX6_hold_87 : decode cX6_hold 87 = .ok (.invokevirtual 111, 3) := by decide +kernel
theorem dX6_hold_90 : decode cX6_hold 90 = .ok (.ifCond .eq 7, 3) := by decide +kernel
theorem dX6_hold_93 : decode cX6_hold 93 = .ok (.iconst 2, 1) := by decide +kernel
theorem dX6_hold_94 : decode cX6_hold 94 = .ok (.goto 4, 3) := by decide +kernel
theorem dX6_hold_97 : decode cX6_hold 97 = .ok (.iconst 1, 1) := by decide +kernel
theorem dX6_hold_98 : decode cX6_hold 98 = .ok (.ireturn, 1) := by decide +kernel
set_option maxRecDepth 20000 in
theorem ggX6_isOpenOf_X10_isOpen : GoodIn wsX6_isOpenOf wsX10_isOpen := goodIn_r _ [7, 8, 9, 10, 6, 11, 12, 24, 25, 26] (by decide +kernel) (by decide +kernel)
set_option maxRecDepth 20000 in
theorem gX6_isOpenOf_X10_isOpen : GoodIn wsX6_isOpenOf (wsV RX6 72 RX10 yX10_isOpen wsX10_isOpen) := goodIn_app (goodIn_of _ (by decide +kernel)) ggX6_isOpenOf_X10_isOpen
theorem dX6_isOpenOf_0 : decode cX6_isOpenOf 0 = .ok (.iload_n 2, 1) := by decide +kernel
theorem dX6_isOpenOf_1 : decode cX6_isOpenOf 1 = .ok (.iload_n 3, 1) := by decide +kernel
theorem dX6_isOpenOf_2 : decode cX6_isOpenOf 2 = .ok (.ishr, 1) := by decide +kernel
theorem dX6_isOpenOf_3 : decode cX6_isOpenOf 3 = .ok (.iconst 1, 1) := by decide +kernel
theorem dX6_isOpenOf_4 : decode cX6_isOpenOf 4 = .ok (.iand, 1) := by decide +kernel
theorem dX6_isOpenOf_5 : decode cX6_isOpenOf 5 = .ok (.iconst 1, 1) := by decide +kernel
theorem dX6_isOpenOf_6 : decode cX6_isOpenOf 6 = .ok (.if_icmp .ne 23, 3) := by decide +kernel
theorem dX6_isOpenOf_9 : decode cX6_isOpenOf 9 = .ok (.aload_n 1, 1) := by decide +kernel
theorem dX6_isOpenOf_10 : decode cX6_isOpenOf 10 = .ok (.aload_n 0, 1) := by decide +kernel
theorem dX6_isOpenOf_11 : decode cX6_isOpenOf 11 = .ok (.getfield 19, 3) := by decide +kernel
theorem dX6_isOpenOf_14 : decode cX6_isOpenOf 14 = .ok (.getfield 65, 3) := by decide +kernel
theorem dX6_isOpenOf_17 : decode cX6_isOpenOf 17 = .ok (.iload_n 3, 1) := by decide +kernel
theorem dX6_isOpenOf_18 : decode cX6_isOpenOf 18 = .ok (.iaload, 1) := by decide +kernel
theorem dX6_isOpenOf_19 : decode cX6_isOpenOf 19 = .ok (.invokevirtual 72, 3) := by decide +kernel
theorem dX6_isOpenOf_22 : decode cX6_isOpenOf 22 = .ok (.ifCond .eq 7, 3) := by decide +kernel
theorem dX6_isOpenOf_25 : decode cX6_isOpenOf 25 = .ok (.iconst 1, 1) := by decide +kernel
theorem dX6_isOpenOf_26 : decode cX6_isOpenOf 26 = .ok (.goto 4, 3) := by decide +kernel
theorem dX6_isOpenOf_29 : decode cX6_isOpenOf 29 = .ok (.iconst 0, 1) := by decide +kernel
theorem dX6_isOpenOf_30 : decode cX6_isOpenOf 30 = .ok (.ireturn, 1) := by decide +kernel
set_option maxRecDepth 20000 in
theorem ggX6_lose_X6_isOpenOf : GoodIn wsX6_lose wsX6_isOpenOf := goodIn_r _ [8, 1, 3, 9, 10, 11, 12, 13, 14, 15, 16, 17, 18, 23, 24, 25, 26, 27, 28, 29, 30, 31, 32, 33, 34, 35, 36] (by decide +kernel) (by decide +kernel)
set_option maxRecDepth 20000 in
theorem gX6_lose_X6_isOpenOf : GoodIn wsX6_lose (wsV RX6 114 RX6 yX6_isOpenOf wsX6_isOpenOf) := goodIn_app (goodIn_of _ (by decide +kernel)) ggX6_lose_X6_isOpenOf
set_option maxRecDepth 20000 in
theorem ggX6_lose_X10_put : GoodIn wsX6_lose wsX10_put := goodIn_r _ [22, 18, 34, 35, 36] (by decide +kernel) (by decide +kernel)
set_option maxRecDepth 20000 in
theorem gX6_lose_X10_put : GoodIn wsX6_lose (wsV RX6 118 RX10 yX10_put wsX10_put) := goodIn_app (goodIn_of _ (by decide +kernel)) ggX6_lose_X10_put
theorem dX6_lose_0 : decode cX6_lose 0 = .ok (.iconst 0, 1) := by decide +kernel
theorem dX6_lose_1 : decode cX6_lose 1 = .ok (.istore_n 3, 1) := by decide +kernel
theorem dX6_lose_2 : decode cX6_lose 2 = .ok (.iload_n 3, 1) := by decide +kernel
theorem dX6_lose_3 : decode cX6_lose 3 = .ok (.aload_n 0, 1) := by decide +kernel
theorem dX6_lose_4 : decode cX6_lose 4 = .ok (.getfield 19, 3) := by decide +kernel
theorem dX6_lose_7 : decode cX6_lose 7 = .ok (.getfield 35, 3) := by decide +kernel
theorem dX6_lose_10 : decode cX6_lose 10 = .ok (.if_icmp .ge 34, 3) := by decide +kernel
theorem dX6_lose_13 : decode cX6_lose 13 = .ok (.aload_n 0, 1) := by decide +kernel
theorem dX6_lose_14 : decode cX6_lose 14 = .ok (.aload_n 1, 1) := by decide +kernel
theorem dX6_lose_15 : decode cX6_lose 15 = .ok (.iload_n 2, 1) := by decide +kernel
theorem dX6_lose_16 : decode cX6_lose 16 = .ok (.iload_n 3, 1) := by decide +kernel
theorem dX6_lose_17 : decode cX6_lose 17 = .ok (.invokevirtual 114, 3) := by decide +kernel
theorem dX6_lose_20 : decode cX6_lose 20 = .ok (.ifCond .eq 18, 3) := by decide +kernel
theorem dX6_lose_23 : decode cX6_lose 23 = .ok (.aload_n 1, 1) := by decide +kernel
theorem dX6_lose_24 : decode cX6_lose 24 = .ok (.aload_n 0, 1) := by decide +kernel
theorem dX6_lose_25 : decode cX6_lose 25 = .ok (.getfield 19, 3) := by decide +kernel
theorem dX6_lose_28 : decode cX6_lose 28 = .ok (.getfield 65, 3) := by decide +kernel
theorem dX6_lose_31 : decode cX6_lose 31 = .ok (.iload_n 3, 1) := by decide +kernel
theorem dX6_lose_32 : decode cX6_lose 32 = .ok (.iaload, 1) := by decide +kernel
theorem dX6_lose_33 : decode cX6_lose 33 = .ok (.iconst 2, 1) := by decide +kernel
theorem dX6_lose_34 : decode cX6_lose 34 = .ok (.iconst 0, 1) := by decide +kernel
theorem dX6_lose_35 : decode cX6_lose 35 = .ok (.invokevirtual 118, 3) := by decide +kernel
theorem dX6_lose_38 : decode cX6_lose 38 = .ok (.iinc 3 1, 3) := by decide +kernel
theorem dX6_lose_41 : decode cX6_lose 41 = .ok (.goto (-39), 3) := by decide +kernel
theorem dX6_lose_44 : decode cX6_lose 44 = .ok (.return_, 1) := by decide +kernel
set_option maxRecDepth 20000 in
theorem ggX6_gain_X6_isOpenOf : GoodIn wsX6_gain wsX6_isOpenOf := goodIn_r _ [8, 1, 3, 9, 10, 11, 12, 13, 14, 15, 16, 17, 18, 41, 42, 43, 44, 45, 46, 47, 48, 49, 50, 51, 52, 53, 54] (by decide +kernel) (by decide +kernel)
set_option maxRecDepth 20000 in
theorem gX6_gain_X6_isOpenOf : GoodIn wsX6_gain (wsV RX6 114 RX6 yX6_isOpenOf wsX6_isOpenOf) := goodIn_app (goodIn_of _ (by decide +kernel)) ggX6_gain_X6_isOpenOf
set_option maxRecDepth 20000 in
theorem ggX6_gain_X6_gainOne : GoodIn wsX6_gain wsX6_gainOne := goodIn_r _ [22, 23, 15, 16, 12, 17, 18, 24, 25, 26, 7, 27, 28, 1, 29, 30, 31, 32, 33, 34, 35, 36, 37, 38, 39, 40, 52, 53, 54, 41, 42, 43, 44, 45, 46, 47, 48, 49, 50, 51] (by decide +kernel) (by decide +kernel)
set_option maxRecDepth 20000 in
theorem gX6_gain_X6_gainOne : GoodIn wsX6_gain (wsV RX6 122 RX6 yX6_gainOne wsX6_gainOne) := goodIn_app (goodIn_of _ (by decide +kernel)) ggX6_gain_X6_gainOne
theorem dX6_gain_0 : decode cX6_gain 0 = .ok (.iconst 0, 1) := by decide +kernel
theorem dX6_gain_1 : decode cX6_gain 1 = .ok (.istore_n 3, 1) := by decide +kernel
theorem dX6_gain_2 : decode cX6_gain 2 = .ok (.iload_n 3, 1) := by decide +kernel
theorem dX6_gain_3 : decode cX6_gain 3 = .ok (.aload_n 0, 1) := by decide +kernel
theorem dX6_gain_4 : decode cX6_gain 4 = .ok (.getfield 19, 3) := by decide +kernel
theorem dX6_gain_7 : decode cX6_gain 7 = .ok (.getfield 35, 3) := by decide +kernel
theorem dX6_gain_10 : decode cX6_gain 10 = .ok (.if_icmp .ge 34, 3) := by decide +kernel
theorem dX6_gain_13 : decode cX6_gain 13 = .ok (.aload_n 0, 1) := by decide +kernel
theorem dX6_gain_14 : decode cX6_gain 14 = .ok (.aload_n 1, 1) := by decide +kernel
theorem dX6_gain_15 : decode cX6_gain 15 = .ok (.iload_n 2, 1) := by decide +kernel
theorem dX6_gain_16 : decode cX6_gain 16 = .ok (.iload_n 3, 1) := by decide +kernel
theorem dX6_gain_17 : decode cX6_gain 17 = .ok (.invokevirtual 114, 3) := by decide +kernel
theorem dX6_gain_20 : decode cX6_gain 20 = .ok (.ifCond .eq 18, 3) := by decide +kernel
theorem dX6_gain_23 : decode cX6_gain 23 = .ok (.aload_n 0, 1) := by decide +kernel
theorem dX6_gain_24 : decode cX6_gain 24 = .ok (.aload_n 1, 1) := by decide +kernel
theorem dX6_gain_25 : decode cX6_gain 25 = .ok (.aload_n 0, 1) := by decide +kernel
theorem dX6_gain_26 : decode cX6_gain 26 = .ok (.getfield 19, 3) := by decide +kernel
theorem dX6_gain_29 : decode cX6_gain 29 = .ok (.getfield 65, 3) := by decide +kernel
theorem dX6_gain_32 : decode cX6_gain 32 = .ok (.iload_n 3, 1) := by decide +kernel
theorem dX6_gain_33 : decode cX6_gain 33 = .ok (.iaload, 1) := by decide +kernel
theorem dX6_gain_34 : decode cX6_gain 34 = .ok (.iload_n 3, 1) := by decide +kernel
theorem dX6_gain_35 : decode cX6_gain 35 = .ok (.invokevirtual 122, 3) := by decide +kernel
theorem dX6_gain_38 : decode cX6_gain 38 = .ok (.iinc 3 1, 3) := by decide +kernel
theorem dX6_gain_41 : decode cX6_gain 41 = .ok (.goto (-39), 3) := by decide +kernel
theorem dX6_gain_44 : decode cX6_gain 44 = .ok (.return_, 1) := by decide +kernel
set_option maxRecDepth 20000 in
theorem ggX6_gainOne_X10_get : GoodIn wsX6_gainOne wsX10_get := goodIn_r _ [5, 6, 26, 27, 28] (by decide +kernel) (by decide +kernel)
set_option maxRecDepth 20000 in
theorem gX6_gainOne_X10_get : GoodIn wsX6_gainOne (wsV RX6 68 RX10 yX10_get wsX10_get) := goodIn_app (goodIn_of _ (by decide +kernel)) ggX6_gainOne_X10_get
set_option maxRecDepth 20000 in
theorem ggX6_gainOne_X6_confidence : GoodIn wsX6_gainOne wsX6_confidence := goodIn_r _ [11, 12, 13, 14, 15, 16, 17, 18, 19, 20, 21, 26, 27, 28, 29, 30, 31, 32, 33, 34, 35, 36, 37, 38, 39] (by decide +kernel) (by decide +kernel)
set_option maxRecDepth 20000 in
theorem gX6_gainOne_X6_confidence : GoodIn wsX6_gainOne (wsV RX6 126 RX6 yX6_confidence wsX6_confidence) := goodIn_app (goodIn_of _ (by decide +kernel)) ggX6_gainOne_X6_confidence
set_option maxRecDepth 20000 in
theorem ggX6_gainOne_X10_put : GoodIn wsX6_gainOne wsX10_put := goodIn_r _ [25, 6, 26, 27, 28] (by decide +kernel) (by decide +kernel)
set_option maxRecDepth 20000 in
theorem gX6_gainOne_X10_put : GoodIn wsX6_gainOne (wsV RX6 118 RX10 yX10_put wsX10_put) := goodIn_app (goodIn_of _ (by decide +kernel)) ggX6_gainOne_X10_put
theorem dX6_gainOne_0 : decode cX6_gainOne 0 = .ok (.aload_n 1, 1) := by decide +kernel
theorem dX6_gainOne_1 : decode cX6_gainOne 1 = .ok (.iload_n 2, 1) := by decide +kernel
theorem dX6_gainOne_2 : decode cX6_gainOne 2 = .ok (.iconst 0, 1) := by decide +kernel
theorem dX6_gainOne_3 : decode cX6_gainOne 3 = .ok (.invokevirtual 68, 3) := by decide +kernel
theorem dX6_gainOne_6 : decode cX6_gainOne 6 = .ok (.istore 4, 2) := by decide +kernel
theorem dX6_gainOne_8 : decode cX6_gainOne 8 = .ok (.iload 4, 2) := by decide +kernel
theorem dX6_gainOne_10 : decode cX6_gainOne 10 = .ok (.iconst (-1), 1) := by decide +kernel
theorem dX6_gainOne_11 : decode cX6_gainOne 11 = .ok (.if_icmp .eq 19, 3) := by decide +kernel
theorem dX6_gainOne_14 : decode cX6_gainOne 14 = .ok (.aload_n 0, 1) := by decide +kernel
theorem dX6_gainOne_15 : decode cX6_gainOne 15 = .ok (.aload_n 1, 1) := by decide +kernel
theorem dX6_gainOne_16 : decode cX6_gainOne 16 = .ok (.iload_n 3, 1) := by decide +kernel
theorem dX6_gainOne_17 : decode cX6_gainOne 17 = .ok (.invokevirtual 126, 3) := by decide +kernel
theorem dX6_gainOne_20 : decode cX6_gainOne 20 = .ok (.aload_n 0, 1) := by decide +kernel
theorem dX6_gainOne_21 : decode cX6_gainOne 21 = .ok (.aload_n 1, 1) := by decide +kernel
theorem dX6_gainOne_22 : decode cX6_gainOne 22 = .ok (.iload 4, 2) := by decide +kernel
theorem dX6_gainOne_24 : decode cX6_gainOne 24 = .ok (.invokevirtual 126, 3) := by decide +kernel
theorem dX6_gainOne_27 : decode cX6_gainOne 27 = .ok (.if_icmp .le 10, 3) := by decide +kernel
theorem dX6_gainOne_30 : decode cX6_gainOne 30 = .ok (.aload_n 1, 1) := by decide +kernel
theorem dX6_gainOne_31 : decode cX6_gainOne 31 = .ok (.iload_n 2, 1) := by decide +kernel
theorem dX6_gainOne_32 : decode cX6_gainOne 32 = .ok (.iconst 0, 1) := by decide +kernel
theorem dX6_gainOne_33 : decode cX6_gainOne 33 = .ok (.iload_n 3, 1) := by decide +kernel
theorem dX6_gainOne_34 : decode cX6_gainOne 34 = .ok (.invokevirtual 118, 3) := by decide +kernel
theorem dX6_gainOne_37 : decode cX6_gainOne 37 = .ok (.aload_n 1, 1) := by decide +kernel
theorem dX6_gainOne_38 : decode cX6_gainOne 38 = .ok (.iload_n 2, 1) := by decide +kernel
theorem dX6_gainOne_39 : decode cX6_gainOne 39 = .ok (.iconst 1, 1) := by decide +kernel
theorem dX6_gainOne_40 : decode cX6_gainOne 40 = .ok (.invokevirtual 68, 3) := by decide +kernel
theorem dX6_gainOne_43 : decode cX6_gainOne 43 = .ok (.iload_n 3, 1) := by decide +kernel
theorem dX6_gainOne_44 : decode cX6_gainOne 44 = .ok (.if_icmp .ne 20, 3) := by decide +kernel
theorem dX6_gainOne_47 : decode cX6_gainOne 47 = .ok (.aload_n 1, 1) := by decide +kernel
theorem dX6_gainOne_48 : decode cX6_gainOne 48 = .ok (.iload_n 2, 1) := by decide +kernel
theorem dX6_gainOne_49 : decode cX6_gainOne 49 = .ok (.iconst 2, 1) := by decide +kernel
theorem dX6_gainOne_50 : decode cX6_gainOne 50 = .ok (.aload_n 1, 1) := by decide +kernel
theorem dX6_gainOne_51 : decode cX6_gainOne 51 = .ok (.iload_n 2, 1) := by decide +kernel
theorem dX6_gainOne_52 : decode cX6_gainOne 52 = .ok (.iconst 2, 1) := by decide +kernel
theorem dX6_gainOne_53 : decode cX6_gainOne 53 = .ok (.invokevirtual 68, 3) := by decide +kernel
theorem dX6_gainOne_56 : decode cX6_gainOne 56 = .ok (.iconst 1, 1) := by decide +kernel
theorem dX6_gainOne_57 : decode cX6_gainOne 57 = .ok (.iadd, 1) := by decide +kernel
theorem dX6_gainOne_58 : decode cX6_gainOne 58 = .ok (.invokevirtual 118, 3) := by decide +kernel
theorem dX6_gainOne_61 : decode cX6_gainOne 61 = .ok (.goto 17, 3) := by decide +kernel
theorem dX6_gainOne_64 : decode cX6_gainOne 64 = .ok (.aload_n 1, 1) := by decide +kernel
theorem dX6_gainOne_65 : decode cX6_gainOne 65 = .ok (.iload_n 2, 1) := by decide +kernel
theorem dX6_gainOne_66 : decode cX6_gainOne 66 = .ok (.iconst 1, 1) := by decide +kernel
theorem dX6_gainOne_67 : decode cX6_gainOne 67 = .ok (.iload_n 3, 1) := by decide +kernel
theorem dX6_gainOne_68 : decode cX6_gainOne 68 = .ok (.invokevirtual 118, 3) := by decide +kernel
theorem dX6_gainOne_71 : decode cX6_gainOne 71 = .ok (.aload_n 1, 1) := by decide +kernel
theorem dX6_gainOne_72 : decode cX6_gainOne 72 = .ok (.iload_n 2, 1) := by decide +kernel
theorem dX6_gainOne_73 : decode cX6_gainOne 73 = .ok (.iconst 2, 1) := by decide +kernel
theorem dX6_gainOne_74 : decode cX6_gainOne 74 = .ok (.iconst 1, 1) := by decide +kernel
theorem dX6_gainOne_75 : decode cX6_gainOne 75 = .ok (.invokevirtual 118, 3) := by decide +kernel
theorem dX6_gainOne_78 : decode cX6_gainOne 78 = .ok (.return_, 1) := by decide +kernel
set_option maxRecDepth 20000 in
theorem ggX6_accept_X6_isOpenOf : GoodIn wsX6_accept wsX6_isOpenOf := goodIn_r _ [8, 1, 3, 9, 10, 11, 12, 13, 14, 15, 16, 17, 18, 52, 53, 54, 55, 56, 57, 58, 59, 60, 61, 62, 63, 64, 65] (by decide +kernel) (by decide +kernel)
set_option maxRecDepth 20000 in
theorem gX6_accept_X6_isOpenOf : GoodIn wsX6_accept (wsV RX6 114 RX6 yX6_isOpenOf wsX6_isOpenOf) := goodIn_app (goodIn_of _ (by decide +kernel)) ggX6_accept_X6_isOpenOf
set_option maxRecDepth 20000 in
theorem ggX6_accept_X6_isRipe : GoodIn wsX6_accept wsX6_isRipe := goodIn_r _ [22, 23, 24, 25, 1, 26, 15, 16, 12, 17, 18, 27, 28, 29, 30, 31, 32, 33, 34, 35, 36, 37, 38, 39, 40, 41, 42, 7, 43, 2, 44, 45, 46, 47, 3, 9, 10, 11, 13, 14, 52, 53, 54, 66, 67, 68, 69, 70, 71, 72, 73, 74, 63, 64, 65, 55, 56, 57, 58, 59, 60, 61, 62] (by decide +kernel) (by decide +kernel)
set_option maxRecDepth 20000 in
theorem gX6_accept_X6_isRipe : GoodIn wsX6_accept (wsV RX6 129 RX6 yX6_isRipe wsX6_isRipe) := goodIn_app (goodIn_of _ (by decide +kernel)) ggX6_accept_X6_isRipe
set_option maxRecDepth 20000 in
theorem ggX6_accept_X10_put : GoodIn wsX6_accept wsX10_put := goodIn_r _ [51, 18, 63, 64, 65] (by decide +kernel) (by decide +kernel)
set_option maxRecDepth 20000 in
theorem gX6_accept_X10_put : GoodIn wsX6_accept (wsV RX6 118 RX10 yX10_put wsX10_put) := goodIn_app (goodIn_of _ (by decide +kernel)) ggX6_accept_X10_put
theorem dX6_accept_0 : decode cX6_accept 0 = .ok (.iconst 0, 1) := by decide +kernel
theorem dX6_accept_1 : decode cX6_accept 1 = .ok (.istore_n 3, 1) := by decide +kernel
theorem dX6_accept_2 : decode cX6_accept 2 = .ok (.iconst 0, 1) := by decide +kernel
theorem dX6_accept_3 : decode cX6_accept 3 = .ok (.istore 4, 2) := by decide +kernel
theorem dX6_accept_5 : decode cX6_accept 5 = .ok (.iload 4, 2) := by decide +kernel
theorem dX6_accept_7 : decode cX6_accept 7 = .ok (.aload_n 0, 1) := by decide +kernel
theorem dX6_accept_8 : decode cX6_accept 8 = .ok (.getfield 19, 3) := by decide +kernel
theorem dX6_accept_11 : decode cX6_accept 11 = .ok (.getfield 35, 3) := by decide +kernel
theorem dX6_accept_14 : decode cX6_accept 14 = .ok (.if_icmp .ge 59, 3) := by decide +kernel
theorem dX6_accept_17 : decode cX6_accept 17 = .ok (.aload_n 0, 1) := by decide +kernel
theorem dX6_accept_18 : decode cX6_accept 18 = .ok (.aload_n 1, 1) := by decide +kernel
theorem dX6_accept_19 : decode cX6_accept 19 = .ok (.iload_n 2, 1) := by decide +kernel
theorem dX6_accept_20 : decode cX6_accept 20 = .ok (.iload 4, 2) := by decide +kernel
theorem dX6_accept_22 : decode cX6_accept 22 = .ok (.invokevirtual 114, 3) := by decide +kernel
theorem dX6_accept_25 : decode cX6_accept 25 = .ok (.ifCond .eq 42, 3) := by decide +kernel
theorem dX6_accept_28 : decode cX6_accept 28 = .ok (.aload_n 0, 1) := by decide +kernel
theorem dX6_accept_29 : decode cX6_accept 29 = .ok (.aload_n 1, 1) := by decide +kernel
theorem dX6_accept_30 : decode cX6_accept 30 = .ok (.aload_n 0, 1) := by decide +kernel
theorem dX6_accept_31 : decode cX6_accept 31 = .ok (.getfield 19, 3) := by decide +kernel
theorem dX6_accept_34 : decode cX6_accept 34 = .ok (.getfield 65, 3) := by decide +kernel
theorem dX6_accept_37 : decode cX6_accept 37 = .ok (.iload 4, 2) := by decide +kernel
theorem dX6_accept_39 : decode cX6_accept 39 = .ok (.iaload, 1) := by decide +kernel
theorem dX6_accept_40 : decode cX6_accept 40 = .ok (.iload 4, 2) := by decide +kernel
theorem dX6_accept_42 : decode cX6_accept 42 = .ok (.invokevirtual 129, 3) := by decide +kernel
