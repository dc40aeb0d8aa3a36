theorem dX6_accept_45 : decode cX6_accept 45 = .ok (.ifCond .eq 22, 3) := by decide +kernel
theorem dX6_accept_48 : decode cX6_accept 48 = .ok (.aload_n 1, 1) := by decide +kernel
theorem dX6_accept_49 : decode cX6_accept 49 = .ok (.aload_n 0, 1) := by decide +kernel
theorem dX6_accept_50 : decode cX6_accept 50 = .ok (.getfield 19, 3) := by decide +kernel
theorem dX6_accept_53 : decode cX6_accept 53 = .ok (.getfield 65, 3) := by decide +kernel
theorem dX6_accept_56 : decode cX6_accept 56 = .ok (.iload 4, 2) := by decide +kernel
theorem dX6_accept_58 : decode cX6_accept 58 = .ok (.iaload, 1) := by decide +kernel
theorem dX6_accept_59 : decode cX6_accept 59 = .ok (.iconst 3, 1) := by decide +kernel
theorem dX6_accept_60 : decode cX6_accept 60 = .ok (.iload 4, 2) := by decide +kernel
theorem dX6_accept_62 : decode cX6_accept 62 = .ok (.invokevirtual 118, 3) := by decide +kernel
theorem dX6_accept_65 : decode cX6_accept 65 = .ok (.iconst 1, 1) := by decide +kernel
theorem dX6_accept_66 : decode cX6_accept 66 = .ok (.istore_n 3, 1) := by decide +kernel
theorem dX6_accept_67 : decode cX6_accept 67 = .ok (.iinc 4 1, 3) := by decide +kernel
theorem dX6_accept_70 : decode cX6_accept 70 = .ok (.goto (-65), 3) := by decide +kernel
theorem dX6_accept_73 : decode cX6_accept 73 = .ok (.iload_n 3, 1) := by decide +kernel
theorem dX6_accept_74 : decode cX6_accept 74 = .ok (.ireturn, 1) := by decide +kernel
set_option maxRecDepth 20000 in
theorem ggX6_isRipe_X10_get : GoodIn wsX6_isRipe wsX10_get := goodIn_r _ [9, 10, 52, 53, 54] (by decide +kernel) (by decide +kernel)
set_option maxRecDepth 20000 in
theorem gX6_isRipe_X10_get : GoodIn wsX6_isRipe (wsV RX6 68 RX10 yX10_get wsX10_get) := goodIn_app (goodIn_of _ (by decide +kernel)) ggX6_isRipe_X10_get
set_option maxRecDepth 20000 in
theorem ggX6_isRipe_X3_isAlone : GoodIn wsX6_isRipe wsX3_isAlone := goodIn_r _ [15, 16, 17, 55, 56, 57, 58, 59, 60, 61, 62] (by decide +kernel) (by decide +kernel)
set_option maxRecDepth 20000 in
theorem gX6_isRipe_X3_isAlone : GoodIn wsX6_isRipe (wsV RX6 138 RX3 yX3_isAlone wsX3_isAlone) := goodIn_app (goodIn_of _ (by decide +kernel)) ggX6_isRipe_X3_isAlone
set_option maxRecDepth 20000 in
theorem ggX6_isRipe_X3_parentBits : GoodIn wsX6_isRipe wsX3_parentBits := goodIn_r _ [21, 22, 23, 55, 56, 57, 58, 59, 60, 61, 62] (by decide +kernel) (by decide +kernel)
set_option maxRecDepth 20000 in
theorem gX6_isRipe_X3_parentBits : GoodIn wsX6_isRipe (wsV RX6 141 RX3 yX3_parentBits wsX3_parentBits) := goodIn_app (goodIn_of _ (by decide +kernel)) ggX6_isRipe_X3_parentBits
set_option maxRecDepth 20000 in
theorem ggX6_isRipe_X6_areAccepted : GoodIn wsX6_isRipe wsX6_areAccepted := goodIn_r _ [28, 4, 29, 30, 31, 32, 27, 33, 34, 35, 36, 37, 8, 38, 39, 6, 7, 9, 10, 5, 40, 41, 42, 55, 56, 57, 58, 59, 60, 61, 62, 52, 53, 54] (by decide +kernel) (by decide +kernel)
set_option maxRecDepth 20000 in
theorem gX6_isRipe_X6_areAccepted : GoodIn wsX6_isRipe (wsV RX6 144 RX6 yX6_areAccepted wsX6_areAccepted) := goodIn_app (goodIn_of _ (by decide +kernel)) ggX6_isRipe_X6_areAccepted
theorem dX6_isRipe_0 : decode cX6_isRipe 0 = .ok (.aload_n 1, 1) := by decide +kernel
theorem dX6_isRipe_1 : decode cX6_isRipe 1 = .ok (.iload_n 2, 1) := by decide +kernel
theorem dX6_isRipe_2 : decode cX6_isRipe 2 = .ok (.iconst 1, 1) := by decide +kernel
theorem dX6_isRipe_3 : decode cX6_isRipe 3 = .ok (.invokevirtual 68, 3) := by decide +kernel
theorem dX6_isRipe_6 : decode cX6_isRipe 6 = .ok (.iload_n 3, 1) := by decide +kernel
theorem dX6_isRipe_7 : decode cX6_isRipe 7 = .ok (.if_icmp .ne 13, 3) := by decide +kernel
theorem dX6_isRipe_10 : decode cX6_isRipe 10 = .ok (.aload_n 1, 1) := by decide +kernel
theorem dX6_isRipe_11 : decode cX6_isRipe 11 = .ok (.iload_n 2, 1) := by decide +kernel
theorem dX6_isRipe_12 : decode cX6_isRipe 12 = .ok (.iconst 0, 1) := by decide +kernel
theorem dX6_isRipe_13 : decode cX6_isRipe 13 = .ok (.invokevirtual 68, 3) := by decide +kernel
theorem dX6_isRipe_16 : decode cX6_isRipe 16 = .ok (.iload_n 3, 1) := by decide +kernel
theorem dX6_isRipe_17 : decode cX6_isRipe 17 = .ok (.if_icmp .eq 5, 3) := by decide +kernel
theorem dX6_isRipe_20 : decode cX6_isRipe 20 = .ok (.iconst 0, 1) := by decide +kernel
theorem dX6_isRipe_21 : decode cX6_isRipe 21 = .ok (.ireturn, 1) := by decide +kernel
theorem dX6_isRipe_22 : decode cX6_isRipe 22 = .ok (.aload_n 1, 1) := by decide +kernel
theorem dX6_isRipe_23 : decode cX6_isRipe 23 = .ok (.iload_n 2, 1) := by decide +kernel
theorem dX6_isRipe_24 : decode cX6_isRipe 24 = .ok (.iconst 2, 1) := by decide +kernel
theorem dX6_isRipe_25 : decode cX6_isRipe 25 = .ok (.invokevirtual 68, 3) := by decide +kernel
theorem dX6_isRipe_28 : decode cX6_isRipe 28 = .ok (.istore 4, 2) := by decide +kernel
theorem dX6_isRipe_30 : decode cX6_isRipe 30 = .ok (.iload 4, 2) := by decide +kernel
theorem dX6_isRipe_32 : decode cX6_isRipe 32 = .ok (.aload_n 0, 1) := by decide +kernel
theorem dX6_isRipe_33 : decode cX6_isRipe 33 = .ok (.getfield 9, 3) := by decide +kernel
theorem dX6_isRipe_36 : decode cX6_isRipe 36 = .ok (.getfield 132, 3) := by decide +kernel
theorem dX6_isRipe_39 : decode cX6_isRipe 39 = .ok (.if_icmp .ge 42, 3) := by decide +kernel
theorem dX6_isRipe_42 : decode cX6_isRipe 42 = .ok (.iload 4, 2) := by decide +kernel
theorem dX6_isRipe_44 : decode cX6_isRipe 44 = .ok (.aload_n 0, 1) := by decide +kernel
theorem dX6_isRipe_45 : decode cX6_isRipe 45 = .ok (.getfield 9, 3) := by decide +kernel
theorem dX6_isRipe_48 : decode cX6_isRipe 48 = .ok (.getfield 135, 3) := by decide +kernel
theorem dX6_isRipe_51 : decode cX6_isRipe 51 = .ok (.if_icmp .lt 34, 3) := by decide +kernel
theorem dX6_isRipe_54 : decode cX6_isRipe 54 = .ok (.aload_n 0, 1) := by decide +kernel
theorem dX6_isRipe_55 : decode cX6_isRipe 55 = .ok (.getfield 19, 3) := by decide +kernel
theorem dX6_isRipe_58 : decode cX6_isRipe 58 = .ok (.iload_n 3, 1) := by decide +kernel
theorem dX6_isRipe_59 : decode cX6_isRipe 59 = .ok (.invokevirtual 138, 3) := by decide +kernel
theorem dX6_isRipe_62 : decode cX6_isRipe 62 = .ok (.ifCond .eq 23, 3) := by decide +kernel
theorem dX6_isRipe_65 : decode cX6_isRipe 65 = .ok (.aload_n 0, 1) := by decide +kernel
theorem dX6_isRipe_66 : decode cX6_isRipe 66 = .ok (.aload_n 1, 1) := by decide +kernel
theorem dX6_isRipe_67 : decode cX6_isRipe 67 = .ok (.aload_n 0, 1) := by decide +kernel
theorem dX6_isRipe_68 : decode cX6_isRipe 68 = .ok (.getfield 19, 3) := by decide +kernel
theorem dX6_isRipe_71 : decode cX6_isRipe 71 = .ok (.iload_n 3, 1) := by decide +kernel
theorem dX6_isRipe_72 : decode cX6_isRipe 72 = .ok (.invokevirtual 141, 3) := by decide +kernel
theorem dX6_isRipe_75 : decode cX6_isRipe 75 = .ok (.invokevirtual 144, 3) := by decide +kernel
theorem dX6_isRipe_78 : decode cX6_isRipe 78 = .ok (.ifCond .eq 7, 3) := by decide +kernel
theorem dX6_isRipe_81 : decode cX6_isRipe 81 = .ok (.iconst 1, 1) := by decide +kernel
theorem dX6_isRipe_82 : decode cX6_isRipe 82 = .ok (.goto 4, 3) := by decide +kernel
theorem dX6_isRipe_85 : decode cX6_isRipe 85 = .ok (.iconst 0, 1) := by decide +kernel
theorem dX6_isRipe_86 : decode cX6_isRipe 86 = .ok (.ireturn, 1) := by decide +kernel
set_option maxRecDepth 20000 in
theorem ggX6_areAccepted_X6_standing : GoodIn wsX6_areAccepted wsX6_standing := goodIn_r _ [7, 1, 8, 9, 10, 11, 12, 13, 14, 15, 16, 17, 18, 19, 20, 21, 22, 23, 24, 25, 26, 27, 28, 29, 30, 31, 32, 33] (by decide +kernel) (by decide +kernel)
set_option maxRecDepth 20000 in
theorem gX6_areAccepted_X6_standing : GoodIn wsX6_areAccepted (wsV RX6 78 RX6 yX6_standing wsX6_standing) := goodIn_app (goodIn_of _ (by decide +kernel)) ggX6_areAccepted_X6_standing
theorem dX6_areAccepted_0 : decode cX6_areAccepted 0 = .ok (.iconst 0, 1) := by decide +kernel
theorem dX6_areAccepted_1 : decode cX6_areAccepted 1 = .ok (.istore_n 3, 1) := by decide +kernel
theorem dX6_areAccepted_2 : decode cX6_areAccepted 2 = .ok (.iload_n 3, 1) := by decide +kernel
theorem dX6_areAccepted_3 : decode cX6_areAccepted 3 = .ok (.aload_n 0, 1) := by decide +kernel
theorem dX6_areAccepted_4 : decode cX6_areAccepted 4 = .ok (.getfield 19, 3) := by decide +kernel
theorem dX6_areAccepted_7 : decode cX6_areAccepted 7 = .ok (.getfield 35, 3) := by decide +kernel
theorem dX6_areAccepted_10 : decode cX6_areAccepted 10 = .ok (.if_icmp .ge 30, 3) := by decide +kernel
theorem dX6_areAccepted_13 : decode cX6_areAccepted 13 = .ok (.iload_n 2, 1) := by decide +kernel
theorem dX6_areAccepted_14 : decode cX6_areAccepted 14 = .ok (.iload_n 3, 1) := by decide +kernel
theorem dX6_areAccepted_15 : decode cX6_areAccepted 15 = .ok (.ishr, 1) := by decide +kernel
theorem dX6_areAccepted_16 : decode cX6_areAccepted 16 = .ok (.iconst 1, 1) := by decide +kernel
theorem dX6_areAccepted_17 : decode cX6_areAccepted 17 = .ok (.iand, 1) := by decide +kernel
theorem dX6_areAccepted_18 : decode cX6_areAccepted 18 = .ok (.iconst 1, 1) := by decide +kernel
theorem dX6_areAccepted_19 : decode cX6_areAccepted 19 = .ok (.if_icmp .ne 15, 3) := by decide +kernel
theorem dX6_areAccepted_22 : decode cX6_areAccepted 22 = .ok (.aload_n 0, 1) := by decide +kernel
theorem dX6_areAccepted_23 : decode cX6_areAccepted 23 = .ok (.aload_n 1, 1) := by decide +kernel
theorem dX6_areAccepted_24 : decode cX6_areAccepted 24 = .ok (.iload_n 3, 1) := by decide +kernel
theorem dX6_areAccepted_25 : decode cX6_areAccepted 25 = .ok (.invokevirtual 78, 3) := by decide +kernel
theorem dX6_areAccepted_28 : decode cX6_areAccepted 28 = .ok (.iconst 1, 1) := by decide +kernel
theorem dX6_areAccepted_29 : decode cX6_areAccepted 29 = .ok (.if_icmp .eq 5, 3) := by decide +kernel
theorem dX6_areAccepted_32 : decode cX6_areAccepted 32 = .ok (.iconst 0, 1) := by decide +kernel
theorem dX6_areAccepted_33 : decode cX6_areAccepted 33 = .ok (.ireturn, 1) := by decide +kernel
theorem dX6_areAccepted_34 : decode cX6_areAccepted 34 = .ok (.iinc 3 1, 3) := by decide +kernel
theorem dX6_areAccepted_37 : decode cX6_areAccepted 37 = .ok (.goto (-35), 3) := by decide +kernel
theorem dX6_areAccepted_40 : decode cX6_areAccepted 40 = .ok (.iconst 1, 1) := by decide +kernel
theorem dX6_areAccepted_41 : decode cX6_areAccepted 41 = .ok (.ireturn, 1) := by decide +kernel
set_option maxRecDepth 20000 in
theorem ggX7_init_X7_take : GoodIn wsX7_init wsX7_take := goodIn_r _ [14, 15, 16, 17, 18, 4, 19, 20, 21, 22, 23, 9, 24, 25, 13, 26, 27, 28, 29, 30, 8, 31, 32, 33, 34, 35, 36, 37, 38, 39, 40, 41, 42, 43, 44, 45, 46, 47, 48, 49, 50, 51, 52, 53, 54, 55, 56, 57, 58, 59, 60, 61, 62] (by decide +kernel) (by decide +kernel)
set_option maxRecDepth 20000 in
theorem gX7_init_X7_take : GoodIn wsX7_init (wsV RX7 27 RX7 yX7_take wsX7_take) := goodIn_app (goodIn_of _ (by decide +kernel)) ggX7_init_X7_take
theorem dX7_init_0 : decode cX7_init 0 = .ok (.aload_n 0, 1) := by decide +kernel
theorem dX7_init_1 : decode cX7_init 1 = .ok (.invokespecial 3, 3) := by decide +kernel
theorem dX7_init_4 : decode cX7_init 4 = .ok (.aload_n 0, 1) := by decide +kernel
theorem dX7_init_5 : decode cX7_init 5 = .ok (.iconst 2, 1) := by decide +kernel
theorem dX7_init_6 : decode cX7_init 6 = .ok (.putfield 9, 3) := by decide +kernel
theorem dX7_init_9 : decode cX7_init 9 = .ok (.aload_n 0, 1) := by decide +kernel
theorem dX7_init_10 : decode cX7_init 10 = .ok (.iconst 1, 1) := by decide +kernel
theorem dX7_init_11 : decode cX7_init 11 = .ok (.putfield 15, 3) := by decide +kernel
theorem dX7_init_14 : decode cX7_init 14 = .ok (.aload_n 0, 1) := by decide +kernel
theorem dX7_init_15 : decode cX7_init 15 = .ok (.bipush 8, 2) := by decide +kernel
theorem dX7_init_17 : decode cX7_init 17 = .ok (.bipush 35, 2) := by decide +kernel
theorem dX7_init_19 : decode cX7_init 19 = .ok (.multianewarray 18 2, 4) := by decide +kernel
theorem dX7_init_23 : decode cX7_init 23 = .ok (.putfield 20, 3) := by decide +kernel
theorem dX7_init_26 : decode cX7_init 26 = .ok (.aload_n 0, 1) := by decide +kernel
theorem dX7_init_27 : decode cX7_init 27 = .ok (.bipush 8, 2) := by decide +kernel
theorem dX7_init_29 : decode cX7_init 29 = .ok (.newarray .int, 2) := by decide +kernel
theorem dX7_init_31 : decode cX7_init 31 = .ok (.putfield 23, 3) := by decide +kernel
theorem dX7_init_34 : decode cX7_init 34 = .ok (.aload_n 0, 1) := by decide +kernel
theorem dX7_init_35 : decode cX7_init 35 = .ok (.iconst 4, 1) := by decide +kernel
theorem dX7_init_36 : decode cX7_init 36 = .ok (.iconst 2, 1) := by decide +kernel
theorem dX7_init_37 : decode cX7_init 37 = .ok (.iconst 2, 1) := by decide +kernel
theorem dX7_init_38 : decode cX7_init 38 = .ok (.iconst 3, 1) := by decide +kernel
theorem dX7_init_39 : decode cX7_init 39 = .ok (.invokevirtual 27, 3) := by decide +kernel
theorem dX7_init_42 : decode cX7_init 42 = .ok (.return_, 1) := by decide +kernel
theorem dX7_fits_0 : decode cX7_fits 0 = .ok (.iload_n 0, 1) := by decide +kernel
theorem dX7_fits_1 : decode cX7_fits 1 = .ok (.iconst 2, 1) := by decide +kernel
theorem dX7_fits_2 : decode cX7_fits 2 = .ok (.if_icmp .lt 51, 3) := by decide +kernel
theorem dX7_fits_5 : decode cX7_fits 5 = .ok (.iload_n 0, 1) := by decide +kernel
theorem dX7_fits_6 : decode cX7_fits 6 = .ok (.bipush 8, 2) := by decide +kernel
theorem dX7_fits_8 : decode cX7_fits 8 = .ok (.if_icmp .gt 45, 3) := by decide +kernel
theorem dX7_fits_11 : decode cX7_fits 11 = .ok (.iload_n 1, 1) := by decide +kernel
theorem dX7_fits_12 : decode cX7_fits 12 = .ok (.iconst 1, 1) := by decide +kernel
theorem dX7_fits_13 : decode cX7_fits 13 = .ok (.if_icmp .lt 40, 3) := by decide +kernel
theorem dX7_fits_16 : decode cX7_fits 16 = .ok (.iload_n 1, 1) := by decide +kernel
theorem dX7_fits_17 : decode cX7_fits 17 = .ok (.iload_n 0, 1) := by decide +kernel
theorem dX7_fits_18 : decode cX7_fits 18 = .ok (.if_icmp .ge 35, 3) := by decide +kernel
theorem dX7_fits_21 : decode cX7_fits 21 = .ok (.iload_n 2, 1) := by decide +kernel
theorem dX7_fits_22 : decode cX7_fits 22 = .ok (.iconst 1, 1) := by decide +kernel
theorem dX7_fits_23 : decode cX7_fits 23 = .ok (.if_icmp .lt 30, 3) := by decide +kernel
theorem dX7_fits_26 : decode cX7_fits 26 = .ok (.iload_n 2, 1) := by decide +kernel
theorem dX7_fits_27 : decode cX7_fits 27 = .ok (.iload_n 1, 1) := by decide +kernel
theorem dX7_fits_28 : decode cX7_fits 28 = .ok (.if_icmp .gt 25, 3) := by decide +kernel
theorem dX7_fits_31 : decode cX7_fits 31 = .ok (.iconst 2, 1) := by decide +kernel
theorem dX7_fits_32 : decode cX7_fits 32 = .ok (.iload_n 2, 1) := by decide +kernel
theorem dX7_fits_33 : decode cX7_fits 33 = .ok (.imul, 1) := by decide +kernel
theorem dX7_fits_34 : decode cX7_fits 34 = .ok (.iload_n 1, 1) := by decide +kernel
theorem dX7_fits_35 : decode cX7_fits 35 = .ok (.if_icmp .le 18, 3) := by decide +kernel
theorem dX7_fits_38 : decode cX7_fits 38 = .ok (.iload_n 3, 1) := by decide +kernel
theorem dX7_fits_39 : decode cX7_fits 39 = .ok (.iconst 1, 1) := by decide +kernel
theorem dX7_fits_40 : decode cX7_fits 40 = .ok (.if_icmp .lt 13, 3) := by decide +kernel
theorem dX7_fits_43 : decode cX7_fits 43 = .ok (.iload_n 3, 1) := by decide +kernel
theorem dX7_fits_44 : decode cX7_fits 44 = .ok (.bipush 15, 2) := by decide +kernel
theorem dX7_fits_46 : decode cX7_fits 46 = .ok (.if_icmp .gt 7, 3) := by decide +kernel
theorem dX7_fits_49 : decode cX7_fits 49 = .ok (.iconst 1, 1) := by decide +kernel
theorem dX7_fits_50 : decode cX7_fits 50 = .ok (.goto 4, 3) := by decide +kernel
theorem dX7_fits_53 : decode cX7_fits 53 = .ok (.iconst 0, 1) := by decide +kernel
theorem dX7_fits_54 : decode cX7_fits 54 = .ok (.ireturn, 1) := by decide +kernel
set_option maxRecDepth 20000 in
theorem ggX7_take_X7_choose : GoodIn wsX7_take wsX7_choose := goodIn_r _ [15] (by decide +kernel) (by decide +kernel)
set_option maxRecDepth 20000 in
theorem gX7_take_X7_choose : GoodIn wsX7_take (va_wsS RX7 49 yX7_choose wsX7_choose) := goodIn_app (goodIn_of _ (by decide +kernel)) ggX7_take_X7_choose
set_option maxRecDepth 20000 in
theorem ggX7_take_X7_listSamples : GoodIn wsX7_take wsX7_listSamples := goodIn_r _ [19, 20, 21, 22, 23, 14, 24, 1, 25, 26, 27, 28, 2, 29, 30, 31, 32, 33, 34, 35, 36, 37, 38, 39, 44, 45, 46, 47, 48, 49, 50, 51, 52] (by decide +kernel) (by decide +kernel)
set_option maxRecDepth 20000 in
theorem gX7_take_X7_listSamples : GoodIn wsX7_take (wsV RX7 55 RX7 yX7_listSamples wsX7_listSamples) := goodIn_app (goodIn_of _ (by decide +kernel)) ggX7_take_X7_listSamples
set_option maxRecDepth 20000 in
theorem ggX7_take_X7_countCarried : GoodIn wsX7_take wsX7_countCarried := goodIn_r _ [43, 3, 2, 1, 12, 13, 14, 15, 44, 45, 46, 47, 48, 49, 50, 51, 52] (by decide +kernel) (by decide +kernel)
set_option maxRecDepth 20000 in
theorem gX7_take_X7_countCarried : GoodIn wsX7_take (wsV RX7 59 RX7 yX7_countCarried wsX7_countCarried) := goodIn_app (goodIn_of _ (by decide +kernel)) ggX7_take_X7_countCarried
theorem dX7_take_0 : decode cX7_take 0 = .ok (.aload_n 0, 1) := by decide +kernel
theorem dX7_take_1 : decode cX7_take 1 = .ok (.iload_n 1, 1) := by decide +kernel
theorem dX7_take_2 : decode cX7_take 2 = .ok (.putfield 31, 3) := by decide +kernel
theorem dX7_take_5 : decode cX7_take 5 = .ok (.aload_n 0, 1) := by decide +kernel
theorem dX7_take_6 : decode cX7_take 6 = .ok (.iload_n 2, 1) := by decide +kernel
theorem dX7_take_7 : decode cX7_take 7 = .ok (.putfield 34, 3) := by decide +kernel
theorem dX7_take_10 : decode cX7_take 10 = .ok (.aload_n 0, 1) := by decide +kernel
theorem dX7_take_11 : decode cX7_take 11 = .ok (.iload_n 3, 1) := by decide +kernel
theorem dX7_take_12 : decode cX7_take 12 = .ok (.putfield 37, 3) := by decide +kernel
theorem dX7_take_15 : decode cX7_take 15 = .ok (.aload_n 0, 1) := by decide +kernel
theorem dX7_take_16 : decode cX7_take 16 = .ok (.iload 4, 2) := by decide +kernel
theorem dX7_take_18 : decode cX7_take 18 = .ok (.putfield 40, 3) := by decide +kernel
theorem dX7_take_21 : decode cX7_take 21 = .ok (.aload_n 0, 1) := by decide +kernel
theorem dX7_take_22 : decode cX7_take 22 = .ok (.aload_n 0, 1) := by decide +kernel
theorem dX7_take_23 : decode cX7_take 23 = .ok (.getfield 9, 3) := by decide +kernel
theorem dX7_take_26 : decode cX7_take 26 = .ok (.aload_n 0, 1) := by decide +kernel
theorem dX7_take_27 : decode cX7_take 27 = .ok (.getfield 40, 3) := by decide +kernel
theorem dX7_take_30 : decode cX7_take 30 = .ok (.invokestatic 43, 3) := by decide +kernel
theorem dX7_take_33 : decode cX7_take 33 = .ok (.putfield 9, 3) := by decide +kernel
theorem dX7_take_36 : decode cX7_take 36 = .ok (.aload_n 0, 1) := by decide +kernel
theorem dX7_take_37 : decode cX7_take 37 = .ok (.aload_n 0, 1) := by decide +kernel
theorem dX7_take_38 : decode cX7_take 38 = .ok (.getfield 31, 3) := by decide +kernel
theorem dX7_take_41 : decode cX7_take 41 = .ok (.iconst 1, 1) := by decide +kernel
theorem dX7_take_42 : decode cX7_take 42 = .ok (.isub, 1) := by decide +kernel
theorem dX7_take_43 : decode cX7_take 43 = .ok (.aload_n 0, 1) := by decide +kernel
theorem dX7_take_44 : decode cX7_take 44 = .ok (.getfield 34, 3) := by decide +kernel
theorem dX7_take_47 : decode cX7_take 47 = .ok (.invokestatic 49, 3) := by decide +kernel
theorem dX7_take_50 : decode cX7_take 50 = .ok (.putfield 52, 3) := by decide +kernel
theorem dX7_take_53 : decode cX7_take 53 = .ok (.iconst 0, 1) := by decide +kernel
theorem dX7_take_54 : decode cX7_take 54 = .ok (.istore 5, 2) := by decide +kernel
theorem dX7_take_56 : decode cX7_take 56 = .ok (.iload 5, 2) := by decide +kernel
theorem dX7_take_58 : decode cX7_take 58 = .ok (.aload_n 0, 1) := by decide +kernel
theorem dX7_take_59 : decode cX7_take 59 = .ok (.getfield 31, 3) := by decide +kernel
theorem dX7_take_62 : decode cX7_take 62 = .ok (.if_icmp .ge 28, 3) := by decide +kernel
theorem dX7_take_65 : decode cX7_take 65 = .ok (.aload_n 0, 1) := by decide +kernel
theorem dX7_take_66 : decode cX7_take 66 = .ok (.iload 5, 2) := by decide +kernel
theorem dX7_take_68 : decode cX7_take 68 = .ok (.invokevirtual 55, 3) := by decide +kernel
theorem dX7_take_71 : decode cX7_take 71 = .ok (.aload_n 0, 1) := by decide +kernel
theorem dX7_take_72 : decode cX7_take 72 = .ok (.getfield 23, 3) := by decide +kernel
theorem dX7_take_75 : decode cX7_take 75 = .ok (.iload 5, 2) := by decide +kernel
theorem dX7_take_77 : decode cX7_take 77 = .ok (.aload_n 0, 1) := by decide +kernel
theorem dX7_take_78 : decode cX7_take 78 = .ok (.iload 5, 2) := by decide +kernel
theorem dX7_take_80 : decode cX7_take 80 = .ok (.invokevirtual 59, 3) := by decide +kernel
theorem dX7_take_83 : decode cX7_take 83 = .ok (.iastore, 1) := by decide +kernel
theorem dX7_take_84 : decode cX7_take 84 = .ok (.iinc 5 1, 3) := by decide +kernel
theorem dX7_take_87 : decode cX7_take 87 = .ok (.goto (-31), 3) := by decide +kernel
theorem dX7_take_90 : decode cX7_take 90 = .ok (.return_, 1) := by decide +kernel
set_option maxRecDepth 20000 in
theorem ggX7_listSamples_X7_allNodes : GoodIn wsX7_listSamples wsX7_allNodes := goodIn_r _ [6, 7, 24, 25, 26, 27, 28, 29, 30, 31, 32] (by decide +kernel) (by decide +kernel)
set_option maxRecDepth 20000 in
theorem gX7_listSamples_X7_allNodes : GoodIn wsX7_listSamples (wsV RX7 63 RX7 yX7_allNodes wsX7_allNodes) := goodIn_app (goodIn_of _ (by decide +kernel)) ggX7_listSamples_X7_allNodes
set_option maxRecDepth 20000 in
theorem ggX7_listSamples_X7_isSample : GoodIn wsX7_listSamples wsX7_isSample := goodIn_r _ [11, 12, 13, 14, 15, 5, 16, 7, 2, 3, 4, 6, 17, 18, 19, 20, 21, 22, 23, 24, 25, 26, 27, 28, 29, 30, 31, 32] (by decide +kernel) (by decide +kernel)
set_option maxRecDepth 20000 in
theorem gX7_listSamples_X7_isSample : GoodIn wsX7_listSamples (wsV RX7 67 RX7 yX7_isSample wsX7_isSample) := goodIn_app (goodIn_of _ (by decide +kernel)) ggX7_listSamples_X7_isSample
theorem dX7_listSamples_0 : decode cX7_listSamples 0 = .ok (.iconst 0, 1) := by decide +kernel
theorem dX7_listSamples_1 : decode cX7_listSamples 1 = .ok (.istore_n 2, 1) := by decide +kernel
theorem dX7_listSamples_2 : decode cX7_listSamples 2 = .ok (.iconst 0, 1) := by decide +kernel
theorem dX7_listSamples_3 : decode cX7_listSamples 3 = .ok (.istore_n 3, 1) := by decide +kernel
theorem dX7_listSamples_4 : decode cX7_listSamples 4 = .ok (.iload_n 3, 1) := by decide +kernel
theorem dX7_listSamples_5 : decode cX7_listSamples 5 = .ok (.aload_n 0, 1) := by decide +kernel
theorem dX7_listSamples_6 : decode cX7_listSamples 6 = .ok (.invokevirtual 63, 3) := by decide +kernel
theorem dX7_listSamples_9 : decode cX7_listSamples 9 = .ok (.if_icmp .gt 36, 3) := by decide +kernel
theorem dX7_listSamples_12 : decode cX7_listSamples 12 = .ok (.iload_n 2, 1) := by decide +kernel
theorem dX7_listSamples_13 : decode cX7_listSamples 13 = .ok (.bipush 35, 2) := by decide +kernel
theorem dX7_listSamples_15 : decode cX7_listSamples 15 = .ok (.if_icmp .ge 30, 3) := by decide +kernel
theorem dX7_listSamples_18 : decode cX7_listSamples 18 = .ok (.aload_n 0, 1) := by decide +kernel
theorem dX7_listSamples_19 : decode cX7_listSamples 19 = .ok (.iload_n 1, 1) := by decide +kernel
theorem dX7_listSamples_20 : decode cX7_listSamples 20 = .ok (.iload_n 3, 1) := by decide +kernel
theorem dX7_listSamples_21 : decode cX7_listSamples 21 = .ok (.invokevirtual 67, 3) := by decide +kernel
theorem dX7_listSamples_24 : decode cX7_listSamples 24 = .ok (.ifCond .eq 15, 3) := by decide +kernel
theorem dX7_listSamples_27 : decode cX7_listSamples 27 = .ok (.aload_n 0, 1) := by decide +kernel
theorem dX7_listSamples_28 : decode cX7_listSamples 28 = .ok (.getfield 20, 3) := by decide +kernel
theorem dX7_listSamples_31 : decode cX7_listSamples 31 = .ok (.iload_n 1, 1) := by decide +kernel
theorem dX7_listSamples_32 : decode cX7_listSamples 32 = .ok (.aaload, 1) := by decide +kernel
theorem dX7_listSamples_33 : decode cX7_listSamples 33 = .ok (.iload_n 2, 1) := by decide +kernel
theorem dX7_listSamples_34 : decode cX7_listSamples 34 = .ok (.iload_n 3, 1) := by decide +kernel
theorem dX7_listSamples_35 : decode cX7_listSamples 35 = .ok (.iastore, 1) := by decide +kernel
theorem dX7_listSamples_36 : decode cX7_listSamples 36 = .ok (.iinc 2 1, 3) := by decide +kernel
theorem dX7_listSamples_39 : decode cX7_listSamples 39 = .ok (.iinc 3 1, 3) := by decide +kernel
theorem dX7_listSamples_42 : decode cX7_listSamples 42 = .ok (.goto (-38), 3) := by decide +kernel
theorem dX7_listSamples_45 : decode cX7_listSamples 45 = .ok (.return_, 1) := by decide +kernel
set_option maxRecDepth 20000 in
theorem ggX7_countCarried_X7_choose : GoodIn wsX7_countCarried wsX7_choose := goodIn_r _ [7] (by decide +kernel) (by decide +kernel)
set_option maxRecDepth 20000 in
theorem gX7_countCarried_X7_choose : GoodIn wsX7_countCarried (va_wsS RX7 49 yX7_choose wsX7_choose) := goodIn_app (goodIn_of _ (by decide +kernel)) ggX7_countCarried_X7_choose
theorem dX7_countCarried_0 : decode cX7_countCarried 0 = .ok (.iconst 0, 1) := by decide +kernel
theorem dX7_countCarried_1 : decode cX7_countCarried 1 = .ok (.istore_n 2, 1) := by decide +kernel
theorem dX7_countCarried_2 : decode cX7_countCarried 2 = .ok (.aload_n 0, 1) := by decide +kernel
theorem dX7_countCarried_3 : decode cX7_countCarried 3 = .ok (.getfield 37, 3) := by decide +kernel
theorem dX7_countCarried_6 : decode cX7_countCarried 6 = .ok (.istore_n 3, 1) := by decide +kernel
theorem dX7_countCarried_7 : decode cX7_countCarried 7 = .ok (.iload_n 3, 1) := by decide +kernel
theorem dX7_countCarried_8 : decode cX7_countCarried 8 = .ok (.aload_n 0, 1) := by decide +kernel
theorem dX7_countCarried_9 : decode cX7_countCarried 9 = .ok (.getfield 34, 3) := by decide +kernel
theorem dX7_countCarried_12 : decode cX7_countCarried 12 = .ok (.if_icmp .gt 35, 3) := by decide +kernel
theorem dX7_countCarried_15 : decode cX7_countCarried 15 = .ok (.iload_n 2, 1) := by decide +kernel
theorem dX7_countCarried_16 : decode cX7_countCarried 16 = .ok (.iload_n 1, 1) := by decide +kernel
theorem dX7_countCarried_17 : decode cX7_countCarried 17 = .ok (.iload_n 3, 1) := by decide +kernel
theorem dX7_countCarried_18 : decode cX7_countCarried 18 = .ok (.invokestatic 49, 3) := by decide +kernel
theorem dX7_countCarried_21 : decode cX7_countCarried 21 = .ok (.aload_n 0, 1) := by decide +kernel
theorem dX7_countCarried_22 : decode cX7_countCarried 22 = .ok (.getfield 31, 3) := by decide +kernel
theorem dX7_countCarried_25 : decode cX7_countCarried 25 = .ok (.iconst 1, 1) := by decide +kernel
theorem dX7_countCarried_26 : decode cX7_countCarried 26 = .ok (.isub, 1) := by decide +kernel
theorem dX7_countCarried_27 : decode cX7_countCarried 27 = .ok (.iload_n 1, 1) := by decide +kernel
theorem dX7_countCarried_28 : decode cX7_countCarried 28 = .ok (.isub, 1) := by decide +kernel
theorem dX7_countCarried_29 : decode cX7_countCarried 29 = .ok (.aload_n 0, 1) := by decide +kernel
theorem dX7_countCarried_30 : decode cX7_countCarried 30 = .ok (.getfield 34, 3) := by decide +kernel
theorem dX7_countCarried_33 : decode cX7_countCarried 33 = .ok (.iload_n 3, 1) := by decide +kernel
theorem dX7_countCarried_34 : decode cX7_countCarried 34 = .ok (.isub, 1) := by decide +kernel
theorem dX7_countCarried_35 : decode cX7_countCarried 35 = .ok (.invokestatic 49, 3) := by decide +kernel
theorem dX7_countCarried_38 : decode cX7_countCarried 38 = .ok (.imul, 1) := by decide +kernel
theorem dX7_countCarried_39 : decode cX7_countCarried 39 = .ok (.iadd, 1) := by decide +kernel
theorem dX7_countCarried_40 : decode cX7_countCarried 40 = .ok (.istore_n 2, 1) := by decide +kernel
theorem dX7_countCarried_41 : decode cX7_countCarried 41 = .ok (.iinc 3 1, 3) := by decide +kernel
theorem dX7_countCarried_44 : decode cX7_countCarried 44 = .ok (.goto (-37), 3) := by decide +kernel
theorem dX7_countCarried_47 : decode cX7_countCarried 47 = .ok (.iload_n 2, 1) := by decide +kernel
theorem dX7_countCarried_48 : decode cX7_countCarried 48 = .ok (.ireturn, 1) := by decide +kernel
theorem dX7_choose_0 : decode cX7_choose 0 = .ok (.iload_n 1, 1) := by decide +kernel
theorem dX7_choose_1 : decode cX7_choose 1 = .ok (.ifCond .lt 8, 3) := by decide +kernel
theorem dX7_choose_4 : decode cX7_choose 4 = .ok (.iload_n 1, 1) := by decide +kernel
theorem dX7_choose_5 : decode cX7_choose 5 = .ok (.iload_n 0, 1) := by decide +kernel
theorem dX7_choose_6 : decode cX7_choose 6 = .ok (.if_icmp .le 5, 3) := by decide +kernel
theorem dX7_choose_9 : decode cX7_choose 9 = .ok (.iconst 0, 1) := by decide +kernel
theorem dX7_choose_10 : decode cX7_choose 10 = .ok (.ireturn, 1) := by decide +kernel
theorem dX7_choose_11 : decode cX7_choose 11 = .ok (.iconst 1, 1) := by decide +kernel
theorem dX7_choose_12 : decode cX7_choose 12 = .ok (.istore_n 2, 1) := by decide +kernel
theorem dX7_choose_13 : decode cX7_choose 13 = .ok (.iconst 0, 1) := by decide +kernel
theorem dX7_choose_14 : decode cX7_choose 14 = .ok (.istore_n 3, 1) := by decide +kernel
theorem dX7_choose_15 : decode cX7_choose 15 = .ok (.iload_n 3, 1) := by decide +kernel
theorem dX7_choose_16 : decode cX7_choose 16 = .ok (.iload_n 1, 1) := by decide +kernel
theorem dX7_choose_17 : decode cX7_choose 17 = .ok (.if_icmp .ge 19, 3) := by decide +kernel
theorem dX7_choose_20 : decode cX7_choose 20 = .ok (.iload_n 2, 1) := by decide +kernel
theorem dX7_choose_21 : decode cX7_choose 21 = .ok (.iload_n 0, 1) := by decide +kernel
theorem dX7_choose_22 : decode cX7_choose 22 = .ok (.iload_n 3, 1) := by decide +kernel
theorem dX7_choose_23 : decode cX7_choose 23 = .ok (.isub, 1) := by decide +kernel
theorem dX7_choose_24 : decode cX7_choose 24 = .ok (.imul, 1) := by decide +kernel
theorem dX7_choose_25 : decode cX7_choose 25 = .ok (.iload_n 3, 1) := by decide +kernel
theorem dX7_choose_26 : decode cX7_choose 26 = .ok (.iconst 1, 1) := by decide +kernel
theorem dX7_choose_27 : decode cX7_choose 27 = .ok (.iadd, 1) := by decide +kernel
theorem dX7_choose_28 : decode cX7_choose 28 = .ok (.idiv, 1) := by decide +kernel
theorem dX7_choose_29 : decode cX7_choose 29 = .ok (.istore_n 2, 1) := by decide +kernel
theorem dX7_choose_30 : decode cX7_choose 30 = .ok (.iinc 3 1, 3) := by decide +kernel
theorem dX7_choose_33 : decode cX7_choose 33 = .ok (.goto (-18), 3) := by decide +kernel
theorem dX7_choose_36 : decode cX7_choose 36 = .ok (.iload_n 2, 1) := by decide +kernel
theorem dX7_choose_37 : decode cX7_choose 37 = .ok (.ireturn, 1) := by decide +kernel
theorem dX7_allNodes_0 : decode cX7_allNodes 0 = .ok (.iconst 1, 1) := by decide +kernel
theorem dX7_allNodes_1 : decode cX7_allNodes 1 = .ok (.aload_n 0, 1) := by decide +kernel
theorem dX7_allNodes_2 : decode cX7_allNodes 2 = .ok (.getfield 31, 3) := by decide +kernel
theorem dX7_allNodes_5 : decode cX7_allNodes 5 = .ok (.ishl, 1) := by decide +kernel
theorem dX7_allNodes_6 : decode cX7_allNodes 6 = .ok (.iconst 1, 1) := by decide +kernel
theorem dX7_allNodes_7 : decode cX7_allNodes 7 = .ok (.isub, 1) := by decide +kernel
theorem dX7_allNodes_8 : decode cX7_allNodes 8 = .ok (.ireturn, 1) := by decide +kernel
theorem dX7_isNode_0 : decode cX7_isNode 0 = .ok (.iload_n 1, 1) := by decide +kernel
theorem dX7_isNode_1 : decode cX7_isNode 1 = .ok (.ifCond .lt 15, 3) := by decide +kernel
theorem dX7_isNode_4 : decode cX7_isNode 4 = .ok (.iload_n 1, 1) := by decide +kernel
theorem dX7_isNode_5 : decode cX7_isNode 5 = .ok (.aload_n 0, 1) := by decide +kernel
theorem dX7_isNode_6 : decode cX7_isNode 6 = .ok (.getfield 31, 3) := by decide +kernel
theorem dX7_isNode_9 : decode cX7_isNode 9 = .ok (.if_icmp .ge 7, 3) := by decide +kernel
theorem dX7_isNode_12 : decode cX7_isNode 12 = .ok (.iconst 1, 1) := by decide +kernel
theorem dX7_isNode_13 : decode cX7_isNode 13 = .ok (.goto 4, 3) := by decide +kernel
theorem dX7_isNode_16 : decode cX7_isNode 16 = .ok (.iconst 0, 1) := by decide +kernel
theorem dX7_isNode_17 : decode cX7_isNode 17 = .ok (.ireturn, 1) := by decide +kernel
set_option maxRecDepth 20000 in
theorem ggX7_isSample_X7_isNode : GoodIn wsX7_isSample wsX7_isNode := goodIn_r _ [6, 7, 19, 20, 21, 22, 23, 24, 25, 26, 27] (by decide +kernel) (by decide +kernel)
set_option maxRecDepth 20000 in
theorem gX7_isSample_X7_isNode : GoodIn wsX7_isSample (wsV RX7 71 RX7 yX7_isNode wsX7_isNode) := goodIn_app (goodIn_of _ (by decide +kernel)) ggX7_isSample_X7_isNode
set_option maxRecDepth 20000 in
theorem ggX7_isSample_X7_allNodes : GoodIn wsX7_isSample wsX7_allNodes := goodIn_r _ [11, 7, 19, 20, 21, 22, 23, 24, 25, 26, 27] (by decide +kernel) (by decide +kernel)
set_option maxRecDepth 20000 in
theorem gX7_isSample_X7_allNodes : GoodIn wsX7_isSample (wsV RX7 63 RX7 yX7_allNodes wsX7_allNodes) := goodIn_app (goodIn_of _ (by decide +kernel)) ggX7_isSample_X7_allNodes
set_option maxRecDepth 20000 in
theorem ggX7_isSample_J6_bitCount_0f7a4 : GoodIn wsX7_isSample wsJ6_bitCount_0f7a4 := goodIn_r _ [15, 16, 17, 18] (by decide +kernel) (by decide +kernel)
set_option maxRecDepth 20000 in
theorem gX7_isSample_J6_bitCount_0f7a4 : GoodIn wsX7_isSample (va_wsS RX7 75 yJ6_bitCount_0f7a4 wsJ6_bitCount_0f7a4) := goodIn_app (goodIn_of _ (by decide +kernel)) ggX7_isSample_J6_bitCount_0f7a4
theorem dX7_isSample_0 : decode cX7_isSample 0 = .ok (.aload_n 0, 1) := by decide +kernel
theorem dX7_isSample_1 : decode cX7_isSample 1 = .ok (.iload_n 1, 1) := by decide +kernel
theorem dX7_isSample_2 : decode cX7_isSample 2 = .ok (.invokevirtual 71, 3) := by decide +kernel
theorem dX7_isSample_5 : decode cX7_isSample 5 = .ok (.ifCond .eq 35, 3) := by decide +kernel
theorem dX7_isSample_8 : decode cX7_isSample 8 = .ok (.iload_n 2, 1) := by decide +kernel
theorem dX7_isSample_9 : decode cX7_isSample 9 = .ok (.aload_n 0, 1) := by decide +kernel
theorem dX7_isSample_10 : decode cX7_isSample 10 = .ok (.invokevirtual 63, 3) := by decide +kernel
theorem dX7_isSample_13 : decode cX7_isSample 13 = .ok (.iconst 1, 1) := by decide +kernel
theorem dX7_isSample_14 : decode cX7_isSample 14 = .ok (.iload_n 1, 1) := by decide +kernel
theorem dX7_isSample_15 : decode cX7_isSample 15 = .ok (.ishl, 1) := by decide +kernel
theorem dX7_isSample_16 : decode cX7_isSample 16 = .ok (.iconst (-1), 1) := by decide +kernel
theorem dX7_isSample_17 : decode cX7_isSample 17 = .ok (.ixor, 1) := by decide +kernel
theorem dX7_isSample_18 : decode cX7_isSample 18 = .ok (.iand, 1) := by decide +kernel
theorem dX7_isSample_19 : decode cX7_isSample 19 = .ok (.iconst (-1), 1) := by decide +kernel
theorem dX7_isSample_20 : decode cX7_isSample 20 = .ok (.ixor, 1) := by decide +kernel
theorem dX7_isSample_21 : decode cX7_isSample 21 = .ok (.iand, 1) := by decide +kernel
theorem dX7_isSample_22 : decode cX7_isSample 22 = .ok (.ifCond .ne 18, 3) := by decide +kernel
theorem dX7_isSample_25 : decode cX7_isSample 25 = .ok (.iload_n 2, 1) := by decide +kernel
theorem dX7_isSample_26 : decode cX7_isSample 26 = .ok (.invokestatic 75, 3) := by decide +kernel
theorem dX7_isSample_29 : decode cX7_isSample 29 = .ok (.aload_n 0, 1) := by decide +kernel
theorem dX7_isSample_30 : decode cX7_isSample 30 = .ok (.getfield 34, 3) := by decide +kernel
theorem dX7_isSample_33 : decode cX7_isSample 33 = .ok (.if_icmp .ne 7, 3) := by decide +kernel
theorem dX7_isSample_36 : decode cX7_isSample 36 = .ok (.iconst 1, 1) := by decide +kernel
theorem dX7_isSample_37 : decode cX7_isSample 37 = .ok (.goto 4, 3) := by decide +kernel
theorem dX7_isSample_40 : decode cX7_isSample 40 = .ok (.iconst 0, 1) := by decide +kernel
theorem dX7_isSample_41 : decode cX7_isSample 41 = .ok (.ireturn, 1) := by decide +kernel
theorem dX7_carriedBy_0 : decode cX7_carriedBy 0 = .ok (.iload_n 1, 1) := by decide +kernel
theorem dX7_carriedBy_1 : decode cX7_carriedBy 1 = .ok (.ifCond .lt 11, 3) := by decide +kernel
theorem dX7_carriedBy_4 : decode cX7_carriedBy 4 = .ok (.iload_n 1, 1) := by decide +kernel
theorem dX7_carriedBy_5 : decode cX7_carriedBy 5 = .ok (.aload_n 0, 1) := by decide +kernel
theorem dX7_carriedBy_6 : decode cX7_carriedBy 6 = .ok (.getfield 31, 3) := by decide +kernel
theorem dX7_carriedBy_9 : decode cX7_carriedBy 9 = .ok (.if_icmp .lt 7, 3) := by decide +kernel
theorem dX7_carriedBy_12 : decode cX7_carriedBy 12 = .ok (.iconst 0, 1) := by decide +kernel
theorem dX7_carriedBy_13 : decode cX7_carriedBy 13 = .ok (.goto 9, 3) := by decide +kernel
theorem dX7_carriedBy_16 : decode cX7_carriedBy 16 = .ok (.aload_n 0, 1) := by decide +kernel
theorem dX7_carriedBy_17 : decode cX7_carriedBy 17 = .ok (.getfield 23, 3) := by decide +kernel
theorem dX7_carriedBy_20 : decode cX7_carriedBy 20 = .ok (.iload_n 1, 1) := by decide +kernel
theorem dX7_carriedBy_21 : decode cX7_carriedBy 21 = .ok (.iaload, 1) := by decide +kernel
theorem dX7_carriedBy_22 : decode cX7_carriedBy 22 = .ok (.ireturn, 1) := by decide +kernel
set_option maxRecDepth 20000 in
theorem ggX7_ways_X2_product : GoodIn wsX7_ways wsX2_product := goodIn_r _ [7, 8, 9] (by decide +kernel) (by decide +kernel)
set_option maxRecDepth 20000 in
theorem gX7_ways_X2_product : GoodIn wsX7_ways (va_wsS RX7 80 yX2_product wsX2_product) := goodIn_app (goodIn_of _ (by decide +kernel)) ggX7_ways_X2_product
theorem dX7_ways_0 : decode cX7_ways 0 = .ok (.aload_n 0, 1) := by decide +kernel
theorem dX7_ways_1 : decode cX7_ways 1 = .ok (.getfield 31, 3) := by decide +kernel
theorem dX7_ways_4 : decode cX7_ways 4 = .ok (.i2l, 1) := by decide +kernel
theorem dX7_ways_5 : decode cX7_ways 5 = .ok (.aload_n 0, 1) := by decide +kernel
theorem dX7_ways_6 : decode cX7_ways 6 = .ok (.getfield 52, 3) := by decide +kernel
theorem dX7_ways_9 : decode cX7_ways 9 = .ok (.i2l, 1) := by decide +kernel
theorem dX7_ways_10 : decode cX7_ways 10 = .ok (.lmul, 1) := by decide +kernel
theorem dX7_ways_11 : decode cX7_ways 11 = .ok (.lstore_n 2, 1) := by decide +kernel
theorem dX7_ways_12 : decode cX7_ways 12 = .ok (.lconst 1, 1) := by decide +kernel
theorem dX7_ways_13 : decode cX7_ways 13 = .ok (.lstore 4, 2) := by decide +kernel
theorem dX7_ways_15 : decode cX7_ways 15 = .ok (.iconst 0, 1) := by decide +kernel
theorem dX7_ways_16 : decode cX7_ways 16 = .ok (.istore 6, 2) := by decide +kernel
theorem dX7_ways_18 : decode cX7_ways 18 = .ok (.iload 6, 2) := by decide +kernel
theorem dX7_ways_20 : decode cX7_ways 20 = .ok (.iload_n 1, 1) := by decide +kernel
theorem dX7_ways_21 : decode cX7_ways 21 = .ok (.if_icmp .ge 28, 3) := by decide +kernel
theorem dX7_ways_24 : decode cX7_ways 24 = .ok (.lload 4, 2) := by decide +kernel
theorem dX7_ways_26 : decode cX7_ways 26 = .ok (.lload_n 2, 1) := by decide +kernel
theorem dX7_ways_27 : decode cX7_ways 27 = .ok (.invokestatic 80, 3) := by decide +kernel
theorem dX7_ways_30 : decode cX7_ways 30 = .ok (.lstore 4, 2) := by decide +kernel
theorem dX7_ways_32 : decode cX7_ways 32 = .ok (.lload 4, 2) := by decide +kernel
theorem dX7_ways_34 : decode cX7_ways 34 = .ok (.lconst 0, 1) := by decide +kernel
theorem dX7_ways_35 : decode cX7_ways 35 = .ok (.lcmp, 1) := by decide +kernel
theorem dX7_ways_36 : decode cX7_ways 36 = .ok (.ifCond .ge 7, 3) := by decide +kernel
theorem dX7_ways_39 : decode cX7_ways 39 = .ok (.ldc2_w 86, 3) := by decide +kernel
theorem dX7_ways_42 : decode cX7_ways 42 = .ok (.lreturn, 1) := by decide +kernel
theorem dX7_ways_43 : decode cX7_ways 43 = .ok (.iinc 6 1, 3) := by decide +kernel
theorem dX7_ways_46 : decode cX7_ways 46 = .ok (.goto (-28), 3) := by decide +kernel
theorem dX7_ways_49 : decode cX7_ways 49 = .ok (.lload 4, 2) := by decide +kernel
theorem dX7_ways_51 : decode cX7_ways 51 = .ok (.lreturn, 1) := by decide +kernel
set_option maxRecDepth 20000 in
theorem ggX7_up_X7_carriedBy : GoodIn wsX7_up wsX7_carriedBy := goodIn_r _ [6, 1, 7, 8, 9, 10, 11, 12, 13, 14, 15, 16] (by decide +kernel) (by decide +kernel)
set_option maxRecDepth 20000 in
theorem gX7_up_X7_carriedBy : GoodIn wsX7_up (wsV RX7 88 RX7 yX7_carriedBy wsX7_carriedBy) := goodIn_app (goodIn_of _ (by decide +kernel)) ggX7_up_X7_carriedBy
theorem dX7_up_0 : decode cX7_up 0 = .ok (.aload_n 0, 1) := by decide +kernel
theorem dX7_up_1 : decode cX7_up 1 = .ok (.getfield 31, 3) := by decide +kernel
theorem dX7_up_4 : decode cX7_up 4 = .ok (.iload_n 1, 1) := by decide +kernel
theorem dX7_up_5 : decode cX7_up 5 = .ok (.isub, 1) := by decide +kernel
theorem dX7_up_6 : decode cX7_up 6 = .ok (.aload_n 0, 1) := by decide +kernel
theorem dX7_up_7 : decode cX7_up 7 = .ok (.iload_n 1, 1) := by decide +kernel
theorem dX7_up_8 : decode cX7_up 8 = .ok (.invokevirtual 88, 3) := by decide +kernel
theorem dX7_up_11 : decode cX7_up 11 = .ok (.imul, 1) := by decide +kernel
theorem dX7_up_12 : decode cX7_up 12 = .ok (.ireturn, 1) := by decide +kernel
set_option maxRecDepth 20000 in
theorem ggX7_down_X7_carriedBy : GoodIn wsX7_down wsX7_carriedBy := goodIn_r _ [6, 1, 7, 8, 9, 10, 11, 12, 13, 14, 15, 16] (by decide +kernel) (by decide +kernel)
set_option maxRecDepth 20000 in
theorem gX7_down_X7_carriedBy : GoodIn wsX7_down (wsV RX7 88 RX7 yX7_carriedBy wsX7_carriedBy) := goodIn_app (goodIn_of _ (by decide +kernel)) ggX7_down_X7_carriedBy
theorem dX7_down_0 : decode cX7_down 0 = .ok (.iload_n 1, 1) := by decide +kernel
theorem dX7_down_1 : decode cX7_down 1 = .ok (.aload_n 0, 1) := by decide +kernel
theorem dX7_down_2 : decode cX7_down 2 = .ok (.aload_n 0, 1) := by decide +kernel
theorem dX7_down_3 : decode cX7_down 3 = .ok (.getfield 31, 3) := by decide +kernel
theorem dX7_down_6 : decode cX7_down 6 = .ok (.iload_n 1, 1) := by decide +kernel
theorem dX7_down_7 : decode cX7_down 7 = .ok (.isub, 1) := by decide +kernel
theorem dX7_down_8 : decode cX7_down 8 = .ok (.invokevirtual 88, 3) := by decide +kernel
theorem dX7_down_11 : decode cX7_down 11 = .ok (.imul, 1) := by decide +kernel
theorem dX7_down_12 : decode cX7_down 12 = .ok (.ireturn, 1) := by decide +kernel
theorem dX8_init_0 : decode cX8_init 0 = .ok (.aload_n 0, 1) := by decide +kernel
theorem dX8_init_1 : decode cX8_init 1 = .ok (.invokespecial 3, 3) := by decide +kernel
theorem dX8_init_4 : decode cX8_init 4 = .ok (.aload_n 0, 1) := by decide +kernel
theorem dX8_init_5 : decode cX8_init 5 = .ok (.bipush 8, 2) := by decide +kernel
theorem dX8_init_7 : decode cX8_init 7 = .ok (.newarray .int, 2) := by decide +kernel
theorem dX8_init_9 : decode cX8_init 9 = .ok (.putfield 9, 3) := by decide +kernel
theorem dX8_init_12 : decode cX8_init 12 = .ok (.aload_n 0, 1) := by decide +kernel
theorem dX8_init_13 : decode cX8_init 13 = .ok (.aload_n 1, 1) := by decide +kernel
theorem dX8_init_14 : decode cX8_init 14 = .ok (.putfield 15, 3) := by decide +kernel
theorem dX8_init_17 : decode cX8_init 17 = .ok (.aload_n 0, 1) := by decide +kernel
theorem dX8_init_18 : decode cX8_init 18 = .ok (.aload_n 2, 1) := by decide +kernel
theorem dX8_init_19 : decode cX8_init 19 = .ok (.putfield 19, 3) := by decide +kernel
theorem dX8_init_22 : decode cX8_init 22 = .ok (.return_, 1) := by decide +kernel
set_option maxRecDepth 20000 in
theorem ggX8_find_X8_begin : GoodIn wsX8_find wsX8_begin := goodIn_r _ [13, 1, 14, 15, 16, 17, 18, 19, 20, 21, 22, 23, 24, 25, 26, 27, 28, 29, 30, 31, 32, 33, 34, 35, 36, 37, 38, 39, 40, 41, 42, 43, 44, 45, 46, 47, 48, 49, 50, 51, 52, 53, 54, 55, 56, 57, 182, 183, 184, 185, 186, 187, 188, 189, 190, 191, 192, 193, 194] (by decide +kernel) (by decide +kernel)
set_option maxRecDepth 20000 in
theorem gX8_find_X8_begin : GoodIn wsX8_find (wsV RX8 31 RX8 yX8_begin wsX8_begin) := goodIn_app (goodIn_of _ (by decide +kernel)) ggX8_find_X8_begin
set_option maxRecDepth 20000 in
theorem ggX8_find_X0_isSplit : GoodIn wsX8_find wsX0_isSplit := goodIn_r _ [62, 63, 64, 65, 61, 66, 67, 68, 69, 70, 71, 72, 73, 74, 75, 76, 77, 78, 204, 205, 206, 207, 208, 195, 196, 197, 198, 199, 200, 201, 202, 203, 209, 210, 211, 212] (by decide +kernel) (by decide +kernel)
set_option maxRecDepth 20000 in
theorem gX8_find_X0_isSplit : GoodIn wsX8_find (wsV RX8 35 RX0 yX0_isSplit wsX0_isSplit) := goodIn_app (goodIn_of _ (by decide +kernel)) ggX8_find_X0_isSplit
set_option maxRecDepth 20000 in
theorem ggX8_find_X0_listen : GoodIn wsX8_find wsX0_listen := goodIn_r _ [82, 83, 84, 85, 69, 70, 67, 68, 76, 77, 73, 78, 71, 72, 74, 75, 86, 87, 88, 89, 90, 91, 92, 93, 61, 94, 95, 96, 97, 204, 205, 206, 207, 208, 209, 210, 211, 212, 195, 196, 197, 198, 199, 200, 201, 202, 203] (by decide +kernel) (by decide +kernel)
set_option maxRecDepth 20000 in
theorem gX8_find_X0_listen : GoodIn wsX8_find (wsV RX8 57 RX0 yX0_listen wsX0_listen) := goodIn_app (goodIn_of _ (by decide +kernel)) ggX8_find_X0_listen
set_option maxRecDepth 20000 in
theorem ggX8_find_X8_open : GoodIn wsX8_find wsX8_open := goodIn_r _ [101, 6, 102, 103, 3, 104, 1, 105, 106, 107, 108, 61, 109, 84, 67, 110, 83, 111, 112, 113, 114, 115, 116, 117, 118, 119, 120, 16, 121, 27, 54, 55, 56, 57, 122, 123, 124, 125, 85, 126, 127, 76, 77, 73, 78, 128, 129, 130, 131, 68, 132, 133, 134, 135, 136, 137, 138, 139, 140, 141, 142, 143, 144, 145, 146, 147, 148, 149, 150, 151, 152, 153, 154, 155, 156, 157, 158, 159, 160, 161, 162, 163, 164, 165, 75, 166, 167, 168, 12, 169, 4, 18, 19, 20, 21, 38, 39, 40, 41, 28, 42, 43, 44, 45, 46, 47, 48, 49, 170, 171, 172, 173, 58, 59, 60, 62, 63, 64, 65, 66, 69, 70, 71, 72, 74, 174, 175, 176, 177, 33, 50, 51, 52, 53, 178, 179, 180, 181, 182, 183, 184, 185, 186, 187, 188, 189, 190, 191, 195, 196, 197, 198, 199, 200, 201, 202, 203, 204, 205, 206, 207, 208, 192, 193, 194, 209, 210, 211, 212] (by decide +kernel) (by decide +kernel)
set_option maxRecDepth 20000 in
theorem gX8_find_X8_open : GoodIn wsX8_find (wsV RX8 61 RX8 yX8_open wsX8_open) := goodIn_app (goodIn_of _ (by decide +kernel)) ggX8_find_X8_open
theorem dX8_find_0 : decode cX8_find 0 = .ok (.aload_n 0, 1) := by decide +kernel
theorem dX8_find_1 : decode cX8_find 1 = .ok (.getfield 23, 3) := by decide +kernel
theorem dX8_find_4 : decode cX8_find 4 = .ok (.ifnull 12, 3) := by decide +kernel
theorem dX8_find_7 : decode cX8_find 7 = .ok (.aload_n 0, 1) := by decide +kernel
theorem dX8_find_8 : decode cX8_find 8 = .ok (.getfield 27, 3) := by decide +kernel
theorem dX8_find_11 : decode cX8_find 11 = .ok (.iload_n 2, 1) := by decide +kernel
theorem dX8_find_12 : decode cX8_find 12 = .ok (.if_icmp .ne 4, 3) := by decide +kernel
theorem dX8_find_15 : decode cX8_find 15 = .ok (.return_, 1) := by decide +kernel
theorem dX8_find_16 : decode cX8_find 16 = .ok (.aload_n 0, 1) := by decide +kernel
theorem dX8_find_17 : decode cX8_find 17 = .ok (.aload_n 1, 1) := by decide +kernel
theorem dX8_find_18 : decode cX8_find 18 = .ok (.invokevirtual 31, 3) := by decide +kernel
theorem dX8_find_21 : decode cX8_find 21 = .ok (.aload_n 0, 1) := by decide +kernel
theorem dX8_find_22 : decode cX8_find 22 = .ok (.iload_n 2, 1) := by decide +kernel
theorem dX8_find_23 : decode cX8_find 23 = .ok (.putfield 27, 3) := by decide +kernel
theorem dX8_find_26 : decode cX8_find 26 = .ok (.aload_n 0, 1) := by decide +kernel
theorem dX8_find_27 : decode cX8_find 27 = .ok (.getfield 19, 3) := by decide +kernel
theorem dX8_find_30 : decode cX8_find 30 = .ok (.aload_n 1, 1) := by decide +kernel
theorem dX8_find_31 : decode cX8_find 31 = .ok (.iconst 0, 1) := by decide +kernel
theorem dX8_find_32 : decode cX8_find 32 = .ok (.invokevirtual 35, 3) := by decide +kernel
theorem dX8_find_35 : decode cX8_find 35 = .ok (.istore_n 3, 1) := by decide +kernel
theorem dX8_find_36 : decode cX8_find 36 = .ok (.aload_n 0, 1) := by decide +kernel
theorem dX8_find_37 : decode cX8_find 37 = .ok (.iload_n 3, 1) := by decide +kernel
theorem dX8_find_38 : decode cX8_find 38 = .ok (.ifCond .eq 7, 3) := by decide +kernel
theorem dX8_find_41 : decode cX8_find 41 = .ok (.iconst 0, 1) := by decide +kernel
theorem dX8_find_42 : decode cX8_find 42 = .ok (.goto 4, 3) := by decide +kernel
theorem dX8_find_45 : decode cX8_find 45 = .ok (.iconst (-1), 1) := by decide +kernel
theorem dX8_find_46 : decode cX8_find 46 = .ok (.putfield 41, 3) := by decide +kernel
theorem dX8_find_49 : decode cX8_find 49 = .ok (.iconst 0, 1) := by decide +kernel
theorem dX8_find_50 : decode cX8_find 50 = .ok (.istore 4, 2) := by decide +kernel
theorem dX8_find_52 : decode cX8_find 52 = .ok (.iload 4, 2) := by decide +kernel
theorem dX8_find_54 : decode cX8_find 54 = .ok (.sipush 2000, 3) := by decide +kernel
theorem dX8_find_57 : decode cX8_find 57 = .ok (.if_icmp .ge 91, 3) := by decide +kernel
theorem dX8_find_60 : decode cX8_find 60 = .ok (.iload 4, 2) := by decide +kernel
theorem dX8_find_62 : decode cX8_find 62 = .ok (.aload_n 0, 1) := by decide +kernel
theorem dX8_find_63 : decode cX8_find 63 = .ok (.getfield 23, 3) := by decide +kernel
theorem dX8_find_66 : decode cX8_find 66 = .ok (.getfield 44, 3) := by decide +kernel
theorem dX8_find_69 : decode cX8_find 69 = .ok (.if_icmp .ge 79, 3) := by decide +kernel
theorem dX8_find_72 : decode cX8_find 72 = .ok (.iload_n 3, 1) := by decide +kernel
theorem dX8_find_73 : decode cX8_find 73 = .ok (.ifCond .ne 75, 3) := by decide +kernel
theorem dX8_find_76 : decode cX8_find 76 = .ok (.iconst 0, 1) := by decide +kernel
theorem dX8_find_77 : decode cX8_find 77 = .ok (.istore 5, 2) := by decide +kernel
theorem dX8_find_79 : decode cX8_find 79 = .ok (.iload 5, 2) := by decide +kernel
theorem dX8_find_81 : decode cX8_find 81 = .ok (.aload_n 0, 1) := by decide +kernel
theorem dX8_find_82 : decode cX8_find 82 = .ok (.getfield 15, 3) := by decide +kernel
theorem dX8_find_85 : decode cX8_find 85 = .ok (.getfield 49, 3) := by decide +kernel
theorem dX8_find_88 : decode cX8_find 88 = .ok (.if_icmp .ge 54, 3) := by decide +kernel
theorem dX8_find_91 : decode cX8_find 91 = .ok (.iload_n 3, 1) := by decide +kernel
theorem dX8_find_92 : decode cX8_find 92 = .ok (.ifCond .ne 50, 3) := by decide +kernel
theorem dX8_find_95 : decode cX8_find 95 = .ok (.aload_n 0, 1) := by decide +kernel
theorem dX8_find_96 : decode cX8_find 96 = .ok (.getfield 19, 3) := by decide +kernel
theorem dX8_find_99 : decode cX8_find 99 = .ok (.aload_n 0, 1) := by decide +kernel
theorem dX8_find_100 : decode cX8_find 100 = .ok (.getfield 23, 3) := by decide +kernel
theorem dX8_find_103 : decode cX8_find 103 = .ok (.getfield 54, 3) := by decide +kernel
theorem dX8_find_106 : decode cX8_find 106 = .ok (.iload 4, 2) := by decide +kernel
theorem dX8_find_108 : decode cX8_find 108 = .ok (.bipush 8, 2) := by decide +kernel
theorem dX8_find_110 : decode cX8_find 110 = .ok (.imul, 1) := by decide +kernel
theorem dX8_find_111 : decode cX8_find 111 = .ok (.iload 5, 2) := by decide +kernel
theorem dX8_find_113 : decode cX8_find 113 = .ok (.invokevirtual 57, 3) := by decide +kernel
theorem dX8_find_116 : decode cX8_find 116 = .ok (.ifCond .eq 18, 3) := by decide +kernel
theorem dX8_find_119 : decode cX8_find 119 = .ok (.aload_n 0, 1) := by decide +kernel
theorem dX8_find_120 : decode cX8_find 120 = .ok (.iload 4, 2) := by decide +kernel
theorem dX8_find_122 : decode cX8_find 122 = .ok (.iload 5, 2) := by decide +kernel
theorem dX8_find_124 : decode cX8_find 124 = .ok (.invokevirtual 61, 3) := by decide +kernel
theorem dX8_find_127 : decode cX8_find 127 = .ok (.ifCond .eq 7, 3) := by decide +kernel
theorem dX8_find_130 : decode cX8_find 130 = .ok (.iconst 1, 1) := by decide +kernel
theorem dX8_find_131 : decode cX8_find 131 = .ok (.goto 4, 3) := by decide +kernel
theorem dX8_find_134 : decode cX8_find 134 = .ok (.iconst 0, 1) := by decide +kernel
theorem dX8_find_135 : decode cX8_find 135 = .ok (.istore_n 3, 1) := by decide +kernel
theorem dX8_find_136 : decode cX8_find 136 = .ok (.iinc 5 1, 3) := by decide +kernel
theorem dX8_find_139 : decode cX8_find 139 = .ok (.goto (-60), 3) := by decide +kernel
theorem dX8_find_142 : decode cX8_find 142 = .ok (.iinc 4 1, 3) := by decide +kernel
theorem dX8_find_145 : decode cX8_find 145 = .ok (.goto (-93), 3) := by decide +kernel
theorem dX8_find_148 : decode cX8_find 148 = .ok (.return_, 1) := by decide +kernel
set_option maxRecDepth 20000 in
theorem ggX8_begin_X9_init : GoodIn wsX8_begin wsX9_init := goodIn_r _ [11, 12, 13, 14, 5, 15, 16, 56, 57, 58] (by decide +kernel) (by decide +kernel)
set_option maxRecDepth 20000 in
theorem gX8_begin_X9_init_n65 : GoodIn wsX8_begin (wsX9_init) := ggX8_begin_X9_init
set_option maxRecDepth 20000 in
theorem ggX8_begin_X9_clear : GoodIn wsX8_begin wsX9_clear := goodIn_r _ [20, 16, 21, 22, 23, 24, 25, 56, 57, 58] (by decide +kernel) (by decide +kernel)
set_option maxRecDepth 20000 in
theorem gX8_begin_X9_clear : GoodIn wsX8_begin (wsV RX8 75 RX9 yX9_clear wsX9_clear) := goodIn_app (goodIn_of _ (by decide +kernel)) ggX8_begin_X9_clear
set_option maxRecDepth 20000 in
theorem ggX8_begin_X9_slotOf : GoodIn wsX8_begin wsX9_slotOf := goodIn_r _ [29, 16, 30, 31, 4, 32, 33, 34, 35, 36, 37, 15, 56, 57, 58] (by decide +kernel) (by decide +kernel)
set_option maxRecDepth 20000 in
theorem gX8_begin_X9_slotOf : GoodIn wsX8_begin (wsV RX8 78 RX9 yX9_slotOf wsX9_slotOf) := goodIn_app (goodIn_of _ (by decide +kernel)) ggX8_begin_X9_slotOf
set_option maxRecDepth 20000 in
theorem ggX8_begin_X9_add : GoodIn wsX8_begin wsX9_add := goodIn_r _ [41, 21, 15, 42, 43, 44, 45, 16, 56, 57, 58] (by decide +kernel) (by decide +kernel)
set_option maxRecDepth 20000 in
theorem gX8_begin_X9_add : GoodIn wsX8_begin (wsV RX8 82 RX9 yX9_add wsX9_add) := goodIn_app (goodIn_of _ (by decide +kernel)) ggX8_begin_X9_add
theorem dX8_begin_0 : decode cX8_begin 0 = .ok (.aload_n 0, 1) := by decide +kernel
theorem dX8_begin_1 : decode cX8_begin 1 = .ok (.getfield 23, 3) := by decide +kernel
theorem dX8_begin_4 : decode cX8_begin 4 = .ok (.ifnonnull 41, 3) := by decide +kernel
theorem dX8_begin_7 : decode cX8_begin 7 = .ok (.aload_n 0, 1) := by decide +kernel
theorem dX8_begin_8 : decode cX8_begin 8 = .ok (.new 45, 3) := by decide +kernel
theorem dX8_begin_11 : decode cX8_begin 11 = .ok (.dup, 1) := by decide +kernel
theorem dX8_begin_12 : decode cX8_begin 12 = .ok (.invokespecial 65, 3) := by decide +kernel
theorem dX8_begin_15 : decode cX8_begin 15 = .ok (.putfield 23, 3) := by decide +kernel
theorem dX8_begin_18 : decode cX8_begin 18 = .ok (.aload_n 0, 1) := by decide +kernel
theorem dX8_begin_19 : decode cX8_begin 19 = .ok (.sipush 2001, 3) := by decide +kernel
theorem dX8_begin_22 : decode cX8_begin 22 = .ok (.newarray .int, 2) := by decide +kernel
theorem dX8_begin_24 : decode cX8_begin 24 = .ok (.putfield 66, 3) := by decide +kernel
theorem dX8_begin_27 : decode cX8_begin 27 = .ok (.aload_n 0, 1) := by decide +kernel
theorem dX8_begin_28 : decode cX8_begin 28 = .ok (.sipush 2001, 3) := by decide +kernel
theorem dX8_begin_31 : decode cX8_begin 31 = .ok (.newarray .int, 2) := by decide +kernel
theorem dX8_begin_33 : decode cX8_begin 33 = .ok (.putfield 69, 3) := by decide +kernel
theorem dX8_begin_36 : decode cX8_begin 36 = .ok (.aload_n 0, 1) := by decide +kernel
theorem dX8_begin_37 : decode cX8_begin 37 = .ok (.sipush 2001, 3) := by decide +kernel
theorem dX8_begin_40 : decode cX8_begin 40 = .ok (.newarray .int, 2) := by decide +kernel
theorem dX8_begin_42 : decode cX8_begin 42 = .ok (.putfield 72, 3) := by decide +kernel
theorem dX8_begin_45 : decode cX8_begin 45 = .ok (.aload_n 0, 1) := by decide +kernel
theorem dX8_begin_46 : decode cX8_begin 46 = .ok (.getfield 23, 3) := by decide +kernel
theorem dX8_begin_49 : decode cX8_begin 49 = .ok (.invokevirtual 75, 3) := by decide +kernel
theorem dX8_begin_52 : decode cX8_begin 52 = .ok (.aload_n 0, 1) := by decide +kernel
theorem dX8_begin_53 : decode cX8_begin 53 = .ok (.getfield 23, 3) := by decide +kernel
theorem dX8_begin_56 : decode cX8_begin 56 = .ok (.aload_n 0, 1) := by decide +kernel
theorem dX8_begin_57 : decode cX8_begin 57 = .ok (.getfield 23, 3) := by decide +kernel
theorem dX8_begin_60 : decode cX8_begin 60 = .ok (.aload_n 1, 1) := by decide +kernel
theorem dX8_begin_61 : decode cX8_begin 61 = .ok (.invokevirtual 78, 3) := by decide +kernel
theorem dX8_begin_64 : decode cX8_begin 64 = .ok (.aload_n 1, 1) := by decide +kernel
theorem dX8_begin_65 : decode cX8_begin 65 = .ok (.invokevirtual 82, 3) := by decide +kernel
theorem dX8_begin_68 : decode cX8_begin 68 = .ok (.pop, 1) := by decide +kernel
theorem dX8_begin_69 : decode cX8_begin 69 = .ok (.aload_n 0, 1) := by decide +kernel
theorem dX8_begin_70 : decode cX8_begin 70 = .ok (.iconst 0, 1) := by decide +kernel
theorem dX8_begin_71 : decode cX8_begin 71 = .ok (.putfield 86, 3) := by decide +kernel
theorem dX8_begin_74 : decode cX8_begin 74 = .ok (.return_, 1) := by decide +kernel
set_option maxRecDepth 20000 in
theorem ggX8_open_X0_winner : GoodIn wsX8_open wsX0_winner := goodIn_r _ [12, 13, 14, 15, 16, 17, 18, 19, 20, 21, 22, 23, 157, 158, 159, 160, 161, 148, 149, 150, 151, 152, 153, 154, 155, 156] (by decide +kernel) (by decide +kernel)
set_option maxRecDepth 20000 in
theorem gX8_open_X0_winner : GoodIn wsX8_open (wsV RX8 96 RX0 yX0_winner wsX0_winner) := goodIn_app (goodIn_of _ (by decide +kernel)) ggX8_open_X0_winner
set_option maxRecDepth 20000 in
theorem ggX8_open_X9_copyTo : GoodIn wsX8_open wsX9_copyTo := goodIn_r _ [28, 29, 30, 31, 32, 33, 162, 163, 164] (by decide +kernel) (by decide +kernel)
set_option maxRecDepth 20000 in
theorem gX8_open_X9_copyTo : GoodIn wsX8_open (wsV RX8 103 RX9 yX9_copyTo wsX9_copyTo) := goodIn_app (goodIn_of _ (by decide +kernel)) ggX8_open_X9_copyTo
set_option maxRecDepth 20000 in
theorem ggX8_open_X0_settle : GoodIn wsX8_open wsX0_settle := goodIn_r _ [37, 38, 14, 39, 40, 41, 42, 43, 44, 45, 46, 47, 11, 48, 49, 50, 51, 52, 53, 54, 55, 56, 57, 58, 59, 60, 61, 62, 63, 64, 65, 66, 67, 68, 69, 70, 71, 72, 73, 74, 75, 76, 77, 78, 79, 80, 81, 82, 83, 84, 157, 158, 159, 160, 161, 148, 149, 150, 151, 152, 153, 154, 155, 156] (by decide +kernel) (by decide +kernel)
set_option maxRecDepth 20000 in
theorem gX8_open_X0_settle : GoodIn wsX8_open (wsV RX8 107 RX0 yX0_settle wsX0_settle) := goodIn_app (goodIn_of _ (by decide +kernel)) ggX8_open_X0_settle
set_option maxRecDepth 20000 in
theorem ggX8_open_X8_comes : GoodIn wsX8_open wsX8_comes := goodIn_r _ [89, 6, 7, 4, 90, 91, 92, 93, 94, 95, 96, 97, 27, 98, 99, 100, 101, 102, 103, 104, 105, 106, 107, 29, 108, 109, 110, 111, 112, 113, 114, 11, 115, 116, 117, 118, 119, 14, 49, 120, 121, 122, 123, 43, 124, 84, 41, 42, 44, 125, 126, 127, 128, 129, 130, 131, 132, 133, 30, 31, 32, 33, 134, 135, 136, 88, 137, 138, 139, 140, 141, 142, 143, 144, 145, 146, 147, 162, 163, 164, 157, 158, 159, 160, 161, 148, 149, 150, 151, 152, 153, 154, 155, 156, 165, 166, 167, 168] (by decide +kernel) (by decide +kernel)
set_option maxRecDepth 20000 in
theorem gX8_open_X8_comes : GoodIn wsX8_open (wsV RX8 111 RX8 yX8_comes wsX8_comes) := goodIn_app (goodIn_of _ (by decide +kernel)) ggX8_open_X8_comes
theorem dX8_open_0 : decode cX8_open 0 = .ok (.iconst 0, 1) := by decide +kernel
theorem dX8_open_1 : decode cX8_open 1 = .ok (.istore_n 3, 1) := by decide +kernel
theorem dX8_open_2 : decode cX8_open 2 = .ok (.iconst 0, 1) := by decide +kernel
theorem dX8_open_3 : decode cX8_open 3 = .ok (.istore 4, 2) := by decide +kernel
theorem dX8_open_5 : decode cX8_open 5 = .ok (.iload 4, 2) := by decide +kernel
theorem dX8_open_7 : decode cX8_open 7 = .ok (.aload_n 0, 1) := by decide +kernel
theorem dX8_open_8 : decode cX8_open 8 = .ok (.getfield 15, 3) := by decide +kernel
theorem dX8_open_11 : decode cX8_open 11 = .ok (.getfield 89, 3) := by decide +kernel
theorem dX8_open_14 : decode cX8_open 14 = .ok (.if_icmp .ge 105, 3) := by decide +kernel
theorem dX8_open_17 : decode cX8_open 17 = .ok (.aload_n 0, 1) := by decide +kernel
theorem dX8_open_18 : decode cX8_open 18 = .ok (.getfield 15, 3) := by decide +kernel
theorem dX8_open_21 : decode cX8_open 21 = .ok (.getfield 92, 3) := by decide +kernel
theorem dX8_open_24 : decode cX8_open 24 = .ok (.iload_n 2, 1) := by decide +kernel
theorem dX8_open_25 : decode cX8_open 25 = .ok (.aaload, 1) := by decide +kernel
theorem dX8_open_26 : decode cX8_open 26 = .ok (.iload 4, 2) := by decide +kernel
theorem dX8_open_28 : decode cX8_open 28 = .ok (.iaload, 1) := by decide +kernel
theorem dX8_open_29 : decode cX8_open 29 = .ok (.istore 5, 2) := by decide +kernel
theorem dX8_open_31 : decode cX8_open 31 = .ok (.aload_n 0, 1) := by decide +kernel
theorem dX8_open_32 : decode cX8_open 32 = .ok (.getfield 19, 3) := by decide +kernel
theorem dX8_open_35 : decode cX8_open 35 = .ok (.iload 5, 2) := by decide +kernel
theorem dX8_open_37 : decode cX8_open 37 = .ok (.invokevirtual 96, 3) := by decide +kernel
theorem dX8_open_40 : decode cX8_open 40 = .ok (.istore 6, 2) := by decide +kernel
theorem dX8_open_42 : decode cX8_open 42 = .ok (.iconst 1, 1) := by decide +kernel
theorem dX8_open_43 : decode cX8_open 43 = .ok (.iload 6, 2) := by decide +kernel
theorem dX8_open_45 : decode cX8_open 45 = .ok (.iconst 1, 1) := by decide +kernel
theorem dX8_open_46 : decode cX8_open 46 = .ok (.iadd, 1) := by decide +kernel
theorem dX8_open_47 : decode cX8_open 47 = .ok (.ishl, 1) := by decide +kernel
theorem dX8_open_48 : decode cX8_open 48 = .ok (.istore 7, 2) := by decide +kernel
theorem dX8_open_50 : decode cX8_open 50 = .ok (.aload_n 0, 1) := by decide +kernel
theorem dX8_open_51 : decode cX8_open 51 = .ok (.getfield 19, 3) := by decide +kernel
theorem dX8_open_54 : decode cX8_open 54 = .ok (.getfield 100, 3) := by decide +kernel
theorem dX8_open_57 : decode cX8_open 57 = .ok (.ifCond .ne 10, 3) := by decide +kernel
theorem dX8_open_60 : decode cX8_open 60 = .ok (.iload_n 3, 1) := by decide +kernel
theorem dX8_open_61 : decode cX8_open 61 = .ok (.iload 7, 2) := by decide +kernel
theorem dX8_open_63 : decode cX8_open 63 = .ok (.iand, 1) := by decide +kernel
theorem dX8_open_64 : decode cX8_open 64 = .ok (.ifCond .ne 49, 3) := by decide +kernel
theorem dX8_open_67 : decode cX8_open 67 = .ok (.iload_n 3, 1) := by decide +kernel
theorem dX8_open_68 : decode cX8_open 68 = .ok (.iload 7, 2) := by decide +kernel
theorem dX8_open_70 : decode cX8_open 70 = .ok (.ior, 1) := by decide +kernel
theorem dX8_open_71 : decode cX8_open 71 = .ok (.istore_n 3, 1) := by decide +kernel
theorem dX8_open_72 : decode cX8_open 72 = .ok (.aload_n 0, 1) := by decide +kernel
theorem dX8_open_73 : decode cX8_open 73 = .ok (.getfield 23, 3) := by decide +kernel
theorem dX8_open_76 : decode cX8_open 76 = .ok (.aload_n 0, 1) := by decide +kernel
theorem dX8_open_77 : decode cX8_open 77 = .ok (.getfield 9, 3) := by decide +kernel
theorem dX8_open_80 : decode cX8_open 80 = .ok (.iload_n 1, 1) := by decide +kernel
theorem dX8_open_81 : decode cX8_open 81 = .ok (.invokevirtual 103, 3) := by decide +kernel
theorem dX8_open_84 : decode cX8_open 84 = .ok (.aload_n 0, 1) := by decide +kernel
theorem dX8_open_85 : decode cX8_open 85 = .ok (.getfield 19, 3) := by decide +kernel
theorem dX8_open_88 : decode cX8_open 88 = .ok (.aload_n 0, 1) := by decide +kernel
theorem dX8_open_89 : decode cX8_open 89 = .ok (.getfield 9, 3) := by decide +kernel
theorem dX8_open_92 : decode cX8_open 92 = .ok (.iload_n 2, 1) := by decide +kernel
theorem dX8_open_93 : decode cX8_open 93 = .ok (.iload 6, 2) := by decide +kernel
theorem dX8_open_95 : decode cX8_open 95 = .ok (.iload 5, 2) := by decide +kernel
theorem dX8_open_97 : decode cX8_open 97 = .ok (.invokevirtual 107, 3) := by decide +kernel
theorem dX8_open_100 : decode cX8_open 100 = .ok (.aload_n 0, 1) := by decide +kernel
theorem dX8_open_101 : decode cX8_open 101 = .ok (.iload_n 1, 1) := by decide +kernel
theorem dX8_open_102 : decode cX8_open 102 = .ok (.iload_n 2, 1) := by decide +kernel
theorem dX8_open_103 : decode cX8_open 103 = .ok (.iload 5, 2) := by decide +kernel
theorem dX8_open_105 : decode cX8_open 105 = .ok (.invokevirtual 111, 3) := by decide +kernel
theorem dX8_open_108 : decode cX8_open 108 = .ok (.ifCond .eq 5, 3) := by decide +kernel
theorem dX8_open_111 : decode cX8_open 111 = .ok (.iconst 1, 1) := by decide +kernel
theorem dX8_open_112 : decode cX8_open 112 = .ok (.ireturn, 1) := by decide +kernel
theorem dX8_open_113 : decode cX8_open 113 = .ok (.iinc 4 1, 3) := by decide +kernel
theorem dX8_open_116 : decode cX8_open 116 = .ok (.goto (-111), 3) := by decide +kernel
theorem dX8_open_119 : decode cX8_open 119 = .ok (.iconst 0, 1) := by decide +kernel
theorem dX8_open_120 : decode cX8_open 120 = .ok (.ireturn, 1) := by decide +kernel
set_option maxRecDepth 20000 in
theorem ggX8_comes_X9_slotOf : GoodIn wsX8_comes wsX9_slotOf := goodIn_r _ [13, 14, 15, 16, 12, 17, 18, 19, 20, 21, 22, 23, 77, 78, 79] (by decide +kernel) (by decide +kernel)
set_option maxRecDepth 20000 in
theorem gX8_comes_X9_slotOf : GoodIn wsX8_comes (wsV RX8 78 RX9 yX9_slotOf wsX9_slotOf) := goodIn_app (goodIn_of _ (by decide +kernel)) ggX8_comes_X9_slotOf
set_option maxRecDepth 20000 in
theorem ggX8_comes_X9_at : GoodIn wsX8_comes wsX9_at := goodIn_r _ [27, 14, 77, 78, 79] (by decide +kernel) (by decide +kernel)
set_option maxRecDepth 20000 in
theorem gX8_comes_X9_at : GoodIn wsX8_comes (wsV RX8 115 RX9 yX9_at wsX9_at) := goodIn_app (goodIn_of _ (by decide +kernel)) ggX8_comes_X9_at
set_option maxRecDepth 20000 in
theorem ggX8_comes_X0_isSplit : GoodIn wsX8_comes wsX0_isSplit := goodIn_r _ [32, 33, 34, 35, 31, 36, 37, 38, 39, 40, 41, 42, 43, 44, 45, 46, 47, 48, 80, 81, 82, 83, 84, 85, 86, 87, 88, 89, 90, 91, 92, 93, 94, 95, 96, 97] (by decide +kernel) (by decide +kernel)
set_option maxRecDepth 20000 in
theorem gX8_comes_X0_isSplit : GoodIn wsX8_comes (wsV RX8 35 RX0 yX0_isSplit wsX0_isSplit) := goodIn_app (goodIn_of _ (by decide +kernel)) ggX8_comes_X0_isSplit
set_option maxRecDepth 20000 in
theorem ggX8_comes_X9_isFull : GoodIn wsX8_comes wsX9_isFull := goodIn_r _ [52, 53, 77, 78, 79] (by decide +kernel) (by decide +kernel)
set_option maxRecDepth 20000 in
theorem gX8_comes_X9_isFull : GoodIn wsX8_comes (wsV RX8 118 RX9 yX9_isFull wsX9_isFull) := goodIn_app (goodIn_of _ (by decide +kernel)) ggX8_comes_X9_isFull
set_option maxRecDepth 20000 in
theorem ggX8_comes_X9_add : GoodIn wsX8_comes wsX9_add := goodIn_r _ [57, 53, 23, 58, 59, 60, 61, 14, 77, 78, 79] (by decide +kernel) (by decide +kernel)
set_option maxRecDepth 20000 in
theorem gX8_comes_X9_add : GoodIn wsX8_comes (wsV RX8 82 RX9 yX9_add wsX9_add) := goodIn_app (goodIn_of _ (by decide +kernel)) ggX8_comes_X9_add
set_option maxRecDepth 20000 in
theorem ggX8_comes_X8_depth : GoodIn wsX8_comes wsX8_depth := goodIn_r _ [66, 5, 67, 68, 69, 70, 71, 72, 73, 74, 75, 76] (by decide +kernel) (by decide +kernel)
set_option maxRecDepth 20000 in
theorem gX8_comes_X8_depth : GoodIn wsX8_comes (wsV RX8 122 RX8 yX8_depth wsX8_depth) := goodIn_app (goodIn_of _ (by decide +kernel)) ggX8_comes_X8_depth
theorem dX8_comes_0 : decode cX8_comes 0 = .ok (.aload_n 0, 1) := by decide +kernel
theorem dX8_comes_1 : decode cX8_comes 1 = .ok (.getfield 23, 3) := by decide +kernel
theorem dX8_comes_4 : decode cX8_comes 4 = .ok (.aload_n 0, 1) := by decide +kernel
theorem dX8_comes_5 : decode cX8_comes 5 = .ok (.getfield 9, 3) := by decide +kernel
theorem dX8_comes_8 : decode cX8_comes 8 = .ok (.invokevirtual 78, 3) := by decide +kernel
theorem dX8_comes_11 : decode cX8_comes 11 = .ok (.istore 4, 2) := by decide +kernel
theorem dX8_comes_13 : decode cX8_comes 13 = .ok (.aload_n 0, 1) := by decide +kernel
theorem dX8_comes_14 : decode cX8_comes 14 = .ok (.getfield 23, 3) := by decide +kernel
theorem dX8_comes_17 : decode cX8_comes 17 = .ok (.iload 4, 2) := by decide +kernel
theorem dX8_comes_19 : decode cX8_comes 19 = .ok (.invokevirtual 115, 3) := by decide +kernel
theorem dX8_comes_22 : decode cX8_comes 22 = .ok (.iconst (-1), 1) := by decide +kernel
theorem dX8_comes_23 : decode cX8_comes 23 = .ok (.if_icmp .eq 5, 3) := by decide +kernel
theorem dX8_comes_26 : decode cX8_comes 26 = .ok (.iconst 0, 1) := by decide +kernel
theorem dX8_comes_27 : decode cX8_comes 27 = .ok (.ireturn, 1) := by decide +kernel
theorem dX8_comes_28 : decode cX8_comes 28 = .ok (.aload_n 0, 1) := by decide +kernel
theorem dX8_comes_29 : decode cX8_comes 29 = .ok (.getfield 19, 3) := by decide +kernel
theorem dX8_comes_32 : decode cX8_comes 32 = .ok (.aload_n 0, 1) := by decide +kernel
theorem dX8_comes_33 : decode cX8_comes 33 = .ok (.getfield 9, 3) := by decide +kernel
theorem dX8_comes_36 : decode cX8_comes 36 = .ok (.iconst 0, 1) := by decide +kernel
theorem dX8_comes_37 : decode cX8_comes 37 = .ok (.invokevirtual 35, 3) := by decide +kernel
theorem dX8_comes_40 : decode cX8_comes 40 = .ok (.istore 5, 2) := by decide +kernel
theorem dX8_comes_42 : decode cX8_comes 42 = .ok (.iload 5, 2) := by decide +kernel
theorem dX8_comes_44 : decode cX8_comes 44 = .ok (.ifCond .ne 13, 3) := by decide +kernel
theorem dX8_comes_47 : decode cX8_comes 47 = .ok (.aload_n 0, 1) := by decide +kernel
theorem dX8_comes_48 : decode cX8_comes 48 = .ok (.getfield 23, 3) := by decide +kernel
theorem dX8_comes_51 : decode cX8_comes 51 = .ok (.invokevirtual 118, 3) := by decide +kernel
theorem dX8_comes_54 : decode cX8_comes 54 = .ok (.ifCond .ne 19, 3) := by decide +kernel
theorem dX8_comes_57 : decode cX8_comes 57 = .ok (.aload_n 0, 1) := by decide +kernel
theorem dX8_comes_58 : decode cX8_comes 58 = .ok (.getfield 23, 3) := by decide +kernel
theorem dX8_comes_61 : decode cX8_comes 61 = .ok (.iload 4, 2) := by decide +kernel
theorem dX8_comes_63 : decode cX8_comes 63 = .ok (.aload_n 0, 1) := by decide +kernel
theorem dX8_comes_64 : decode cX8_comes 64 = .ok (.getfield 9, 3) := by decide +kernel
theorem dX8_comes_67 : decode cX8_comes 67 = .ok (.invokevirtual 82, 3) := by decide +kernel
theorem dX8_comes_70 : decode cX8_comes 70 = .ok (.goto 4, 3) := by decide +kernel
theorem dX8_comes_73 : decode cX8_comes 73 = .ok (.iconst (-1), 1) := by decide +kernel
theorem dX8_comes_74 : decode cX8_comes 74 = .ok (.istore 6, 2) := by decide +kernel
theorem dX8_comes_76 : decode cX8_comes 76 = .ok (.iload 6, 2) := by decide +kernel
theorem dX8_comes_78 : decode cX8_comes 78 = .ok (.iconst (-1), 1) := by decide +kernel
theorem dX8_comes_79 : decode cX8_comes 79 = .ok (.if_icmp .ne 11, 3) := by decide +kernel
theorem dX8_comes_82 : decode cX8_comes 82 = .ok (.aload_n 0, 1) := by decide +kernel
theorem dX8_comes_83 : decode cX8_comes 83 = .ok (.bipush (-3), 2) := by decide +kernel
theorem dX8_comes_85 : decode cX8_comes 85 = .ok (.putfield 41, 3) := by decide +kernel
theorem dX8_comes_88 : decode cX8_comes 88 = .ok (.iconst 1, 1) := by decide +kernel
theorem dX8_comes_89 : decode cX8_comes 89 = .ok (.ireturn, 1) := by decide +kernel
theorem dX8_comes_90 : decode cX8_comes 90 = .ok (.aload_n 0, 1) := by decide +kernel
theorem dX8_comes_91 : decode cX8_comes 91 = .ok (.getfield 66, 3) := by decide +kernel
theorem dX8_comes_94 : decode cX8_comes 94 = .ok (.iload 6, 2) := by decide +kernel
theorem dX8_comes_96 : decode cX8_comes 96 = .ok (.iload_n 1, 1) := by decide +kernel
theorem dX8_comes_97 : decode cX8_comes 97 = .ok (.iastore, 1) := by decide +kernel
theorem dX8_comes_98 : decode cX8_comes 98 = .ok (.aload_n 0, 1) := by decide +kernel
theorem dX8_comes_99 : decode cX8_comes 99 = .ok (.getfield 69, 3) := by decide +kernel
theorem dX8_comes_102 : decode cX8_comes 102 = .ok (.iload 6, 2) := by decide +kernel
theorem dX8_comes_104 : decode cX8_comes 104 = .ok (.iload_n 2, 1) := by decide +kernel
theorem dX8_comes_105 : decode cX8_comes 105 = .ok (.iastore, 1) := by decide +kernel
theorem dX8_comes_106 : decode cX8_comes 106 = .ok (.aload_n 0, 1) := by decide +kernel
theorem dX8_comes_107 : decode cX8_comes 107 = .ok (.getfield 72, 3) := by decide +kernel
theorem dX8_comes_110 : decode cX8_comes 110 = .ok (.iload 6, 2) := by decide +kernel
theorem dX8_comes_112 : decode cX8_comes 112 = .ok (.iload_n 3, 1) := by decide +kernel
theorem dX8_comes_113 : decode cX8_comes 113 = .ok (.iastore, 1) := by decide +kernel
theorem dX8_comes_114 : decode cX8_comes 114 = .ok (.iload 5, 2) := by decide +kernel
theorem dX8_comes_116 : decode cX8_comes 116 = .ok (.ifCond .eq 19, 3) := by decide +kernel
theorem dX8_comes_119 : decode cX8_comes 119 = .ok (.aload_n 0, 1) := by decide +kernel
theorem dX8_comes_120 : decode cX8_comes 120 = .ok (.iload 6, 2) := by decide +kernel
theorem dX8_comes_122 : decode cX8_comes 122 = .ok (.putfield 86, 3) := by decide +kernel
theorem dX8_comes_125 : decode cX8_comes 125 = .ok (.aload_n 0, 1) := by decide +kernel
theorem dX8_comes_126 : decode cX8_comes 126 = .ok (.aload_n 0, 1) := by decide +kernel
theorem dX8_comes_127 : decode cX8_comes 127 = .ok (.iload 6, 2) := by decide +kernel
theorem dX8_comes_129 : decode cX8_comes 129 = .ok (.invokevirtual 122, 3) := by decide +kernel
theorem dX8_comes_132 : decode cX8_comes 132 = .ok (.putfield 41, 3) := by decide +kernel
theorem dX8_comes_135 : decode cX8_comes 135 = .ok (.iload 5, 2) := by decide +kernel
theorem dX8_comes_137 : decode cX8_comes 137 = .ok (.ireturn, 1) := by decide +kernel
theorem dX8_depth_0 : decode cX8_depth 0 = .ok (.iconst 0, 1) := by decide +kernel
theorem dX8_depth_1 : decode cX8_depth 1 = .ok (.istore_n 2, 1) := by decide +kernel
theorem dX8_depth_2 : decode cX8_depth 2 = .ok (.iload_n 1, 1) := by decide +kernel
theorem dX8_depth_3 : decode cX8_depth 3 = .ok (.istore_n 3, 1) := by decide +kernel
theorem dX8_depth_4 : decode cX8_depth 4 = .ok (.iload_n 3, 1) := by decide +kernel
theorem dX8_depth_5 : decode cX8_depth 5 = .ok (.ifCond .le 23, 3) := by decide +kernel
theorem dX8_depth_8 : decode cX8_depth 8 = .ok (.iload_n 2, 1) := by decide +kernel
theorem dX8_depth_9 : decode cX8_depth 9 = .ok (.sipush 2000, 3) := by decide +kernel
theorem dX8_depth_12 : decode cX8_depth 12 = .ok (.if_icmp .ge 16, 3) := by decide +kernel
theorem dX8_depth_15 : decode cX8_depth 15 = .ok (.iinc 2 1, 3) := by decide +kernel
theorem dX8_depth_18 : decode cX8_depth 18 = .ok (.aload_n 0, 1) := by decide +kernel
theorem dX8_depth_19 : decode cX8_depth 19 = .ok (.getfield 66, 3) := by decide +kernel
theorem dX8_depth_22 : decode cX8_depth 22 = .ok (.iload_n 3, 1) := by decide +kernel
theorem dX8_depth_23 : decode cX8_depth 23 = .ok (.iaload, 1) := by decide +kernel
theorem dX8_depth_24 : decode cX8_depth 24 = .ok (.istore_n 3, 1) := by decide +kernel
theorem dX8_depth_25 : decode cX8_depth 25 = .ok (.goto (-21), 3) := by decide +kernel
theorem dX8_depth_28 : decode cX8_depth 28 = .ok (.iload_n 2, 1) := by decide +kernel
theorem dX8_depth_29 : decode cX8_depth 29 = .ok (.ireturn, 1) := by decide +kernel
theorem dX8_behind_0 : decode cX8_behind 0 = .ok (.aload_n 0, 1) := by decide +kernel
theorem dX8_behind_1 : decode cX8_behind 1 = .ok (.getfield 86, 3) := by decide +kernel
theorem dX8_behind_4 : decode cX8_behind 4 = .ok (.istore_n 2, 1) := by decide +kernel
theorem dX8_behind_5 : decode cX8_behind 5 = .ok (.aload_n 0, 1) := by decide +kernel
theorem dX8_behind_6 : decode cX8_behind 6 = .ok (.getfield 41, 3) := by decide +kernel
theorem dX8_behind_9 : decode cX8_behind 9 = .ok (.iconst 1, 1) := by decide +kernel
theorem dX8_behind_10 : decode cX8_behind 10 = .ok (.isub, 1) := by decide +kernel
theorem dX8_behind_11 : decode cX8_behind 11 = .ok (.istore_n 3, 1) := by decide +kernel
theorem dX8_behind_12 : decode cX8_behind 12 = .ok (.iload_n 3, 1) := by decide +kernel
theorem dX8_behind_13 : decode cX8_behind 13 = .ok (.iload_n 1, 1) := by decide +kernel
theorem dX8_behind_14 : decode cX8_behind 14 = .ok (.if_icmp .le 16, 3) := by decide +kernel
theorem dX8_behind_17 : decode cX8_behind 17 = .ok (.aload_n 0, 1) := by decide +kernel
theorem dX8_behind_18 : decode cX8_behind 18 = .ok (.getfield 66, 3) := by decide +kernel
theorem dX8_behind_21 : decode cX8_behind 21 = .ok (.iload_n 2, 1) := by decide +kernel
theorem dX8_behind_22 : decode cX8_behind 22 = .ok (.iaload, 1) := by decide +kernel
theorem dX8_behind_23 : decode cX8_behind 23 = .ok (.istore_n 2, 1) := by decide +kernel
theorem dX8_behind_24 : decode cX8_behind 24 = .ok (.iinc 3 (-1), 3) := by decide +kernel
theorem dX8_behind_27 : decode cX8_behind 27 = .ok (.goto (-15), 3) := by decide +kernel
theorem dX8_behind_30 : decode cX8_behind 30 = .ok (.iload_n 2, 1) := by decide +kernel
theorem dX8_behind_31 : decode cX8_behind 31 = .ok (.ireturn, 1) := by decide +kernel
theorem dX9_init_0 : decode cX9_init 0 = .ok (.aload_n 0, 1) := by decide +kernel
theorem dX9_init_1 : decode cX9_init 1 = .ok (.invokespecial 3, 3) := by decide +kernel
theorem dX9_init_4 : decode cX9_init 4 = .ok (.aload_n 0, 1) := by decide +kernel
theorem dX9_init_5 : decode cX9_init 5 = .ok (.sipush 16008, 3) := by decide +kernel
theorem dX9_init_8 : decode cX9_init 8 = .ok (.newarray .int, 2) := by decide +kernel
theorem dX9_init_10 : decode cX9_init 10 = .ok (.putfield 9, 3) := by decide +kernel
theorem dX9_init_13 : decode cX9_init 13 = .ok (.aload_n 0, 1) := by decide +kernel
theorem dX9_init_14 : decode cX9_init 14 = .ok (.sipush 4096, 3) := by decide +kernel
theorem dX9_init_17 : decode cX9_init 17 = .ok (.newarray .int, 2) := by decide +kernel
theorem dX9_init_19 : decode cX9_init 19 = .ok (.putfield 15, 3) := by decide +kernel
theorem dX9_init_22 : decode cX9_init 22 = .ok (.return_, 1) := by decide +kernel
set_option maxRecDepth 20000 in
theorem ggX9_clear_J7_fill_53178 : GoodIn wsX9_clear wsJ7_fill_53178 := goodIn_r _ [6] (by decide +kernel) (by decide +kernel)
set_option maxRecDepth 20000 in
theorem gX9_clear_J7_fill_53178 : GoodIn wsX9_clear (va_wsS RX9 18 yJ7_fill_53178 wsJ7_fill_53178) := goodIn_app (goodIn_of _ (by decide +kernel)) ggX9_clear_J7_fill_53178
theorem dX9_clear_0 : decode cX9_clear 0 = .ok (.aload_n 0, 1) := by decide +kernel
theorem dX9_clear_1 : decode cX9_clear 1 = .ok (.getfield 15, 3) := by decide +kernel
theorem dX9_clear_4 : decode cX9_clear 4 = .ok (.iconst 0, 1) := by decide +kernel
theorem dX9_clear_5 : decode cX9_clear 5 = .ok (.invokestatic 18, 3) := by decide +kernel
theorem dX9_clear_8 : decode cX9_clear 8 = .ok (.aload_n 0, 1) := by decide +kernel
theorem dX9_clear_9 : decode cX9_clear 9 = .ok (.iconst 0, 1) := by decide +kernel
theorem dX9_clear_10 : decode cX9_clear 10 = .ok (.putfield 24, 3) := by decide +kernel
theorem dX9_clear_13 : decode cX9_clear 13 = .ok (.return_, 1) := by decide +kernel
set_option maxRecDepth 20000 in
theorem ggX9_slotOf_X9_hash : GoodIn wsX9_slotOf wsX9_hash := goodIn_r _ [5, 6] (by decide +kernel) (by decide +kernel)
set_option maxRecDepth 20000 in
theorem gX9_slotOf_X9_hash : GoodIn wsX9_slotOf (va_wsS RX9 28 yX9_hash wsX9_hash) := goodIn_app (goodIn_of _ (by decide +kernel)) ggX9_slotOf_X9_hash
set_option maxRecDepth 20000 in
theorem ggX9_slotOf_X9_isAt : GoodIn wsX9_slotOf wsX9_isAt := goodIn_r _ [10, 11, 12, 13, 14] (by decide +kernel) (by decide +kernel)
set_option maxRecDepth 20000 in
theorem gX9_slotOf_X9_isAt : GoodIn wsX9_slotOf (wsV RX9 32 RX9 yX9_isAt wsX9_isAt) := goodIn_app (goodIn_of _ (by decide +kernel)) ggX9_slotOf_X9_isAt
theorem dX9_slotOf_0 : decode cX9_slotOf 0 = .ok (.aload_n 1, 1) := by decide +kernel
theorem dX9_slotOf_1 : decode cX9_slotOf 1 = .ok (.invokestatic 28, 3) := by decide +kernel
theorem dX9_slotOf_4 : decode cX9_slotOf 4 = .ok (.istore_n 2, 1) := by decide +kernel
theorem dX9_slotOf_5 : decode cX9_slotOf 5 = .ok (.iconst 0, 1) := by decide +kernel
theorem dX9_slotOf_6 : decode cX9_slotOf 6 = .ok (.istore_n 3, 1) := by decide +kernel
theorem dX9_slotOf_7 : decode cX9_slotOf 7 = .ok (.iload_n 3, 1) := by decide +kernel
theorem dX9_slotOf_8 : decode cX9_slotOf 8 = .ok (.sipush 4096, 3) := by decide +kernel
theorem dX9_slotOf_11 : decode cX9_slotOf 11 = .ok (.if_icmp .ge 42, 3) := by decide +kernel
theorem dX9_slotOf_14 : decode cX9_slotOf 14 = .ok (.aload_n 0, 1) := by decide +kernel
theorem dX9_slotOf_15 : decode cX9_slotOf 15 = .ok (.getfield 15, 3) := by decide +kernel
theorem dX9_slotOf_18 : decode cX9_slotOf 18 = .ok (.iload_n 2, 1) := by decide +kernel
theorem dX9_slotOf_19 : decode cX9_slotOf 19 = .ok (.iaload, 1) := by decide +kernel
theorem dX9_slotOf_20 : decode cX9_slotOf 20 = .ok (.ifCond .eq 33, 3) := by decide +kernel
theorem dX9_slotOf_23 : decode cX9_slotOf 23 = .ok (.aload_n 0, 1) := by decide +kernel
theorem dX9_slotOf_24 : decode cX9_slotOf 24 = .ok (.aload_n 0, 1) := by decide +kernel
theorem dX9_slotOf_25 : decode cX9_slotOf 25 = .ok (.getfield 15, 3) := by decide +kernel
theorem dX9_slotOf_28 : decode cX9_slotOf 28 = .ok (.iload_n 2, 1) := by decide +kernel
theorem dX9_slotOf_29 : decode cX9_slotOf 29 = .ok (.iaload, 1) := by decide +kernel
theorem dX9_slotOf_30 : decode cX9_slotOf 30 = .ok (.iconst 1, 1) := by decide +kernel
theorem dX9_slotOf_31 : decode cX9_slotOf 31 = .ok (.isub, 1) := by decide +kernel
theorem dX9_slotOf_32 : decode cX9_slotOf 32 = .ok (.aload_n 1, 1) := by decide +kernel
theorem dX9_slotOf_33 : decode cX9_slotOf 33 = .ok (.invokevirtual 32, 3) := by decide +kernel
theorem dX9_slotOf_36 : decode cX9_slotOf 36 = .ok (.ifCond .ne 17, 3) := by decide +kernel
theorem dX9_slotOf_39 : decode cX9_slotOf 39 = .ok (.iload_n 2, 1) := by decide +kernel
theorem dX9_slotOf_40 : decode cX9_slotOf 40 = .ok (.iconst 1, 1) := by decide +kernel
theorem dX9_slotOf_41 : decode cX9_slotOf 41 = .ok (.iadd, 1) := by decide +kernel
theorem dX9_slotOf_42 : decode cX9_slotOf 42 = .ok (.sipush 4096, 3) := by decide +kernel
theorem dX9_slotOf_45 : decode cX9_slotOf 45 = .ok (.irem, 1) := by decide +kernel
theorem dX9_slotOf_46 : decode cX9_slotOf 46 = .ok (.istore_n 2, 1) := by decide +kernel
theorem dX9_slotOf_47 : decode cX9_slotOf 47 = .ok (.iinc 3 1, 3) := by decide +kernel
theorem dX9_slotOf_50 : decode cX9_slotOf 50 = .ok (.goto (-43), 3) := by decide +kernel
theorem dX9_slotOf_53 : decode cX9_slotOf 53 = .ok (.iload_n 2, 1) := by decide +kernel
theorem dX9_slotOf_54 : decode cX9_slotOf 54 = .ok (.ireturn, 1) := by decide +kernel
theorem dX9_at_0 : decode cX9_at 0 = .ok (.aload_n 0, 1) := by decide +kernel
theorem dX9_at_1 : decode cX9_at 1 = .ok (.getfield 15, 3) := by decide +kernel
theorem dX9_at_4 : decode cX9_at 4 = .ok (.iload_n 1, 1) := by decide +kernel
theorem dX9_at_5 : decode cX9_at 5 = .ok (.iaload, 1) := by decide +kernel
theorem dX9_at_6 : decode cX9_at 6 = .ok (.iconst 1, 1) := by decide +kernel
theorem dX9_at_7 : decode cX9_at 7 = .ok (.isub, 1) := by decide +kernel
theorem dX9_at_8 : decode cX9_at 8 = .ok (.ireturn, 1) := by decide +kernel
theorem dX9_isFull_0 : decode cX9_isFull 0 = .ok (.aload_n 0, 1) := by decide +kernel
theorem dX9_isFull_1 : decode cX9_isFull 1 = .ok (.getfield 24, 3) := by decide +kernel
theorem dX9_isFull_4 : decode cX9_isFull 4 = .ok (.sipush 2000, 3) := by decide +kernel
theorem dX9_isFull_7 : decode cX9_isFull 7 = .ok (.if_icmp .lt 7, 3) := by decide +kernel
theorem dX9_isFull_10 : decode cX9_isFull 10 = .ok (.iconst 1, 1) := by decide +kernel
theorem dX9_isFull_11 : decode cX9_isFull 11 = .ok (.goto 4, 3) := by decide +kernel
theorem dX9_isFull_14 : decode cX9_isFull 14 = .ok (.iconst 0, 1) := by decide +kernel
theorem dX9_isFull_15 : decode cX9_isFull 15 = .ok (.ireturn, 1) := by decide +kernel
theorem dX9_add_0 : decode cX9_add 0 = .ok (.aload_n 0, 1) := by decide +kernel
theorem dX9_add_1 : decode cX9_add 1 = .ok (.getfield 24, 3) := by decide +kernel
theorem dX9_add_4 : decode cX9_add 4 = .ok (.sipush 2000, 3) := by decide +kernel
theorem dX9_add_7 : decode cX9_add 7 = .ok (.if_icmp .le 5, 3) := by decide +kernel
theorem dX9_add_10 : decode cX9_add 10 = .ok (.iconst (-1), 1) := by decide +kernel
theorem dX9_add_11 : decode cX9_add 11 = .ok (.ireturn, 1) := by decide +kernel
theorem dX9_add_12 : decode cX9_add 12 = .ok (.aload_n 2, 1) := by decide +kernel
theorem dX9_add_13 : decode cX9_add 13 = .ok (.iconst 0, 1) := by decide +kernel
theorem dX9_add_14 : decode cX9_add 14 = .ok (.aload_n 0, 1) := by decide +kernel
theorem dX9_add_15 : decode cX9_add 15 = .ok (.getfield 9, 3) := by decide +kernel
theorem dX9_add_18 : decode cX9_add 18 = .ok (.aload_n 0, 1) := by decide +kernel
theorem dX9_add_19 : decode cX9_add 19 = .ok (.getfield 24, 3) := by decide +kernel
theorem dX9_add_22 : decode cX9_add 22 = .ok (.bipush 8, 2) := by decide +kernel
theorem dX9_add_24 : decode cX9_add 24 = .ok (.imul, 1) := by decide +kernel
theorem dX9_add_25 : decode cX9_add 25 = .ok (.bipush 8, 2) := by decide +kernel
theorem dX9_add_27 : decode cX9_add 27 = .ok (.invokestatic 36, 3) := by decide +kernel
theorem dX9_add_30 : decode cX9_add 30 = .ok (.aload_n 0, 1) := by decide +kernel
theorem dX9_add_31 : decode cX9_add 31 = .ok (.getfield 15, 3) := by decide +kernel
theorem dX9_add_34 : decode cX9_add 34 = .ok (.iload_n 1, 1) := by decide +kernel
theorem dX9_add_35 : decode cX9_add 35 = .ok (.aload_n 0, 1) := by decide +kernel
theorem dX9_add_36 : decode cX9_add 36 = .ok (.getfield 24, 3) := by decide +kernel
theorem dX9_add_39 : decode cX9_add 39 = .ok (.iconst 1, 1) := by decide +kernel
theorem dX9_add_40 : decode cX9_add 40 = .ok (.iadd, 1) := by decide +kernel
theorem dX9_add_41 : decode cX9_add 41 = .ok (.iastore, 1) := by decide +kernel
theorem dX9_add_42 : decode cX9_add 42 = .ok (.aload_n 0, 1) := by decide +kernel
theorem dX9_add_43 : decode cX9_add 43 = .ok (.dup, 1) := by decide +kernel
theorem dX9_add_44 : decode cX9_add 44 = .ok (.getfield 24, 3) := by decide +kernel
theorem dX9_add_47 : decode cX9_add 47 = .ok (.iconst 1, 1) := by decide +kernel
theorem dX9_add_48 : decode cX9_add 48 = .ok (.iadd, 1) := by decide +kernel
theorem dX9_add_49 : decode cX9_add 49 = .ok (.putfield 24, 3) := by decide +kernel
theorem dX9_add_52 : decode cX9_add 52 = .ok (.aload_n 0, 1) := by decide +kernel
theorem dX9_add_53 : decode cX9_add 53 = .ok (.getfield 24, 3) := by decide +kernel
theorem dX9_add_56 : decode cX9_add 56 = .ok (.iconst 1, 1) := by decide +kernel
theorem dX9_add_57 : decode cX9_add 57 = .ok (.isub, 1) := by decide +kernel
theorem dX9_add_58 : decode cX9_add 58 = .ok (.ireturn, 1) := by decide +kernel
theorem dX9_copyTo_0 : decode cX9_copyTo 0 = .ok (.aload_n 0, 1) := by decide +kernel
theorem dX9_copyTo_1 : decode cX9_copyTo 1 = .ok (.getfield 9, 3) := by decide +kernel
theorem dX9_copyTo_4 : decode cX9_copyTo 4 = .ok (.iload_n 2, 1) := by decide +kernel
theorem dX9_copyTo_5 : decode cX9_copyTo 5 = .ok (.bipush 8, 2) := by decide +kernel
theorem dX9_copyTo_7 : decode cX9_copyTo 7 = .ok (.imul, 1) := by decide +kernel
theorem dX9_copyTo_8 : decode cX9_copyTo 8 = .ok (.aload_n 1, 1) := by decide +kernel
theorem dX9_copyTo_9 : decode cX9_copyTo 9 = .ok (.iconst 0, 1) := by decide +kernel
theorem dX9_copyTo_10 : decode cX9_copyTo 10 = .ok (.bipush 8, 2) := by decide +kernel
theorem dX9_copyTo_12 : decode cX9_copyTo 12 = .ok (.invokestatic 36, 3) := by decide +kernel
theorem dX9_copyTo_15 : decode cX9_copyTo 15 = .ok (.return_, 1) := by decide +kernel
theorem dX9_isAt_0 : decode cX9_isAt 0 = .ok (.iload_n 1, 1) := by decide +kernel
theorem dX9_isAt_1 : decode cX9_isAt 1 = .ok (.bipush 8, 2) := by decide +kernel
theorem dX9_isAt_3 : decode cX9_isAt 3 = .ok (.imul, 1) := by decide +kernel
theorem dX9_isAt_4 : decode cX9_isAt 4 = .ok (.istore_n 3, 1) := by decide +kernel
theorem dX9_isAt_5 : decode cX9_isAt 5 = .ok (.iconst 0, 1) := by decide +kernel
theorem dX9_isAt_6 : decode cX9_isAt 6 = .ok (.istore 4, 2) := by decide +kernel
theorem dX9_isAt_8 : decode cX9_isAt 8 = .ok (.iload 4, 2) := by decide +kernel
theorem dX9_isAt_10 : decode cX9_isAt 10 = .ok (.bipush 8, 2) := by decide +kernel
theorem dX9_isAt_12 : decode cX9_isAt 12 = .ok (.if_icmp .ge 27, 3) := by decide +kernel
theorem dX9_isAt_15 : decode cX9_isAt 15 = .ok (.aload_n 0, 1) := by decide +kernel
theorem dX9_isAt_16 : decode cX9_isAt 16 = .ok (.getfield 9, 3) := by decide +kernel
theorem dX9_isAt_19 : decode cX9_isAt 19 = .ok (.iload_n 3, 1) := by decide +kernel
theorem dX9_isAt_20 : decode cX9_isAt 20 = .ok (.iload 4, 2) := by decide +kernel
theorem dX9_isAt_22 : decode cX9_isAt 22 = .ok (.iadd, 1) := by decide +kernel
theorem dX9_isAt_23 : decode cX9_isAt 23 = .ok (.iaload, 1) := by decide +kernel
theorem dX9_isAt_24 : decode cX9_isAt 24 = .ok (.aload_n 2, 1) := by decide +kernel
theorem dX9_isAt_25 : decode cX9_isAt 25 = .ok (.iload 4, 2) := by decide +kernel
theorem dX9_isAt_27 : decode cX9_isAt 27 = .ok (.iaload, 1) := by decide +kernel
theorem dX9_isAt_28 : decode cX9_isAt 28 = .ok (.if_icmp .eq 5, 3) := by decide +kernel
theorem dX9_isAt_31 : decode cX9_isAt 31 = .ok (.iconst 0, 1) := by decide +kernel
theorem dX9_isAt_32 : decode cX9_isAt 32 = .ok (.ireturn, 1) := by decide +kernel
theorem dX9_isAt_33 : decode cX9_isAt 33 = .ok (.iinc 4 1, 3) := by decide +kernel
theorem dX9_isAt_36 : decode cX9_isAt 36 = .ok (.goto (-28), 3) := by decide +kernel
theorem dX9_isAt_39 : decode cX9_isAt 39 = .ok (.iconst 1, 1) := by decide +kernel
theorem dX9_isAt_40 : decode cX9_isAt 40 = .ok (.ireturn, 1) := by decide +kernel
theorem dX9_hash_0 : decode cX9_hash 0 = .ok (.iconst 0, 1) := by decide +kernel
theorem dX9_hash_1 : decode cX9_hash 1 = .ok (.istore_n 1, 1) := by decide +kernel
theorem dX9_hash_2 : decode cX9_hash 2 = .ok (.iconst 0, 1) := by decide +kernel
theorem dX9_hash_3 : decode cX9_hash 3 = .ok (.istore_n 2, 1) := by decide +kernel
theorem dX9_hash_4 : decode cX9_hash 4 = .ok (.iload_n 2, 1) := by decide +kernel
theorem dX9_hash_5 : decode cX9_hash 5 = .ok (.bipush 8, 2) := by decide +kernel
theorem dX9_hash_7 : decode cX9_hash 7 = .ok (.if_icmp .ge 25, 3) := by decide +kernel
theorem dX9_hash_10 : decode cX9_hash 10 = .ok (.iload_n 1, 1) := by decide +kernel
theorem dX9_hash_11 : decode cX9_hash 11 = .ok (.aload_n 0, 1) := by decide +kernel
theorem dX9_hash_12 : decode cX9_hash 12 = .ok (.iload_n 2, 1) := by decide +kernel
theorem dX9_hash_13 : decode cX9_hash 13 = .ok (.iaload, 1) := by decide +kernel
theorem dX9_hash_14 : decode cX9_hash 14 = .ok (.ixor, 1) := by decide +kernel
theorem dX9_hash_15 : decode cX9_hash 15 = .ok (.ldc 42, 2) := by decide +kernel
theorem dX9_hash_17 : decode cX9_hash 17 = .ok (.imul, 1) := by decide +kernel
theorem dX9_hash_18 : decode cX9_hash 18 = .ok (.istore_n 1, 1) := by decide +kernel
theorem dX9_hash_19 : decode cX9_hash 19 = .ok (.iload_n 1, 1) := by decide +kernel
theorem dX9_hash_20 : decode cX9_hash 20 = .ok (.iload_n 1, 1) := by decide +kernel
theorem dX9_hash_21 : decode cX9_hash 21 = .ok (.bipush 15, 2) := by decide +kernel
theorem dX9_hash_23 : decode cX9_hash 23 = .ok (.iushr, 1) := by decide +kernel
theorem dX9_hash_24 : decode cX9_hash 24 = .ok (.ixor, 1) := by decide +kernel
theorem dX9_hash_25 : decode cX9_hash 25 = .ok (.istore_n 1, 1) := by decide +kernel
theorem dX9_hash_26 : decode cX9_hash 26 = .ok (.iinc 2 1, 3) := by decide +kernel
theorem dX9_hash_29 : decode cX9_hash 29 = .ok (.goto (-25), 3) := by decide +kernel
theorem dX9_hash_32 : decode cX9_hash 32 = .ok (.iload_n 1, 1) := by decide +kernel
theorem dX9_hash_33 : decode cX9_hash 33 = .ok (.sipush 4095, 3) := by decide +kernel
theorem dX9_hash_36 : decode cX9_hash 36 = .ok (.iand, 1) := by decide +kernel
theorem dX9_hash_37 : decode cX9_hash 37 = .ok (.ireturn, 1) := by decide +kernel
theorem dX10_init_0 : decode cX10_init 0 = .ok (.aload_n 0, 1) := by decide +kernel
theorem dX10_init_1 : decode cX10_init 1 = .ok (.invokespecial 3, 3) := by decide +kernel
theorem dX10_init_4 : decode cX10_init 4 = .ok (.aload_n 0, 1) := by decide +kernel
theorem dX10_init_5 : decode cX10_init 5 = .ok (.bipush 32, 2) := by decide +kernel
theorem dX10_init_7 : decode cX10_init 7 = .ok (.newarray .int, 2) := by decide +kernel
theorem dX10_init_9 : decode cX10_init 9 = .ok (.putfield 11, 3) := by decide +kernel
theorem dX10_init_12 : decode cX10_init 12 = .ok (.return_, 1) := by decide +kernel
set_option maxRecDepth 20000 in
theorem ggX10_begin_X10_put : GoodIn wsX10_begin wsX10_put := goodIn_r _ [7, 8, 9, 10, 11] (by decide +kernel) (by decide +kernel)
set_option maxRecDepth 20000 in
theorem gX10_begin_X10_put : GoodIn wsX10_begin (wsV RX10 22 RX10 yX10_put wsX10_put) := goodIn_app (goodIn_of _ (by decide +kernel)) ggX10_begin_X10_put
theorem dX10_begin_0 : decode cX10_begin 0 = .ok (.aload_n 0, 1) := by decide +kernel
theorem dX10_begin_1 : decode cX10_begin 1 = .ok (.iconst 0, 1) := by decide +kernel
theorem dX10_begin_2 : decode cX10_begin 2 = .ok (.putfield 15, 3) := by decide +kernel
theorem dX10_begin_5 : decode cX10_begin 5 = .ok (.aload_n 0, 1) := by decide +kernel
theorem dX10_begin_6 : decode cX10_begin 6 = .ok (.iconst 0, 1) := by decide +kernel
theorem dX10_begin_7 : decode cX10_begin 7 = .ok (.putfield 19, 3) := by decide +kernel
theorem dX10_begin_10 : decode cX10_begin 10 = .ok (.iconst 0, 1) := by decide +kernel
theorem dX10_begin_11 : decode cX10_begin 11 = .ok (.istore_n 1, 1) := by decide +kernel
theorem dX10_begin_12 : decode cX10_begin 12 = .ok (.iload_n 1, 1) := by decide +kernel
theorem dX10_begin_13 : decode cX10_begin 13 = .ok (.bipush 8, 2) := by decide +kernel
theorem dX10_begin_15 : decode cX10_begin 15 = .ok (.if_icmp .ge 37, 3) := by decide +kernel
theorem dX10_begin_18 : decode cX10_begin 18 = .ok (.aload_n 0, 1) := by decide +kernel
theorem dX10_begin_19 : decode cX10_begin 19 = .ok (.iload_n 1, 1) := by decide +kernel
theorem dX10_begin_20 : decode cX10_begin 20 = .ok (.iconst 0, 1) := by decide +kernel
theorem dX10_begin_21 : decode cX10_begin 21 = .ok (.iconst (-1), 1) := by decide +kernel
theorem dX10_begin_22 : decode cX10_begin 22 = .ok (.invokevirtual 22, 3) := by decide +kernel
theorem dX10_begin_25 : decode cX10_begin 25 = .ok (.aload_n 0, 1) := by decide +kernel
theorem dX10_begin_26 : decode cX10_begin 26 = .ok (.iload_n 1, 1) := by decide +kernel
theorem dX10_begin_27 : decode cX10_begin 27 = .ok (.iconst 1, 1) := by decide +kernel
theorem dX10_begin_28 : decode cX10_begin 28 = .ok (.iconst (-1), 1) := by decide +kernel
theorem dX10_begin_29 : decode cX10_begin 29 = .ok (.invokevirtual 22, 3) := by decide +kernel
theorem dX10_begin_32 : decode cX10_begin 32 = .ok (.aload_n 0, 1) := by decide +kernel
theorem dX10_begin_33 : decode cX10_begin 33 = .ok (.iload_n 1, 1) := by decide +kernel
theorem dX10_begin_34 : decode cX10_begin 34 = .ok (.iconst 2, 1) := by decide +kernel
theorem dX10_begin_35 : decode cX10_begin 35 = .ok (.iconst 0, 1) := by decide +kernel
theorem dX10_begin_36 : decode cX10_begin 36 = .ok (.invokevirtual 22, 3) := by decide +kernel
theorem dX10_begin_39 : decode cX10_begin 39 = .ok (.aload_n 0, 1) := by decide +kernel
theorem dX10_begin_40 : decode cX10_begin 40 = .ok (.iload_n 1, 1) := by decide +kernel
theorem dX10_begin_41 : decode cX10_begin 41 = .ok (.iconst 3, 1) := by decide +kernel
theorem dX10_begin_42 : decode cX10_begin 42 = .ok (.iconst (-1), 1) := by decide +kernel
theorem dX10_begin_43 : decode cX10_begin 43 = .ok (.invokevirtual 22, 3) := by decide +kernel
theorem dX10_begin_46 : decode cX10_begin 46 = .ok (.iinc 1 1, 3) := by decide +kernel
theorem dX10_begin_49 : decode cX10_begin 49 = .ok (.goto (-37), 3) := by decide +kernel
theorem dX10_begin_52 : decode cX10_begin 52 = .ok (.return_, 1) := by decide +kernel
theorem dX10_takeFrom_0 : decode cX10_takeFrom 0 = .ok (.aload_n 0, 1) := by decide +kernel
theorem dX10_takeFrom_1 : decode cX10_takeFrom 1 = .ok (.aload_n 1, 1) := by decide +kernel
theorem dX10_takeFrom_2 : decode cX10_takeFrom 2 = .ok (.getfield 15, 3) := by decide +kernel
theorem dX10_takeFrom_5 : decode cX10_takeFrom 5 = .ok (.putfield 15, 3) := by decide +kernel
theorem dX10_takeFrom_8 : decode cX10_takeFrom 8 = .ok (.aload_n 0, 1) := by decide +kernel
theorem dX10_takeFrom_9 : decode cX10_takeFrom 9 = .ok (.aload_n 1, 1) := by decide +kernel
theorem dX10_takeFrom_10 : decode cX10_takeFrom 10 = .ok (.getfield 19, 3) := by decide +kernel
theorem dX10_takeFrom_13 : decode cX10_takeFrom 13 = .ok (.putfield 19, 3) := by decide +kernel
theorem dX10_takeFrom_16 : decode cX10_takeFrom 16 = .ok (.aload_n 1, 1) := by decide +kernel
theorem dX10_takeFrom_17 : decode cX10_takeFrom 17 = .ok (.getfield 11, 3) := by decide +kernel
theorem dX10_takeFrom_20 : decode cX10_takeFrom 20 = .ok (.iconst 0, 1) := by decide +kernel
theorem dX10_takeFrom_21 : decode cX10_takeFrom 21 = .ok (.aload_n 0, 1) := by decide +kernel
theorem dX10_takeFrom_22 : decode cX10_takeFrom 22 = .ok (.getfield 11, 3) := by decide +kernel
theorem dX10_takeFrom_25 : decode cX10_takeFrom 25 = .ok (.iconst 0, 1) := by decide +kernel
theorem dX10_takeFrom_26 : decode cX10_takeFrom 26 = .ok (.bipush 32, 2) := by decide +kernel
theorem dX10_takeFrom_28 : decode cX10_takeFrom 28 = .ok (.invokestatic 26, 3) := by decide +kernel
theorem dX10_takeFrom_31 : decode cX10_takeFrom 31 = .ok (.return_, 1) := by decide +kernel
theorem dX10_get_0 : decode cX10_get 0 = .ok (.aload_n 0, 1) := by decide +kernel
theorem dX10_get_1 : decode cX10_get 1 = .ok (.getfield 11, 3) := by decide +kernel
theorem dX10_get_4 : decode cX10_get 4 = .ok (.iload_n 1, 1) := by decide +kernel
theorem dX10_get_5 : decode cX10_get 5 = .ok (.iconst 4, 1) := by decide +kernel
theorem dX10_get_6 : decode cX10_get 6 = .ok (.imul, 1) := by decide +kernel
theorem dX10_get_7 : decode cX10_get 7 = .ok (.iload_n 2, 1) := by decide +kernel
theorem dX10_get_8 : decode cX10_get 8 = .ok (.iadd, 1) := by decide +kernel
theorem dX10_get_9 : decode cX10_get 9 = .ok (.iaload, 1) := by decide +kernel
theorem dX10_get_10 : decode cX10_get 10 = .ok (.ireturn, 1) := by decide +kernel
theorem dX10_put_0 : decode cX10_put 0 = .ok (.aload_n 0, 1) := by decide +kernel
theorem dX10_put_1 : decode cX10_put 1 = .ok (.getfield 11, 3) := by decide +kernel
theorem dX10_put_4 : decode cX10_put 4 = .ok (.iload_n 1, 1) := by decide +kernel
theorem dX10_put_5 : decode cX10_put 5 = .ok (.iconst 4, 1) := by decide +kernel
theorem dX10_put_6 : decode cX10_put 6 = .ok (.imul, 1) := by decide +kernel
theorem dX10_put_7 : decode cX10_put 7 = .ok (.iload_n 2, 1) := by decide +kernel
theorem dX10_put_8 : decode cX10_put 8 = .ok (.iadd, 1) := by decide +kernel
theorem dX10_put_9 : decode cX10_put 9 = .ok (.iload_n 3, 1) := by decide +kernel
theorem dX10_put_10 : decode cX10_put 10 = .ok (.iastore, 1) := by decide +kernel
theorem dX10_put_11 : decode cX10_put 11 = .ok (.return_, 1) := by decide +kernel
set_option maxRecDepth 20000 in
theorem ggX10_isOpen_X10_get : GoodIn wsX10_isOpen wsX10_get := goodIn_r _ [5, 6, 7, 8, 9] (by decide +kernel) (by decide +kernel)
set_option maxRecDepth 20000 in
theorem gX10_isOpen_X10_get : GoodIn wsX10_isOpen (wsV RX10 32 RX10 yX10_get wsX10_get) := goodIn_app (goodIn_of _ (by decide +kernel)) ggX10_isOpen_X10_get
theorem dX10_isOpen_0 : decode cX10_isOpen 0 = .ok (.aload_n 0, 1) := by decide +kernel
theorem dX10_isOpen_1 : decode cX10_isOpen 1 = .ok (.iload_n 1, 1) := by decide +kernel
theorem dX10_isOpen_2 : decode cX10_isOpen 2 = .ok (.iconst 3, 1) := by decide +kernel
theorem dX10_isOpen_3 : decode cX10_isOpen 3 = .ok (.invokevirtual 32, 3) := by decide +kernel
theorem dX10_isOpen_6 : decode cX10_isOpen 6 = .ok (.iconst (-1), 1) := by decide +kernel
theorem dX10_isOpen_7 : decode cX10_isOpen 7 = .ok (.if_icmp .ne 7, 3) := by decide +kernel
theorem dX10_isOpen_10 : decode cX10_isOpen 10 = .ok (.iconst 1, 1) := by decide +kernel
theorem dX10_isOpen_11 : decode cX10_isOpen 11 = .ok (.goto 4, 3) := by decide +kernel
theorem dX10_isOpen_14 : decode cX10_isOpen 14 = .ok (.iconst 0, 1) := by decide +kernel
theorem dX10_isOpen_15 : decode cX10_isOpen 15 = .ok (.ireturn, 1) := by decide +kernel
set_option maxRecDepth 20000 in
theorem ggX11_init_X7_init : GoodIn wsX11_init wsX7_init := goodIn_r _ [43, 44, 2, 3, 45, 46, 47, 37, 48, 49, 50, 51, 52, 6, 53, 54, 55, 56, 57, 58, 59, 60, 61, 62, 63, 64, 65, 66, 67, 68, 69, 70, 71, 72, 73, 74, 75, 76, 77, 78, 79, 80, 81, 82, 83, 84, 85, 86, 87, 88, 89, 90, 91, 92, 178, 179, 180, 181, 182, 183, 184, 185, 186] (by decide +kernel) (by decide +kernel)
set_option maxRecDepth 20000 in
theorem gX11_init_X7_init : GoodIn wsX11_init (wsX7_init) := ggX11_init_X7_init
set_option maxRecDepth 20000 in
theorem ggX11_init_X4_init : GoodIn wsX11_init wsX4_init := goodIn_r _ [95, 96, 2, 3, 37, 97, 98, 99, 100, 101, 102, 103, 104, 105, 106, 107, 108, 109, 110, 10, 111, 112, 113, 114, 115, 116, 117, 118, 119, 120, 121, 122, 123, 124, 125, 203, 204, 205, 206, 252, 253, 254] (by decide +kernel) (by decide +kernel)
set_option maxRecDepth 20000 in
theorem gX11_init_X4_init : GoodIn wsX11_init (wsX4_init) := ggX11_init_X4_init
set_option maxRecDepth 20000 in
theorem ggX11_init_X3_init : GoodIn wsX11_init wsX3_init := goodIn_r _ [127, 128, 2, 3, 37, 129, 130, 131, 132, 133, 134, 135, 207, 208, 209, 210, 211, 212, 213, 214] (by decide +kernel) (by decide +kernel)
set_option maxRecDepth 20000 in
theorem gX11_init_X3_init_n25 : GoodIn wsX11_init (wsX3_init) := ggX11_init_X3_init
set_option maxRecDepth 20000 in
theorem ggX11_init_X0_init : GoodIn wsX11_init wsX0_init := goodIn_r _ [138, 139, 2, 3, 140, 141, 215, 216, 217, 218, 219] (by decide +kernel) (by decide +kernel)
set_option maxRecDepth 20000 in
theorem gX11_init_X0_init : GoodIn wsX11_init (wsX0_init) := ggX11_init_X0_init
set_option maxRecDepth 20000 in
theorem ggX11_init_X6_init : GoodIn wsX11_init wsX6_init := goodIn_r _ [144, 145, 2, 3, 146, 147, 148, 220, 221, 222] (by decide +kernel) (by decide +kernel)
set_option maxRecDepth 20000 in
theorem gX11_init_X6_init : GoodIn wsX11_init (wsX6_init) := ggX11_init_X6_init
set_option maxRecDepth 20000 in
theorem ggX11_init_X5_init : GoodIn wsX11_init wsX5_init := goodIn_r _ [151, 152, 2, 3, 37, 153, 154, 155, 156, 157, 158, 159, 160, 223, 224, 225, 226, 227, 228, 229, 230, 231, 232, 233, 234, 235] (by decide +kernel) (by decide +kernel)
set_option maxRecDepth 20000 in
theorem gX11_init_X5_init : GoodIn wsX11_init (wsX5_init) := ggX11_init_X5_init
set_option maxRecDepth 20000 in
theorem ggX11_init_X8_init : GoodIn wsX11_init wsX8_init := goodIn_r _ [163, 164, 2, 3, 37, 165, 166, 167, 236, 237, 238, 239, 240, 241, 242, 243, 244, 245] (by decide +kernel) (by decide +kernel)
set_option maxRecDepth 20000 in
theorem gX11_init_X8_init : GoodIn wsX11_init (wsX8_init) := ggX11_init_X8_init
set_option maxRecDepth 20000 in
theorem ggX11_init_X1_init : GoodIn wsX11_init wsX1_init := goodIn_r _ [170, 171, 2, 3, 172, 173, 174, 175, 176, 177, 246, 247, 248, 249, 250, 251] (by decide +kernel) (by decide +kernel)
set_option maxRecDepth 20000 in
theorem gX11_init_X1_init : GoodIn wsX11_init (wsX1_init) := ggX11_init_X1_init
theorem dX11_init_0 : decode cX11_init 0 = .ok (.aload_n 0, 1) := by decide +kernel
theorem dX11_init_1 : decode cX11_init 1 = .ok (.invokespecial 1, 3) := by decide +kernel
theorem dX11_init_4 : decode cX11_init 4 = .ok (.aload_n 0, 1) := by decide +kernel
theorem dX11_init_5 : decode cX11_init 5 = .ok (.new 7, 3) := by decide +kernel
theorem dX11_init_8 : decode cX11_init 8 = .ok (.dup, 1) := by decide +kernel
theorem dX11_init_9 : decode cX11_init 9 = .ok (.invokespecial 9, 3) := by decide +kernel
theorem dX11_init_12 : decode cX11_init 12 = .ok (.putfield 10, 3) := by decide +kernel
theorem dX11_init_15 : decode cX11_init 15 = .ok (.aload_n 0, 1) := by decide +kernel
theorem dX11_init_16 : decode cX11_init 16 = .ok (.new 16, 3) := by decide +kernel
theorem dX11_init_19 : decode cX11_init 19 = .ok (.dup, 1) := by decide +kernel
theorem dX11_init_20 : decode cX11_init 20 = .ok (.invokespecial 18, 3) := by decide +kernel
theorem dX11_init_23 : decode cX11_init 23 = .ok (.putfield 19, 3) := by decide +kernel
theorem dX11_init_26 : decode cX11_init 26 = .ok (.aload_n 0, 1) := by decide +kernel
theorem dX11_init_27 : decode cX11_init 27 = .ok (.new 23, 3) := by decide +kernel
theorem dX11_init_30 : decode cX11_init 30 = .ok (.dup, 1) := by decide +kernel
theorem dX11_init_31 : decode cX11_init 31 = .ok (.invokespecial 25, 3) := by decide +kernel
theorem dX11_init_34 : decode cX11_init 34 = .ok (.putfield 26, 3) := by decide +kernel
theorem dX11_init_37 : decode cX11_init 37 = .ok (.aload_n 0, 1) := by decide +kernel
theorem dX11_init_38 : decode cX11_init 38 = .ok (.new 30, 3) := by decide +kernel
theorem dX11_init_41 : decode cX11_init 41 = .ok (.dup, 1) := by decide +kernel
theorem dX11_init_42 : decode cX11_init 42 = .ok (.aload_n 0, 1) := by decide +kernel
theorem dX11_init_43 : decode cX11_init 43 = .ok (.getfield 10, 3) := by decide +kernel
theorem dX11_init_46 : decode cX11_init 46 = .ok (.aload_n 0, 1) := by decide +kernel
theorem dX11_init_47 : decode cX11_init 47 = .ok (.getfield 19, 3) := by decide +kernel
theorem dX11_init_50 : decode cX11_init 50 = .ok (.invokespecial 32, 3) := by decide +kernel
theorem dX11_init_53 : decode cX11_init 53 = .ok (.putfield 35, 3) := by decide +kernel
theorem dX11_init_56 : decode cX11_init 56 = .ok (.aload_n 0, 1) := by decide +kernel
theorem dX11_init_57 : decode cX11_init 57 = .ok (.new 39, 3) := by decide +kernel
theorem dX11_init_60 : decode cX11_init 60 = .ok (.dup, 1) := by decide +kernel
theorem dX11_init_61 : decode cX11_init 61 = .ok (.aload_n 0, 1) := by decide +kernel
theorem dX11_init_62 : decode cX11_init 62 = .ok (.getfield 10, 3) := by decide +kernel
theorem dX11_init_65 : decode cX11_init 65 = .ok (.aload_n 0, 1) := by decide +kernel
theorem dX11_init_66 : decode cX11_init 66 = .ok (.getfield 19, 3) := by decide +kernel
theorem dX11_init_69 : decode cX11_init 69 = .ok (.aload_n 0, 1) := by decide +kernel
theorem dX11_init_70 : decode cX11_init 70 = .ok (.getfield 26, 3) := by decide +kernel
theorem dX11_init_73 : decode cX11_init 73 = .ok (.invokespecial 41, 3) := by decide +kernel
theorem dX11_init_76 : decode cX11_init 76 = .ok (.putfield 44, 3) := by decide +kernel
theorem dX11_init_79 : decode cX11_init 79 = .ok (.aload_n 0, 1) := by decide +kernel
theorem dX11_init_80 : decode cX11_init 80 = .ok (.new 48, 3) := by decide +kernel
theorem dX11_init_83 : decode cX11_init 83 = .ok (.dup, 1) := by decide +kernel
theorem dX11_init_84 : decode cX11_init 84 = .ok (.aload_n 0, 1) := by decide +kernel
theorem dX11_init_85 : decode cX11_init 85 = .ok (.getfield 10, 3) := by decide +kernel
theorem dX11_init_88 : decode cX11_init 88 = .ok (.aload_n 0, 1) := by decide +kernel
theorem dX11_init_89 : decode cX11_init 89 = .ok (.getfield 35, 3) := by decide +kernel
theorem dX11_init_92 : decode cX11_init 92 = .ok (.invokespecial 50, 3) := by decide +kernel
theorem dX11_init_95 : decode cX11_init 95 = .ok (.putfield 53, 3) := by decide +kernel
theorem dX11_init_98 : decode cX11_init 98 = .ok (.aload_n 0, 1) := by decide +kernel
theorem dX11_init_99 : decode cX11_init 99 = .ok (.new 57, 3) := by decide +kernel
theorem dX11_init_102 : decode cX11_init 102 = .ok (.dup, 1) := by decide +kernel
theorem dX11_init_103 : decode cX11_init 103 = .ok (.aload_n 0, 1) := by decide +kernel
theorem dX11_init_104 : decode cX11_init 104 = .ok (.getfield 10, 3) := by decide +kernel
theorem dX11_init_107 : decode cX11_init 107 = .ok (.aload_n 0, 1) := by decide +kernel
theorem dX11_init_108 : decode cX11_init 108 = .ok (.getfield 35, 3) := by decide +kernel
theorem dX11_init_111 : decode cX11_init 111 = .ok (.invokespecial 59, 3) := by decide +kernel
theorem dX11_init_114 : decode cX11_init 114 = .ok (.putfield 60, 3) := by decide +kernel
theorem dX11_init_117 : decode cX11_init 117 = .ok (.aload_n 0, 1) := by decide +kernel
theorem dX11_init_118 : decode cX11_init 118 = .ok (.new 64, 3) := by decide +kernel
theorem dX11_init_121 : decode cX11_init 121 = .ok (.dup, 1) := by decide +kernel
theorem dX11_init_122 : decode cX11_init 122 = .ok (.aload_n 0, 1) := by decide +kernel
theorem dX11_init_123 : decode cX11_init 123 = .ok (.getfield 10, 3) := by decide +kernel
theorem dX11_init_126 : decode cX11_init 126 = .ok (.invokespecial 66, 3) := by decide +kernel
theorem dX11_init_129 : decode cX11_init 129 = .ok (.putfield 69, 3) := by decide +kernel
theorem dX11_init_132 : decode cX11_init 132 = .ok (.aload_n 0, 1) := by decide +kernel
theorem dX11_init_133 : decode cX11_init 133 = .ok (.bipush 8, 2) := by decide +kernel
theorem dX11_init_135 : decode cX11_init 135 = .ok (.anewarray 16, 3) := by decide +kernel
theorem dX11_init_138 : decode cX11_init 138 = .ok (.putfield 73, 3) := by decide +kernel
theorem dX11_init_141 : decode cX11_init 141 = .ok (.aload_n 0, 1) := by decide +kernel
theorem dX11_init_142 : decode cX11_init 142 = .ok (.bipush 8, 2) := by decide +kernel
theorem dX11_init_144 : decode cX11_init 144 = .ok (.newarray .int, 2) := by decide +kernel
theorem dX11_init_146 : decode cX11_init 146 = .ok (.putfield 77, 3) := by decide +kernel
theorem dX11_init_149 : decode cX11_init 149 = .ok (.aload_n 0, 1) := by decide +kernel
theorem dX11_init_150 : decode cX11_init 150 = .ok (.bipush 8, 2) := by decide +kernel
theorem dX11_init_152 : decode cX11_init 152 = .ok (.newarray .int, 2) := by decide +kernel
theorem dX11_init_154 : decode cX11_init 154 = .ok (.putfield 81, 3) := by decide +kernel
theorem dX11_init_157 : decode cX11_init 157 = .ok (.aload_n 0, 1) := by decide +kernel
theorem dX11_init_158 : decode cX11_init 158 = .ok (.iconst 1, 1) := by decide +kernel
theorem dX11_init_159 : decode cX11_init 159 = .ok (.putfield 84, 3) := by decide +kernel
theorem dX11_init_162 : decode cX11_init 162 = .ok (.iconst 0, 1) := by decide +kernel
theorem dX11_init_163 : decode cX11_init 163 = .ok (.istore_n 1, 1) := by decide +kernel
theorem dX11_init_164 : decode cX11_init 164 = .ok (.iload_n 1, 1) := by decide +kernel
theorem dX11_init_165 : decode cX11_init 165 = .ok (.bipush 8, 2) := by decide +kernel
theorem dX11_init_167 : decode cX11_init 167 = .ok (.if_icmp .ge 22, 3) := by decide +kernel
theorem dX11_init_170 : decode cX11_init 170 = .ok (.aload_n 0, 1) := by decide +kernel
theorem dX11_init_171 : decode cX11_init 171 = .ok (.getfield 73, 3) := by decide +kernel
theorem dX11_init_174 : decode cX11_init 174 = .ok (.iload_n 1, 1) := by decide +kernel
theorem dX11_init_175 : decode cX11_init 175 = .ok (.new 16, 3) := by decide +kernel
theorem dX11_init_178 : decode cX11_init 178 = .ok (.dup, 1) := by decide +kernel
theorem dX11_init_179 : decode cX11_init 179 = .ok (.invokespecial 18, 3) := by decide +kernel
theorem dX11_init_182 : decode cX11_init 182 = .ok (.aastore, 1) := by decide +kernel
theorem dX11_init_183 : decode cX11_init 183 = .ok (.iinc 1 1, 3) := by decide +kernel
theorem dX11_init_186 : decode cX11_init 186 = .ok (.goto (-22), 3) := by decide +kernel
theorem dX11_init_189 : decode cX11_init 189 = .ok (.return_, 1) := by decide +kernel
set_option maxRecDepth 20000 in
theorem ggX11_group_X7_fits : GoodIn wsX11_group wsX7_fits := goodIn_r _ [12] (by decide +kernel) (by decide +kernel)
set_option maxRecDepth 20000 in
theorem gX11_group_X7_fits : GoodIn wsX11_group (va_wsS RX11 88 yX7_fits wsX7_fits) := goodIn_app (goodIn_of _ (by decide +kernel)) ggX11_group_X7_fits
set_option maxRecDepth 20000 in
theorem ggX11_group_X7_take : GoodIn wsX11_group wsX7_take := goodIn_r _ [16, 17, 18, 19, 20, 21, 22, 23, 24, 25, 26, 27, 28, 29, 11, 30, 31, 32, 33, 34, 35, 36, 37, 38, 39, 40, 41, 42, 43, 44, 45, 46, 47, 48, 49, 50, 51, 52, 53, 54, 55, 56, 57, 58, 115, 116, 117, 118, 119, 120, 121, 122, 123] (by decide +kernel) (by decide +kernel)
set_option maxRecDepth 20000 in
theorem gX11_group_X7_take : GoodIn wsX11_group (wsV RX11 92 RX7 yX7_take wsX7_take) := goodIn_app (goodIn_of _ (by decide +kernel)) ggX11_group_X7_take
set_option maxRecDepth 20000 in
theorem ggX11_group_X4_begin : GoodIn wsX11_group wsX4_begin := goodIn_r _ [63, 64, 65, 66, 67, 68, 69, 70, 71, 72, 73, 74, 75, 76, 77, 78, 79, 80, 81, 82, 83, 124, 125, 126, 127, 128, 129, 130] (by decide +kernel) (by decide +kernel)
set_option maxRecDepth 20000 in
theorem gX11_group_X4_begin : GoodIn wsX11_group (wsV RX11 96 RX4 yX4_begin wsX4_begin) := goodIn_app (goodIn_of _ (by decide +kernel)) ggX11_group_X4_begin
set_option maxRecDepth 20000 in
theorem ggX11_group_X3_clear : GoodIn wsX11_group wsX3_clear := goodIn_r _ [88, 89, 90, 91, 69, 70, 71, 131, 132, 133, 134, 135, 136, 137, 138] (by decide +kernel) (by decide +kernel)
set_option maxRecDepth 20000 in
theorem gX11_group_X3_clear : GoodIn wsX11_group (wsV RX11 99 RX3 yX3_clear wsX3_clear) := goodIn_app (goodIn_of _ (by decide +kernel)) ggX11_group_X3_clear
set_option maxRecDepth 20000 in
theorem ggX11_group_X1_forget : GoodIn wsX11_group wsX1_forget := goodIn_r _ [96, 97, 139, 140, 141, 142, 143, 144] (by decide +kernel) (by decide +kernel)
set_option maxRecDepth 20000 in
theorem gX11_group_X1_forget : GoodIn wsX11_group (wsV RX11 102 RX1 yX1_forget wsX1_forget) := goodIn_app (goodIn_of _ (by decide +kernel)) ggX11_group_X1_forget
set_option maxRecDepth 20000 in
theorem ggX11_group_J7_fill_53178 : GoodIn wsX11_group wsJ7_fill_53178 := goodIn_r _ [71] (by decide +kernel) (by decide +kernel)
set_option maxRecDepth 20000 in
theorem gX11_group_J7_fill_53178 : GoodIn wsX11_group (va_wsS RX11 105 yJ7_fill_53178 wsJ7_fill_53178) := goodIn_app (goodIn_of _ (by decide +kernel)) ggX11_group_J7_fill_53178
theorem dX11_group_0 : decode cX11_group 0 = .ok (.iload_n 1, 1) := by decide +kernel
theorem dX11_group_1 : decode cX11_group 1 = .ok (.iload_n 2, 1) := by decide +kernel
theorem dX11_group_2 : decode cX11_group 2 = .ok (.iload_n 3, 1) := by decide +kernel
theorem dX11_group_3 : decode cX11_group 3 = .ok (.iload 4, 2) := by decide +kernel
theorem dX11_group_5 : decode cX11_group 5 = .ok (.invokestatic 88, 3) := by decide +kernel
theorem dX11_group_8 : decode cX11_group 8 = .ok (.ifCond .ne 5, 3) := by decide +kernel
theorem dX11_group_11 : decode cX11_group 11 = .ok (.iconst 0, 1) := by decide +kernel
theorem dX11_group_12 : decode cX11_group 12 = .ok (.ireturn, 1) := by decide +kernel
theorem dX11_group_13 : decode cX11_group 13 = .ok (.aload_n 0, 1) := by decide +kernel
theorem dX11_group_14 : decode cX11_group 14 = .ok (.getfield 10, 3) := by decide +kernel
theorem dX11_group_17 : decode cX11_group 17 = .ok (.iload_n 1, 1) := by decide +kernel
theorem dX11_group_18 : decode cX11_group 18 = .ok (.iload_n 2, 1) := by decide +kernel
theorem dX11_group_19 : decode cX11_group 19 = .ok (.iload_n 3, 1) := by decide +kernel
theorem dX11_group_20 : decode cX11_group 20 = .ok (.iload 4, 2) := by decide +kernel
theorem dX11_group_22 : decode cX11_group 22 = .ok (.invokevirtual 92, 3) := by decide +kernel
theorem dX11_group_25 : decode cX11_group 25 = .ok (.aload_n 0, 1) := by decide +kernel
theorem dX11_group_26 : decode cX11_group 26 = .ok (.getfield 19, 3) := by decide +kernel
theorem dX11_group_29 : decode cX11_group 29 = .ok (.invokevirtual 96, 3) := by decide +kernel
theorem dX11_group_32 : decode cX11_group 32 = .ok (.aload_n 0, 1) := by decide +kernel
theorem dX11_group_33 : decode cX11_group 33 = .ok (.getfield 26, 3) := by decide +kernel
theorem dX11_group_36 : decode cX11_group 36 = .ok (.invokevirtual 99, 3) := by decide +kernel
theorem dX11_group_39 : decode cX11_group 39 = .ok (.aload_n 0, 1) := by decide +kernel
theorem dX11_group_40 : decode cX11_group 40 = .ok (.getfield 69, 3) := by decide +kernel
theorem dX11_group_43 : decode cX11_group 43 = .ok (.invokevirtual 102, 3) := by decide +kernel
theorem dX11_group_46 : decode cX11_group 46 = .ok (.aload_n 0, 1) := by decide +kernel
theorem dX11_group_47 : decode cX11_group 47 = .ok (.getfield 81, 3) := by decide +kernel
theorem dX11_group_50 : decode cX11_group 50 = .ok (.iconst 0, 1) := by decide +kernel
theorem dX11_group_51 : decode cX11_group 51 = .ok (.invokestatic 105, 3) := by decide +kernel
theorem dX11_group_54 : decode cX11_group 54 = .ok (.aload_n 0, 1) := by decide +kernel
theorem dX11_group_55 : decode cX11_group 55 = .ok (.iconst 0, 1) := by decide +kernel
theorem dX11_group_56 : decode cX11_group 56 = .ok (.putfield 111, 3) := by decide +kernel
theorem dX11_group_59 : decode cX11_group 59 = .ok (.aload_n 0, 1) := by decide +kernel
theorem dX11_group_60 : decode cX11_group 60 = .ok (.iconst 0, 1) := by decide +kernel
theorem dX11_group_61 : decode cX11_group 61 = .ok (.putfield 114, 3) := by decide +kernel
theorem dX11_group_64 : decode cX11_group 64 = .ok (.aload_n 0, 1) := by decide +kernel
theorem dX11_group_65 : decode cX11_group 65 = .ok (.dup, 1) := by decide +kernel
theorem dX11_group_66 : decode cX11_group 66 = .ok (.getfield 84, 3) := by decide +kernel
theorem dX11_group_69 : decode cX11_group 69 = .ok (.iconst 1, 1) := by decide +kernel
theorem dX11_group_70 : decode cX11_group 70 = .ok (.iadd, 1) := by decide +kernel
theorem dX11_group_71 : decode cX11_group 71 = .ok (.putfield 84, 3) := by decide +kernel
theorem dX11_group_74 : decode cX11_group 74 = .ok (.iconst 1, 1) := by decide +kernel
theorem dX11_group_75 : decode cX11_group 75 = .ok (.ireturn, 1) := by decide +kernel
theorem dX11_protocol_0 : decode cX11_protocol 0 = .ok (.iload_n 1, 1) := by decide +kernel
theorem dX11_protocol_1 : decode cX11_protocol 1 = .ok (.ifCond .lt 8, 3) := by decide +kernel
theorem dX11_protocol_4 : decode cX11_protocol 4 = .ok (.iload_n 1, 1) := by decide +kernel
theorem dX11_protocol_5 : decode cX11_protocol 5 = .ok (.iconst 2, 1) := by decide +kernel
theorem dX11_protocol_6 : decode cX11_protocol 6 = .ok (.if_icmp .le 5, 3) := by decide +kernel
theorem dX11_protocol_9 : decode cX11_protocol 9 = .ok (.iconst (-1), 1) := by decide +kernel
theorem dX11_protocol_10 : decode cX11_protocol 10 = .ok (.ireturn, 1) := by decide +kernel
theorem dX11_protocol_11 : decode cX11_protocol 11 = .ok (.aload_n 0, 1) := by decide +kernel
theorem dX11_protocol_12 : decode cX11_protocol 12 = .ok (.getfield 10, 3) := by decide +kernel
theorem dX11_protocol_15 : decode cX11_protocol 15 = .ok (.getfield 117, 3) := by decide +kernel
theorem dX11_protocol_18 : decode cX11_protocol 18 = .ok (.istore_n 2, 1) := by decide +kernel
theorem dX11_protocol_19 : decode cX11_protocol 19 = .ok (.aload_n 0, 1) := by decide +kernel
theorem dX11_protocol_20 : decode cX11_protocol 20 = .ok (.getfield 10, 3) := by decide +kernel
theorem dX11_protocol_23 : decode cX11_protocol 23 = .ok (.iload_n 1, 1) := by decide +kernel
theorem dX11_protocol_24 : decode cX11_protocol 24 = .ok (.putfield 117, 3) := by decide +kernel
theorem dX11_protocol_27 : decode cX11_protocol 27 = .ok (.aload_n 0, 1) := by decide +kernel
theorem dX11_protocol_28 : decode cX11_protocol 28 = .ok (.dup, 1) := by decide +kernel
theorem dX11_protocol_29 : decode cX11_protocol 29 = .ok (.getfield 84, 3) := by decide +kernel
theorem dX11_protocol_32 : decode cX11_protocol 32 = .ok (.iconst 1, 1) := by decide +kernel
theorem dX11_protocol_33 : decode cX11_protocol 33 = .ok (.iadd, 1) := by decide +kernel
theorem dX11_protocol_34 : decode cX11_protocol 34 = .ok (.putfield 84, 3) := by decide +kernel
theorem dX11_protocol_37 : decode cX11_protocol 37 = .ok (.iload_n 2, 1) := by decide +kernel
theorem dX11_protocol_38 : decode cX11_protocol 38 = .ok (.ireturn, 1) := by decide +kernel
theorem dX11_early_0 : decode cX11_early 0 = .ok (.iload_n 1, 1) := by decide +kernel
theorem dX11_early_1 : decode cX11_early 1 = .ok (.iconst 1, 1) := by decide +kernel
theorem dX11_early_2 : decode cX11_early 2 = .ok (.if_icmp .lt 14, 3) := by decide +kernel
theorem dX11_early_5 : decode cX11_early 5 = .ok (.iload_n 1, 1) := by decide +kernel
theorem dX11_early_6 : decode cX11_early 6 = .ok (.aload_n 0, 1) := by decide +kernel
theorem dX11_early_7 : decode cX11_early 7 = .ok (.getfield 10, 3) := by decide +kernel
theorem dX11_early_10 : decode cX11_early 10 = .ok (.getfield 120, 3) := by decide +kernel
theorem dX11_early_13 : decode cX11_early 13 = .ok (.if_icmp .le 5, 3) := by decide +kernel
theorem dX11_early_16 : decode cX11_early 16 = .ok (.iconst (-1), 1) := by decide +kernel
theorem dX11_early_17 : decode cX11_early 17 = .ok (.ireturn, 1) := by decide +kernel
theorem dX11_early_18 : decode cX11_early 18 = .ok (.aload_n 0, 1) := by decide +kernel
theorem dX11_early_19 : decode cX11_early 19 = .ok (.getfield 10, 3) := by decide +kernel
theorem dX11_early_22 : decode cX11_early 22 = .ok (.getfield 123, 3) := by decide +kernel
theorem dX11_early_25 : decode cX11_early 25 = .ok (.istore_n 2, 1) := by decide +kernel
theorem dX11_early_26 : decode cX11_early 26 = .ok (.aload_n 0, 1) := by decide +kernel
theorem dX11_early_27 : decode cX11_early 27 = .ok (.getfield 10, 3) := by decide +kernel
theorem dX11_early_30 : decode cX11_early 30 = .ok (.iload_n 1, 1) := by decide +kernel
theorem dX11_early_31 : decode cX11_early 31 = .ok (.putfield 123, 3) := by decide +kernel
theorem dX11_early_34 : decode cX11_early 34 = .ok (.iload_n 2, 1) := by decide +kernel
theorem dX11_early_35 : decode cX11_early 35 = .ok (.ireturn, 1) := by decide +kernel
set_option maxRecDepth 20000 in
theorem ggX11_kind_X7_isNode : GoodIn wsX11_kind wsX7_isNode := goodIn_r _ [8, 9, 65, 66, 67, 68, 69, 70, 71, 72, 73] (by decide +kernel) (by decide +kernel)
set_option maxRecDepth 20000 in
theorem gX11_kind_X7_isNode : GoodIn wsX11_kind (wsV RX11 126 RX7 yX7_isNode wsX7_isNode) := goodIn_app (goodIn_of _ (by decide +kernel)) ggX11_kind_X7_isNode
set_option maxRecDepth 20000 in
theorem ggX11_kind_X11_keep : GoodIn wsX11_kind wsX11_keep := goodIn_r _ [14, 15, 16, 2, 17, 18, 19, 20, 21, 22, 23, 24, 25, 26, 27, 28, 29, 30, 31, 32, 33, 34, 35, 36, 37, 38, 39, 40, 41, 42, 43, 44, 45, 46, 47, 48, 49, 50, 51, 52, 53, 54, 55, 56, 57, 58, 59, 60, 61, 62, 63, 64, 74, 75, 76] (by decide +kernel) (by decide +kernel)
set_option maxRecDepth 20000 in
theorem gX11_kind_X11_keep : GoodIn wsX11_kind (wsV RX11 130 RX11 yX11_keep wsX11_keep) := goodIn_app (goodIn_of _ (by decide +kernel)) ggX11_kind_X11_keep
theorem dX11_kind_0 : decode cX11_kind 0 = .ok (.aload_n 0, 1) := by decide +kernel
theorem dX11_kind_1 : decode cX11_kind 1 = .ok (.getfield 10, 3) := by decide +kernel
theorem dX11_kind_4 : decode cX11_kind 4 = .ok (.iload_n 1, 1) := by decide +kernel
theorem dX11_kind_5 : decode cX11_kind 5 = .ok (.invokevirtual 126, 3) := by decide +kernel
theorem dX11_kind_8 : decode cX11_kind 8 = .ok (.ifCond .eq 12, 3) := by decide +kernel
theorem dX11_kind_11 : decode cX11_kind 11 = .ok (.iload_n 2, 1) := by decide +kernel
theorem dX11_kind_12 : decode cX11_kind 12 = .ok (.ifCond .lt 8, 3) := by decide +kernel
theorem dX11_kind_15 : decode cX11_kind 15 = .ok (.iload_n 2, 1) := by decide +kernel
theorem dX11_kind_16 : decode cX11_kind 16 = .ok (.iconst 4, 1) := by decide +kernel
theorem dX11_kind_17 : decode cX11_kind 17 = .ok (.if_icmp .le 5, 3) := by decide +kernel
theorem dX11_kind_20 : decode cX11_kind 20 = .ok (.iconst (-1), 1) := by decide +kernel
theorem dX11_kind_21 : decode cX11_kind 21 = .ok (.ireturn, 1) := by decide +kernel
theorem dX11_kind_22 : decode cX11_kind 22 = .ok (.aload_n 0, 1) := by decide +kernel
theorem dX11_kind_23 : decode cX11_kind 23 = .ok (.invokevirtual 130, 3) := by decide +kernel
theorem dX11_kind_26 : decode cX11_kind 26 = .ok (.aload_n 0, 1) := by decide +kernel
theorem dX11_kind_27 : decode cX11_kind 27 = .ok (.getfield 19, 3) := by decide +kernel
theorem dX11_kind_30 : decode cX11_kind 30 = .ok (.getfield 133, 3) := by decide +kernel
theorem dX11_kind_33 : decode cX11_kind 33 = .ok (.iload_n 1, 1) := by decide +kernel
theorem dX11_kind_34 : decode cX11_kind 34 = .ok (.iaload, 1) := by decide +kernel
theorem dX11_kind_35 : decode cX11_kind 35 = .ok (.istore_n 3, 1) := by decide +kernel
theorem dX11_kind_36 : decode cX11_kind 36 = .ok (.aload_n 0, 1) := by decide +kernel
theorem dX11_kind_37 : decode cX11_kind 37 = .ok (.getfield 19, 3) := by decide +kernel
theorem dX11_kind_40 : decode cX11_kind 40 = .ok (.getfield 133, 3) := by decide +kernel
theorem dX11_kind_43 : decode cX11_kind 43 = .ok (.iload_n 1, 1) := by decide +kernel
theorem dX11_kind_44 : decode cX11_kind 44 = .ok (.iload_n 2, 1) := by decide +kernel
theorem dX11_kind_45 : decode cX11_kind 45 = .ok (.iastore, 1) := by decide +kernel
theorem dX11_kind_46 : decode cX11_kind 46 = .ok (.iload_n 3, 1) := by decide +kernel
theorem dX11_kind_47 : decode cX11_kind 47 = .ok (.ireturn, 1) := by decide +kernel
set_option maxRecDepth 20000 in
theorem ggX11_link_X7_isNode : GoodIn wsX11_link wsX7_isNode := goodIn_r _ [8, 9, 69, 70, 71, 72, 73, 74, 75, 76, 77] (by decide +kernel) (by decide +kernel)
set_option maxRecDepth 20000 in
theorem gX11_link_X7_isNode : GoodIn wsX11_link (wsV RX11 126 RX7 yX7_isNode wsX7_isNode) := goodIn_app (goodIn_of _ (by decide +kernel)) ggX11_link_X7_isNode
set_option maxRecDepth 20000 in
theorem ggX11_link_X4_isLinked : GoodIn wsX11_link wsX4_isLinked := goodIn_r _ [14, 15, 65, 66, 67, 68] (by decide +kernel) (by decide +kernel)
set_option maxRecDepth 20000 in
theorem gX11_link_X4_isLinked : GoodIn wsX11_link (wsV RX11 136 RX4 yX4_isLinked wsX4_isLinked) := goodIn_app (goodIn_of _ (by decide +kernel)) ggX11_link_X4_isLinked
set_option maxRecDepth 20000 in
theorem ggX11_link_X11_keep : GoodIn wsX11_link wsX11_keep := goodIn_r _ [20, 21, 22, 2, 23, 24, 25, 26, 27, 28, 29, 30, 31, 13, 32, 33, 34, 35, 36, 37, 38, 15, 39, 40, 41, 42, 43, 44, 45, 46, 47, 48, 49, 50, 51, 52, 53, 54, 55, 56, 57, 58, 59, 60, 61, 62, 63, 64, 65, 66, 67, 68, 78, 79, 80] (by decide +kernel) (by decide +kernel)
set_option maxRecDepth 20000 in
theorem gX11_link_X11_keep : GoodIn wsX11_link (wsV RX11 130 RX11 yX11_keep wsX11_keep) := goodIn_app (goodIn_of _ (by decide +kernel)) ggX11_link_X11_keep
theorem dX11_link_0 : decode cX11_link 0 = .ok (.aload_n 0, 1) := by decide +kernel
theorem dX11_link_1 : decode cX11_link 1 = .ok (.getfield 10, 3) := by decide +kernel
theorem dX11_link_4 : decode cX11_link 4 = .ok (.iload_n 1, 1) := by decide +kernel
theorem dX11_link_5 : decode cX11_link 5 = .ok (.invokevirtual 126, 3) := by decide +kernel
theorem dX11_link_8 : decode cX11_link 8 = .ok (.ifCond .eq 32, 3) := by decide +kernel
theorem dX11_link_11 : decode cX11_link 11 = .ok (.aload_n 0, 1) := by decide +kernel
theorem dX11_link_12 : decode cX11_link 12 = .ok (.getfield 10, 3) := by decide +kernel
theorem dX11_link_15 : decode cX11_link 15 = .ok (.iload_n 2, 1) := by decide +kernel
theorem dX11_link_16 : decode cX11_link 16 = .ok (.invokevirtual 126, 3) := by decide +kernel
theorem dX11_link_19 : decode cX11_link 19 = .ok (.ifCond .eq 21, 3) := by decide +kernel
theorem dX11_link_22 : decode cX11_link 22 = .ok (.iload_n 1, 1) := by decide +kernel
theorem dX11_link_23 : decode cX11_link 23 = .ok (.iload_n 2, 1) := by decide +kernel
theorem dX11_link_24 : decode cX11_link 24 = .ok (.if_icmp .eq 16, 3) := by decide +kernel
theorem dX11_link_27 : decode cX11_link 27 = .ok (.aload_n 0, 1) := by decide +kernel
theorem dX11_link_28 : decode cX11_link 28 = .ok (.getfield 19, 3) := by decide +kernel
theorem dX11_link_31 : decode cX11_link 31 = .ok (.iload_n 1, 1) := by decide +kernel
theorem dX11_link_32 : decode cX11_link 32 = .ok (.iload_n 2, 1) := by decide +kernel
theorem dX11_link_33 : decode cX11_link 33 = .ok (.invokevirtual 136, 3) := by decide +kernel
theorem dX11_link_36 : decode cX11_link 36 = .ok (.iload_n 3, 1) := by decide +kernel
theorem dX11_link_37 : decode cX11_link 37 = .ok (.if_icmp .ne 5, 3) := by decide +kernel
theorem dX11_link_40 : decode cX11_link 40 = .ok (.iconst 0, 1) := by decide +kernel
theorem dX11_link_41 : decode cX11_link 41 = .ok (.ireturn, 1) := by decide +kernel
theorem dX11_link_42 : decode cX11_link 42 = .ok (.aload_n 0, 1) := by decide +kernel
theorem dX11_link_43 : decode cX11_link 43 = .ok (.invokevirtual 130, 3) := by decide +kernel
theorem dX11_link_46 : decode cX11_link 46 = .ok (.aload_n 0, 1) := by decide +kernel
theorem dX11_link_47 : decode cX11_link 47 = .ok (.getfield 19, 3) := by decide +kernel
theorem dX11_link_50 : decode cX11_link 50 = .ok (.getfield 140, 3) := by decide +kernel
theorem dX11_link_53 : decode cX11_link 53 = .ok (.iload_n 1, 1) := by decide +kernel
theorem dX11_link_54 : decode cX11_link 54 = .ok (.dup2, 1) := by decide +kernel
theorem dX11_link_55 : decode cX11_link 55 = .ok (.iaload, 1) := by decide +kernel
theorem dX11_link_56 : decode cX11_link 56 = .ok (.iconst 1, 1) := by decide +kernel
theorem dX11_link_57 : decode cX11_link 57 = .ok (.iload_n 2, 1) := by decide +kernel
theorem dX11_link_58 : decode cX11_link 58 = .ok (.ishl, 1) := by decide +kernel
theorem dX11_link_59 : decode cX11_link 59 = .ok (.ixor, 1) := by decide +kernel
theorem dX11_link_60 : decode cX11_link 60 = .ok (.iastore, 1) := by decide +kernel
theorem dX11_link_61 : decode cX11_link 61 = .ok (.aload_n 0, 1) := by decide +kernel
theorem dX11_link_62 : decode cX11_link 62 = .ok (.getfield 19, 3) := by decide +kernel
theorem dX11_link_65 : decode cX11_link 65 = .ok (.getfield 140, 3) := by decide +kernel
theorem dX11_link_68 : decode cX11_link 68 = .ok (.iload_n 2, 1) := by decide +kernel
theorem dX11_link_69 : decode cX11_link 69 = .ok (.dup2, 1) := by decide +kernel
theorem dX11_link_70 : decode cX11_link 70 = .ok (.iaload, 1) := by decide +kernel
theorem dX11_link_71 : decode cX11_link 71 = .ok (.iconst 1, 1) := by decide +kernel
theorem dX11_link_72 : decode cX11_link 72 = .ok (.iload_n 1, 1) := by decide +kernel
theorem dX11_link_73 : decode cX11_link 73 = .ok (.ishl, 1) := by decide +kernel
theorem dX11_link_74 : decode cX11_link 74 = .ok (.ixor, 1) := by decide +kernel
theorem dX11_link_75 : decode cX11_link 75 = .ok (.iastore, 1) := by decide +kernel
theorem dX11_link_76 : decode cX11_link 76 = .ok (.iconst 1, 1) := by decide +kernel
theorem dX11_link_77 : decode cX11_link 77 = .ok (.ireturn, 1) := by decide +kernel
set_option maxRecDepth 20000 in
theorem ggX11_colour_X7_isNode : GoodIn wsX11_colour wsX7_isNode := goodIn_r _ [8, 9, 68, 69, 70, 71, 72, 73, 74, 75, 76] (by decide +kernel) (by decide +kernel)
set_option maxRecDepth 20000 in
theorem gX11_colour_X7_isNode : GoodIn wsX11_colour (wsV RX11 126 RX7 yX7_isNode wsX7_isNode) := goodIn_app (goodIn_of _ (by decide +kernel)) ggX11_colour_X7_isNode
set_option maxRecDepth 20000 in
theorem ggX11_colour_X11_keep : GoodIn wsX11_colour wsX11_keep := goodIn_r _ [14, 15, 16, 2, 17, 18, 19, 20, 21, 22, 23, 24, 25, 26, 27, 28, 29, 30, 31, 32, 33, 34, 35, 36, 37, 38, 39, 40, 41, 42, 43, 44, 48, 49, 50, 51, 52, 53, 54, 55, 56, 57, 58, 59, 60, 61, 62, 63, 64, 65, 66, 67, 77, 78, 79] (by decide +kernel) (by decide +kernel)
set_option maxRecDepth 20000 in
theorem gX11_colour_X11_keep : GoodIn wsX11_colour (wsV RX11 130 RX11 yX11_keep wsX11_keep) := goodIn_app (goodIn_of _ (by decide +kernel)) ggX11_colour_X11_keep
set_option maxRecDepth 20000 in
theorem ggX11_colour_X4_withColour : GoodIn wsX11_colour wsX4_withColour := goodIn_r _ [47] (by decide +kernel) (by decide +kernel)
set_option maxRecDepth 20000 in
theorem gX11_colour_X4_withColour : GoodIn wsX11_colour (va_wsS RX11 146 yX4_withColour wsX4_withColour) := goodIn_app (goodIn_of _ (by decide +kernel)) ggX11_colour_X4_withColour
theorem dX11_colour_0 : decode cX11_colour 0 = .ok (.aload_n 0, 1) := by decide +kernel
theorem dX11_colour_1 : decode cX11_colour 1 = .ok (.getfield 10, 3) := by decide +kernel
theorem dX11_colour_4 : decode cX11_colour 4 = .ok (.iload_n 1, 1) := by decide +kernel
theorem dX11_colour_5 : decode cX11_colour 5 = .ok (.invokevirtual 126, 3) := by decide +kernel
theorem dX11_colour_8 : decode cX11_colour 8 = .ok (.ifCond .eq 13, 3) := by decide +kernel
theorem dX11_colour_11 : decode cX11_colour 11 = .ok (.iload_n 2, 1) := by decide +kernel
theorem dX11_colour_12 : decode cX11_colour 12 = .ok (.iconst (-1), 1) := by decide +kernel
theorem dX11_colour_13 : decode cX11_colour 13 = .ok (.if_icmp .lt 8, 3) := by decide +kernel
theorem dX11_colour_16 : decode cX11_colour 16 = .ok (.iload_n 2, 1) := by decide +kernel
theorem dX11_colour_17 : decode cX11_colour 17 = .ok (.iconst 1, 1) := by decide +kernel
theorem dX11_colour_18 : decode cX11_colour 18 = .ok (.if_icmp .le 5, 3) := by decide +kernel
theorem dX11_colour_21 : decode cX11_colour 21 = .ok (.iconst 0, 1) := by decide +kernel
theorem dX11_colour_22 : decode cX11_colour 22 = .ok (.ireturn, 1) := by decide +kernel
theorem dX11_colour_23 : decode cX11_colour 23 = .ok (.aload_n 0, 1) := by decide +kernel
theorem dX11_colour_24 : decode cX11_colour 24 = .ok (.invokevirtual 130, 3) := by decide +kernel
theorem dX11_colour_27 : decode cX11_colour 27 = .ok (.aload_n 0, 1) := by decide +kernel
theorem dX11_colour_28 : decode cX11_colour 28 = .ok (.getfield 19, 3) := by decide +kernel
theorem dX11_colour_31 : decode cX11_colour 31 = .ok (.getfield 143, 3) := by decide +kernel
theorem dX11_colour_34 : decode cX11_colour 34 = .ok (.iload_n 1, 1) := by decide +kernel
theorem dX11_colour_35 : decode cX11_colour 35 = .ok (.iconst 0, 1) := by decide +kernel
theorem dX11_colour_36 : decode cX11_colour 36 = .ok (.iload_n 2, 1) := by decide +kernel
theorem dX11_colour_37 : decode cX11_colour 37 = .ok (.invokestatic 146, 3) := by decide +kernel
theorem dX11_colour_40 : decode cX11_colour 40 = .ok (.iastore, 1) := by decide +kernel
theorem dX11_colour_41 : decode cX11_colour 41 = .ok (.iconst 1, 1) := by decide +kernel
theorem dX11_colour_42 : decode cX11_colour 42 = .ok (.ireturn, 1) := by decide +kernel
set_option maxRecDepth 20000 in
theorem ggX11_query_X11_canAsk : GoodIn wsX11_query wsX11_canAsk := goodIn_r _ [5, 6, 7, 8, 9, 10, 11, 12, 13, 14, 15, 16, 17, 18, 19, 20, 21, 22, 23, 24, 25, 26, 27, 28, 29, 30, 31, 32, 33, 34, 35, 36, 37, 38, 39, 40, 41, 42, 43, 44, 45, 46, 47, 48, 49, 50, 51, 52, 53, 54, 55, 56, 57, 58, 59, 60, 61, 62, 63, 151, 152, 153, 154, 155, 156, 157, 158, 159, 160, 161, 162, 163, 164, 165, 166, 167, 168, 169, 170, 171, 172, 173, 174, 175, 176, 177, 178, 179, 180, 181, 182, 183, 184] (by decide +kernel) (by decide +kernel)
set_option maxRecDepth 20000 in
theorem gX11_query_X11_canAsk : GoodIn wsX11_query (wsV RX11 150 RX11 yX11_canAsk wsX11_canAsk) := goodIn_app (goodIn_of _ (by decide +kernel)) ggX11_query_X11_canAsk
set_option maxRecDepth 20000 in
theorem ggX11_query_X11_keep : GoodIn wsX11_query wsX11_keep := goodIn_r _ [67, 68, 69, 8, 70, 71, 72, 73, 74, 75, 76, 77, 78, 46, 79, 80, 81, 82, 83, 84, 85, 56, 86, 87, 88, 89, 90, 91, 92, 93, 94, 95, 151, 152, 153, 154, 155, 156, 157, 158, 159, 160, 161, 162, 163, 164, 165, 166, 167, 168, 169, 170, 185, 186, 187] (by decide +kernel) (by decide +kernel)
set_option maxRecDepth 20000 in
theorem gX11_query_X11_keep : GoodIn wsX11_query (wsV RX11 130 RX11 yX11_keep wsX11_keep) := goodIn_app (goodIn_of _ (by decide +kernel)) ggX11_query_X11_keep
set_option maxRecDepth 20000 in
theorem ggX11_query_X11_ask : GoodIn wsX11_query wsX11_ask := goodIn_r _ [99, 8, 9, 7, 100, 101, 102, 103, 35, 104, 38, 42, 105, 37, 106, 26, 27, 28, 29, 30, 31, 107, 108, 109, 110, 39, 111, 112, 44, 45, 46, 47, 113, 114, 115, 116, 43, 117, 118, 119, 120, 121, 122, 123, 124, 125, 126, 127, 128, 129, 130, 131, 132, 72, 73, 74, 133, 134, 135, 136, 137, 138, 139, 140, 141, 142, 143, 144, 145, 146, 147, 51, 148, 149, 150, 48, 49, 50, 151, 152, 153, 154, 155, 156, 157, 158, 159, 160, 161, 162, 163, 164, 165, 166, 167, 168, 169, 170, 180, 181, 182, 183, 184, 171, 172, 173, 174, 175, 176, 177, 178, 179] (by decide +kernel) (by decide +kernel)
set_option maxRecDepth 20000 in
theorem gX11_query_X11_ask : GoodIn wsX11_query (wsV RX11 153 RX11 yX11_ask wsX11_ask) := goodIn_app (goodIn_of _ (by decide +kernel)) ggX11_query_X11_ask
theorem dX11_query_0 : decode cX11_query 0 = .ok (.aload_n 0, 1) := by decide +kernel
theorem dX11_query_1 : decode cX11_query 1 = .ok (.iload_n 1, 1) := by decide +kernel
theorem dX11_query_2 : decode cX11_query 2 = .ok (.iload_n 2, 1) := by decide +kernel
theorem dX11_query_3 : decode cX11_query 3 = .ok (.invokevirtual 150, 3) := by decide +kernel
theorem dX11_query_6 : decode cX11_query 6 = .ok (.ifCond .ne 5, 3) := by decide +kernel
theorem dX11_query_9 : decode cX11_query 9 = .ok (.iconst (-1), 1) := by decide +kernel
theorem dX11_query_10 : decode cX11_query 10 = .ok (.ireturn, 1) := by decide +kernel
theorem dX11_query_11 : decode cX11_query 11 = .ok (.aload_n 0, 1) := by decide +kernel
theorem dX11_query_12 : decode cX11_query 12 = .ok (.invokevirtual 130, 3) := by decide +kernel
theorem dX11_query_15 : decode cX11_query 15 = .ok (.aload_n 0, 1) := by decide +kernel
theorem dX11_query_16 : decode cX11_query 16 = .ok (.iload_n 1, 1) := by decide +kernel
theorem dX11_query_17 : decode cX11_query 17 = .ok (.iload_n 2, 1) := by decide +kernel
theorem dX11_query_18 : decode cX11_query 18 = .ok (.invokevirtual 153, 3) := by decide +kernel
theorem dX11_query_21 : decode cX11_query 21 = .ok (.ireturn, 1) := by decide +kernel
set_option maxRecDepth 20000 in
theorem ggX11_would_X11_canAsk : GoodIn wsX11_would wsX11_canAsk := goodIn_r _ [13, 14, 8, 1, 2, 15, 16, 17, 18, 19, 20, 21, 22, 23, 24, 25, 26, 27, 28, 29, 30, 31, 32, 33, 34, 35, 36, 37, 38, 39, 40, 41, 42, 43, 44, 45, 46, 47, 48, 49, 50, 51, 52, 53, 54, 55, 56, 57, 58, 59, 60, 61, 62, 63, 64, 65, 66, 67, 68, 122, 123, 124, 125, 126, 127, 128, 129, 130, 131, 132, 133, 134, 135, 136, 137, 138, 139, 140, 141, 142, 143, 144, 145, 146, 147, 148, 149, 150, 151, 152, 153, 154, 155] (by decide +kernel) (by decide +kernel)
set_option maxRecDepth 20000 in
theorem gX11_would_X11_canAsk : GoodIn wsX11_would (wsV RX11 150 RX11 yX11_canAsk wsX11_canAsk) := goodIn_app (goodIn_of _ (by decide +kernel)) ggX11_would_X11_canAsk
set_option maxRecDepth 20000 in
theorem ggX11_would_X0_winner : GoodIn wsX11_would wsX0_winner := goodIn_r _ [72, 43, 47, 73, 42, 74, 31, 32, 33, 34, 35, 36, 151, 152, 153, 154, 155, 142, 143, 144, 145, 146, 147, 148, 149, 150] (by decide +kernel) (by decide +kernel)
set_option maxRecDepth 20000 in
theorem gX11_would_X0_winner : GoodIn wsX11_would (wsV RX11 162 RX0 yX0_winner wsX0_winner) := goodIn_app (goodIn_of _ (by decide +kernel)) ggX11_would_X0_winner
set_option maxRecDepth 20000 in
theorem ggX11_would_X0_settle : GoodIn wsX11_would wsX0_settle := goodIn_r _ [78, 44, 47, 79, 80, 49, 50, 51, 52, 81, 82, 83, 40, 84, 48, 85, 86, 87, 88, 89, 90, 91, 92, 93, 94, 95, 96, 97, 98, 99, 100, 101, 102, 103, 104, 105, 106, 107, 108, 109, 110, 111, 112, 113, 114, 115, 116, 117, 118, 56, 151, 152, 153, 154, 155, 142, 143, 144, 145, 146, 147, 148, 149, 150] (by decide +kernel) (by decide +kernel)
set_option maxRecDepth 20000 in
theorem gX11_would_X0_settle : GoodIn wsX11_would (wsV RX11 166 RX0 yX0_settle wsX0_settle) := goodIn_app (goodIn_of _ (by decide +kernel)) ggX11_would_X0_settle
set_option maxRecDepth 20000 in
theorem ggX11_would_X0_change : GoodIn wsX11_would wsX0_change := goodIn_r _ [121, 53, 54, 51, 55, 56, 49, 50, 52] (by decide +kernel) (by decide +kernel)
set_option maxRecDepth 20000 in
theorem gX11_would_X0_change : GoodIn wsX11_would (va_wsS RX11 170 yX0_change wsX0_change) := goodIn_app (goodIn_of _ (by decide +kernel)) ggX11_would_X0_change
theorem dX11_would_0 : decode cX11_would 0 = .ok (.aload_n 0, 1) := by decide +kernel
