theorem dX4_isLinked_4 : decode cX4_isLinked 4 = .ok (.iload_n 1, 1) := by decide +kernel
theorem dX4_isLinked_5 : decode cX4_isLinked 5 = .ok (.iaload, 1) := by decide +kernel
theorem dX4_isLinked_6 : decode cX4_isLinked 6 = .ok (.iload_n 2, 1) := by decide +kernel
theorem dX4_isLinked_7 : decode cX4_isLinked 7 = .ok (.ishr, 1) := by decide +kernel
theorem dX4_isLinked_8 : decode cX4_isLinked 8 = .ok (.iconst 1, 1) := by decide +kernel
theorem dX4_isLinked_9 : decode cX4_isLinked 9 = .ok (.iand, 1) := by decide +kernel
theorem dX4_isLinked_10 : decode cX4_isLinked 10 = .ok (.iconst 1, 1) := by decide +kernel
theorem dX4_isLinked_11 : decode cX4_isLinked 11 = .ok (.if_icmp .ne 7, 3) := by decide +kernel
theorem dX4_isLinked_14 : decode cX4_isLinked 14 = .ok (.iconst 1, 1) := by decide +kernel
theorem dX4_isLinked_15 : decode cX4_isLinked 15 = .ok (.goto 4, 3) := by decide +kernel
theorem dX4_isLinked_18 : decode cX4_isLinked 18 = .ok (.iconst 0, 1) := by decide +kernel
theorem dX4_isLinked_19 : decode cX4_isLinked 19 = .ok (.ireturn, 1) := by decide +kernel
theorem dX4_unlinkedPairs_0 : decode cX4_unlinkedPairs 0 = .ok (.iconst 0, 1) := by decide +kernel
theorem dX4_unlinkedPairs_1 : decode cX4_unlinkedPairs 1 = .ok (.istore_n 2, 1) := by decide +kernel
theorem dX4_unlinkedPairs_2 : decode cX4_unlinkedPairs 2 = .ok (.iconst 0, 1) := by decide +kernel
theorem dX4_unlinkedPairs_3 : decode cX4_unlinkedPairs 3 = .ok (.istore_n 3, 1) := by decide +kernel
theorem dX4_unlinkedPairs_4 : decode cX4_unlinkedPairs 4 = .ok (.iload_n 3, 1) := by decide +kernel
theorem dX4_unlinkedPairs_5 : decode cX4_unlinkedPairs 5 = .ok (.iload_n 1, 1) := by decide +kernel
theorem dX4_unlinkedPairs_6 : decode cX4_unlinkedPairs 6 = .ok (.if_icmp .ge 44, 3) := by decide +kernel
theorem dX4_unlinkedPairs_9 : decode cX4_unlinkedPairs 9 = .ok (.iload_n 3, 1) := by decide +kernel
theorem dX4_unlinkedPairs_10 : decode cX4_unlinkedPairs 10 = .ok (.iconst 1, 1) := by decide +kernel
theorem dX4_unlinkedPairs_11 : decode cX4_unlinkedPairs 11 = .ok (.iadd, 1) := by decide +kernel
theorem dX4_unlinkedPairs_12 : decode cX4_unlinkedPairs 12 = .ok (.istore 4, 2) := by decide +kernel
theorem dX4_unlinkedPairs_14 : decode cX4_unlinkedPairs 14 = .ok (.iload 4, 2) := by decide +kernel
theorem dX4_unlinkedPairs_16 : decode cX4_unlinkedPairs 16 = .ok (.iload_n 1, 1) := by decide +kernel
theorem dX4_unlinkedPairs_17 : decode cX4_unlinkedPairs 17 = .ok (.if_icmp .ge 27, 3) := by decide +kernel
theorem dX4_unlinkedPairs_20 : decode cX4_unlinkedPairs 20 = .ok (.iload_n 2, 1) := by decide +kernel
theorem dX4_unlinkedPairs_21 : decode cX4_unlinkedPairs 21 = .ok (.aload_n 0, 1) := by decide +kernel
theorem dX4_unlinkedPairs_22 : decode cX4_unlinkedPairs 22 = .ok (.iload_n 3, 1) := by decide +kernel
theorem dX4_unlinkedPairs_23 : decode cX4_unlinkedPairs 23 = .ok (.iload 4, 2) := by decide +kernel
theorem dX4_unlinkedPairs_25 : decode cX4_unlinkedPairs 25 = .ok (.invokevirtual 49, 3) := by decide +kernel
theorem dX4_unlinkedPairs_28 : decode cX4_unlinkedPairs 28 = .ok (.ifCond .eq 7, 3) := by decide +kernel
theorem dX4_unlinkedPairs_31 : decode cX4_unlinkedPairs 31 = .ok (.iconst 0, 1) := by decide +kernel
theorem dX4_unlinkedPairs_32 : decode cX4_unlinkedPairs 32 = .ok (.goto 4, 3) := by decide +kernel
theorem dX4_unlinkedPairs_35 : decode cX4_unlinkedPairs 35 = .ok (.iconst 1, 1) := by decide +kernel
theorem dX4_unlinkedPairs_36 : decode cX4_unlinkedPairs 36 = .ok (.iadd, 1) := by decide +kernel
theorem dX4_unlinkedPairs_37 : decode cX4_unlinkedPairs 37 = .ok (.istore_n 2, 1) := by decide +kernel
theorem dX4_unlinkedPairs_38 : decode cX4_unlinkedPairs 38 = .ok (.iinc 4 1, 3) := by decide +kernel
theorem dX4_unlinkedPairs_41 : decode cX4_unlinkedPairs 41 = .ok (.goto (-27), 3) := by decide +kernel
theorem dX4_unlinkedPairs_44 : decode cX4_unlinkedPairs 44 = .ok (.iinc 3 1, 3) := by decide +kernel
theorem dX4_unlinkedPairs_47 : decode cX4_unlinkedPairs 47 = .ok (.goto (-43), 3) := by decide +kernel
theorem dX4_unlinkedPairs_50 : decode cX4_unlinkedPairs 50 = .ok (.iload_n 2, 1) := by decide +kernel
theorem dX4_unlinkedPairs_51 : decode cX4_unlinkedPairs 51 = .ok (.ireturn, 1) := by decide +kernel
theorem dX4_honestBits_0 : decode cX4_honestBits 0 = .ok (.iconst 0, 1) := by decide +kernel
theorem dX4_honestBits_1 : decode cX4_honestBits 1 = .ok (.istore_n 2, 1) := by decide +kernel
theorem dX4_honestBits_2 : decode cX4_honestBits 2 = .ok (.iconst 0, 1) := by decide +kernel
theorem dX4_honestBits_3 : decode cX4_honestBits 3 = .ok (.istore_n 3, 1) := by decide +kernel
theorem dX4_honestBits_4 : decode cX4_honestBits 4 = .ok (.iload_n 3, 1) := by decide +kernel
theorem dX4_honestBits_5 : decode cX4_honestBits 5 = .ok (.iload_n 1, 1) := by decide +kernel
theorem dX4_honestBits_6 : decode cX4_honestBits 6 = .ok (.if_icmp .ge 28, 3) := by decide +kernel
theorem dX4_honestBits_9 : decode cX4_honestBits 9 = .ok (.iload_n 2, 1) := by decide +kernel
theorem dX4_honestBits_10 : decode cX4_honestBits 10 = .ok (.aload_n 0, 1) := by decide +kernel
theorem dX4_honestBits_11 : decode cX4_honestBits 11 = .ok (.getfield 15, 3) := by decide +kernel
theorem dX4_honestBits_14 : decode cX4_honestBits 14 = .ok (.iload_n 3, 1) := by decide +kernel
theorem dX4_honestBits_15 : decode cX4_honestBits 15 = .ok (.iaload, 1) := by decide +kernel
theorem dX4_honestBits_16 : decode cX4_honestBits 16 = .ok (.ifCond .ne 9, 3) := by decide +kernel
theorem dX4_honestBits_19 : decode cX4_honestBits 19 = .ok (.iconst 1, 1) := by decide +kernel
theorem dX4_honestBits_20 : decode cX4_honestBits 20 = .ok (.iload_n 3, 1) := by decide +kernel
theorem dX4_honestBits_21 : decode cX4_honestBits 21 = .ok (.ishl, 1) := by decide +kernel
theorem dX4_honestBits_22 : decode cX4_honestBits 22 = .ok (.goto 4, 3) := by decide +kernel
theorem dX4_honestBits_25 : decode cX4_honestBits 25 = .ok (.iconst 0, 1) := by decide +kernel
theorem dX4_honestBits_26 : decode cX4_honestBits 26 = .ok (.ior, 1) := by decide +kernel
theorem dX4_honestBits_27 : decode cX4_honestBits 27 = .ok (.istore_n 2, 1) := by decide +kernel
theorem dX4_honestBits_28 : decode cX4_honestBits 28 = .ok (.iinc 3 1, 3) := by decide +kernel
theorem dX4_honestBits_31 : decode cX4_honestBits 31 = .ok (.goto (-27), 3) := by decide +kernel
theorem dX4_honestBits_34 : decode cX4_honestBits 34 = .ok (.iload_n 2, 1) := by decide +kernel
theorem dX4_honestBits_35 : decode cX4_honestBits 35 = .ok (.ireturn, 1) := by decide +kernel
theorem dX4_decidedBits_0 : decode cX4_decidedBits 0 = .ok (.iconst 0, 1) := by decide +kernel
theorem dX4_decidedBits_1 : decode cX4_decidedBits 1 = .ok (.istore_n 2, 1) := by decide +kernel
theorem dX4_decidedBits_2 : decode cX4_decidedBits 2 = .ok (.iconst 0, 1) := by decide +kernel
theorem dX4_decidedBits_3 : decode cX4_decidedBits 3 = .ok (.istore_n 3, 1) := by decide +kernel
theorem dX4_decidedBits_4 : decode cX4_decidedBits 4 = .ok (.iload_n 3, 1) := by decide +kernel
theorem dX4_decidedBits_5 : decode cX4_decidedBits 5 = .ok (.iload_n 1, 1) := by decide +kernel
theorem dX4_decidedBits_6 : decode cX4_decidedBits 6 = .ok (.if_icmp .ge 31, 3) := by decide +kernel
theorem dX4_decidedBits_9 : decode cX4_decidedBits 9 = .ok (.iload_n 2, 1) := by decide +kernel
theorem dX4_decidedBits_10 : decode cX4_decidedBits 10 = .ok (.aload_n 0, 1) := by decide +kernel
theorem dX4_decidedBits_11 : decode cX4_decidedBits 11 = .ok (.getfield 9, 3) := by decide +kernel
theorem dX4_decidedBits_14 : decode cX4_decidedBits 14 = .ok (.iload_n 3, 1) := by decide +kernel
theorem dX4_decidedBits_15 : decode cX4_decidedBits 15 = .ok (.iaload, 1) := by decide +kernel
theorem dX4_decidedBits_16 : decode cX4_decidedBits 16 = .ok (.invokestatic 53, 3) := by decide +kernel
theorem dX4_decidedBits_19 : decode cX4_decidedBits 19 = .ok (.ifCond .eq 9, 3) := by decide +kernel
theorem dX4_decidedBits_22 : decode cX4_decidedBits 22 = .ok (.iconst 1, 1) := by decide +kernel
theorem dX4_decidedBits_23 : decode cX4_decidedBits 23 = .ok (.iload_n 3, 1) := by decide +kernel
theorem dX4_decidedBits_24 : decode cX4_decidedBits 24 = .ok (.ishl, 1) := by decide +kernel
theorem dX4_decidedBits_25 : decode cX4_decidedBits 25 = .ok (.goto 4, 3) := by decide +kernel
theorem dX4_decidedBits_28 : decode cX4_decidedBits 28 = .ok (.iconst 0, 1) := by decide +kernel
theorem dX4_decidedBits_29 : decode cX4_decidedBits 29 = .ok (.ior, 1) := by decide +kernel
theorem dX4_decidedBits_30 : decode cX4_decidedBits 30 = .ok (.istore_n 2, 1) := by decide +kernel
theorem dX4_decidedBits_31 : decode cX4_decidedBits 31 = .ok (.iinc 3 1, 3) := by decide +kernel
theorem dX4_decidedBits_34 : decode cX4_decidedBits 34 = .ok (.goto (-30), 3) := by decide +kernel
theorem dX4_decidedBits_37 : decode cX4_decidedBits 37 = .ok (.iload_n 2, 1) := by decide +kernel
theorem dX4_decidedBits_38 : decode cX4_decidedBits 38 = .ok (.ireturn, 1) := by decide +kernel
theorem dX5_init_0 : decode cX5_init 0 = .ok (.aload_n 0, 1) := by decide +kernel
theorem dX5_init_1 : decode cX5_init 1 = .ok (.invokespecial 3, 3) := by decide +kernel
theorem dX5_init_4 : decode cX5_init 4 = .ok (.aload_n 0, 1) := by decide +kernel
theorem dX5_init_5 : decode cX5_init 5 = .ok (.bipush 8, 2) := by decide +kernel
theorem dX5_init_7 : decode cX5_init 7 = .ok (.newarray .int, 2) := by decide +kernel
theorem dX5_init_9 : decode cX5_init 9 = .ok (.putfield 9, 3) := by decide +kernel
theorem dX5_init_12 : decode cX5_init 12 = .ok (.aload_n 0, 1) := by decide +kernel
theorem dX5_init_13 : decode cX5_init 13 = .ok (.bipush 13, 2) := by decide +kernel
theorem dX5_init_15 : decode cX5_init 15 = .ok (.newarray .long, 2) := by decide +kernel
theorem dX5_init_17 : decode cX5_init 17 = .ok (.putfield 15, 3) := by decide +kernel
theorem dX5_init_20 : decode cX5_init 20 = .ok (.aload_n 0, 1) := by decide +kernel
theorem dX5_init_21 : decode cX5_init 21 = .ok (.bipush 13, 2) := by decide +kernel
theorem dX5_init_23 : decode cX5_init 23 = .ok (.newarray .long, 2) := by decide +kernel
theorem dX5_init_25 : decode cX5_init 25 = .ok (.putfield 19, 3) := by decide +kernel
theorem dX5_init_28 : decode cX5_init 28 = .ok (.aload_n 0, 1) := by decide +kernel
theorem dX5_init_29 : decode cX5_init 29 = .ok (.bipush 13, 2) := by decide +kernel
theorem dX5_init_31 : decode cX5_init 31 = .ok (.bipush 9, 2) := by decide +kernel
theorem dX5_init_33 : decode cX5_init 33 = .ok (.multianewarray 22 2, 4) := by decide +kernel
theorem dX5_init_37 : decode cX5_init 37 = .ok (.putfield 24, 3) := by decide +kernel
theorem dX5_init_40 : decode cX5_init 40 = .ok (.aload_n 0, 1) := by decide +kernel
theorem dX5_init_41 : decode cX5_init 41 = .ok (.aload_n 1, 1) := by decide +kernel
theorem dX5_init_42 : decode cX5_init 42 = .ok (.putfield 27, 3) := by decide +kernel
theorem dX5_init_45 : decode cX5_init 45 = .ok (.aload_n 0, 1) := by decide +kernel
theorem dX5_init_46 : decode cX5_init 46 = .ok (.aload_n 2, 1) := by decide +kernel
theorem dX5_init_47 : decode cX5_init 47 = .ok (.putfield 31, 3) := by decide +kernel
theorem dX5_init_50 : decode cX5_init 50 = .ok (.return_, 1) := by decide +kernel
theorem dX5_reach_0 : decode cX5_reach 0 = .ok (.aload_n 0, 1) := by decide +kernel
theorem dX5_reach_1 : decode cX5_reach 1 = .ok (.getfield 35, 3) := by decide +kernel
theorem dX5_reach_4 : decode cX5_reach 4 = .ok (.ifnull 11, 3) := by decide +kernel
theorem dX5_reach_7 : decode cX5_reach 7 = .ok (.aload_n 0, 1) := by decide +kernel
theorem dX5_reach_8 : decode cX5_reach 8 = .ok (.getfield 39, 3) := by decide +kernel
theorem dX5_reach_11 : decode cX5_reach 11 = .ok (.iload_n 3, 1) := by decide +kernel
theorem dX5_reach_12 : decode cX5_reach 12 = .ok (.if_icmp .eq 13, 3) := by decide +kernel
theorem dX5_reach_15 : decode cX5_reach 15 = .ok (.aload_n 0, 1) := by decide +kernel
theorem dX5_reach_16 : decode cX5_reach 16 = .ok (.aload_n 2, 1) := by decide +kernel
theorem dX5_reach_17 : decode cX5_reach 17 = .ok (.invokevirtual 43, 3) := by decide +kernel
theorem dX5_reach_20 : decode cX5_reach 20 = .ok (.aload_n 0, 1) := by decide +kernel
theorem dX5_reach_21 : decode cX5_reach 21 = .ok (.iload_n 3, 1) := by decide +kernel
theorem dX5_reach_22 : decode cX5_reach 22 = .ok (.putfield 39, 3) := by decide +kernel
theorem dX5_reach_25 : decode cX5_reach 25 = .ok (.aload_n 0, 1) := by decide +kernel
theorem dX5_reach_26 : decode cX5_reach 26 = .ok (.getfield 47, 3) := by decide +kernel
theorem dX5_reach_29 : decode cX5_reach 29 = .ok (.iconst 1, 1) := by decide +kernel
theorem dX5_reach_30 : decode cX5_reach 30 = .ok (.iadd, 1) := by decide +kernel
theorem dX5_reach_31 : decode cX5_reach 31 = .ok (.istore 4, 2) := by decide +kernel
theorem dX5_reach_33 : decode cX5_reach 33 = .ok (.iload 4, 2) := by decide +kernel
theorem dX5_reach_35 : decode cX5_reach 35 = .ok (.iload_n 1, 1) := by decide +kernel
theorem dX5_reach_36 : decode cX5_reach 36 = .ok (.if_icmp .gt 55, 3) := by decide +kernel
theorem dX5_reach_39 : decode cX5_reach 39 = .ok (.aload_n 0, 1) := by decide +kernel
theorem dX5_reach_40 : decode cX5_reach 40 = .ok (.getfield 50, 3) := by decide +kernel
theorem dX5_reach_43 : decode cX5_reach 43 = .ok (.ifCond .ne 48, 3) := by decide +kernel
theorem dX5_reach_46 : decode cX5_reach 46 = .ok (.aload_n 0, 1) := by decide +kernel
theorem dX5_reach_47 : decode cX5_reach 47 = .ok (.aload_n 0, 1) := by decide +kernel
theorem dX5_reach_48 : decode cX5_reach 48 = .ok (.invokevirtual 54, 3) := by decide +kernel
theorem dX5_reach_51 : decode cX5_reach 51 = .ok (.ifCond .ne 7, 3) := by decide +kernel
theorem dX5_reach_54 : decode cX5_reach 54 = .ok (.iconst 1, 1) := by decide +kernel
theorem dX5_reach_55 : decode cX5_reach 55 = .ok (.goto 4, 3) := by decide +kernel
theorem dX5_reach_58 : decode cX5_reach 58 = .ok (.iconst 0, 1) := by decide +kernel
theorem dX5_reach_59 : decode cX5_reach 59 = .ok (.putfield 50, 3) := by decide +kernel
theorem dX5_reach_62 : decode cX5_reach 62 = .ok (.aload_n 0, 1) := by decide +kernel
theorem dX5_reach_63 : decode cX5_reach 63 = .ok (.getfield 50, 3) := by decide +kernel
theorem dX5_reach_66 : decode cX5_reach 66 = .ok (.ifCond .ne 19, 3) := by decide +kernel
theorem dX5_reach_69 : decode cX5_reach 69 = .ok (.aload_n 0, 1) := by decide +kernel
theorem dX5_reach_70 : decode cX5_reach 70 = .ok (.invokevirtual 58, 3) := by decide +kernel
theorem dX5_reach_73 : decode cX5_reach 73 = .ok (.aload_n 0, 1) := by decide +kernel
theorem dX5_reach_74 : decode cX5_reach 74 = .ok (.iload 4, 2) := by decide +kernel
theorem dX5_reach_76 : decode cX5_reach 76 = .ok (.invokevirtual 61, 3) := by decide +kernel
theorem dX5_reach_79 : decode cX5_reach 79 = .ok (.aload_n 0, 1) := by decide +kernel
theorem dX5_reach_80 : decode cX5_reach 80 = .ok (.iload 4, 2) := by decide +kernel
theorem dX5_reach_82 : decode cX5_reach 82 = .ok (.putfield 47, 3) := by decide +kernel
theorem dX5_reach_85 : decode cX5_reach 85 = .ok (.iinc 4 1, 3) := by decide +kernel
theorem dX5_reach_88 : decode cX5_reach 88 = .ok (.goto (-55), 3) := by decide +kernel
theorem dX5_reach_91 : decode cX5_reach 91 = .ok (.aload_n 0, 1) := by decide +kernel
theorem dX5_reach_92 : decode cX5_reach 92 = .ok (.getfield 47, 3) := by decide +kernel
theorem dX5_reach_95 : decode cX5_reach 95 = .ok (.iload_n 1, 1) := by decide +kernel
theorem dX5_reach_96 : decode cX5_reach 96 = .ok (.if_icmp .lt 7, 3) := by decide +kernel
theorem dX5_reach_99 : decode cX5_reach 99 = .ok (.iconst 1, 1) := by decide +kernel
theorem dX5_reach_100 : decode cX5_reach 100 = .ok (.goto 4, 3) := by decide +kernel
theorem dX5_reach_103 : decode cX5_reach 103 = .ok (.iconst 0, 1) := by decide +kernel
theorem dX5_reach_104 : decode cX5_reach 104 = .ok (.ireturn, 1) := by decide +kernel
theorem dX5_begin_0 : decode cX5_begin 0 = .ok (.aload_n 0, 1) := by decide +kernel
theorem dX5_begin_1 : decode cX5_begin 1 = .ok (.getfield 35, 3) := by decide +kernel
theorem dX5_begin_4 : decode cX5_begin 4 = .ok (.ifnonnull 43, 3) := by decide +kernel
theorem dX5_begin_7 : decode cX5_begin 7 = .ok (.aload_n 0, 1) := by decide +kernel
theorem dX5_begin_8 : decode cX5_begin 8 = .ok (.new 65, 3) := by decide +kernel
theorem dX5_begin_11 : decode cX5_begin 11 = .ok (.dup, 1) := by decide +kernel
theorem dX5_begin_12 : decode cX5_begin 12 = .ok (.invokespecial 67, 3) := by decide +kernel
theorem dX5_begin_15 : decode cX5_begin 15 = .ok (.putfield 35, 3) := by decide +kernel
theorem dX5_begin_18 : decode cX5_begin 18 = .ok (.aload_n 0, 1) := by decide +kernel
theorem dX5_begin_19 : decode cX5_begin 19 = .ok (.new 65, 3) := by decide +kernel
theorem dX5_begin_22 : decode cX5_begin 22 = .ok (.dup, 1) := by decide +kernel
theorem dX5_begin_23 : decode cX5_begin 23 = .ok (.invokespecial 67, 3) := by decide +kernel
theorem dX5_begin_26 : decode cX5_begin 26 = .ok (.putfield 68, 3) := by decide +kernel
theorem dX5_begin_29 : decode cX5_begin 29 = .ok (.aload_n 0, 1) := by decide +kernel
theorem dX5_begin_30 : decode cX5_begin 30 = .ok (.sipush 2000, 3) := by decide +kernel
theorem dX5_begin_33 : decode cX5_begin 33 = .ok (.newarray .long, 2) := by decide +kernel
theorem dX5_begin_35 : decode cX5_begin 35 = .ok (.putfield 71, 3) := by decide +kernel
theorem dX5_begin_38 : decode cX5_begin 38 = .ok (.aload_n 0, 1) := by decide +kernel
theorem dX5_begin_39 : decode cX5_begin 39 = .ok (.sipush 2000, 3) := by decide +kernel
theorem dX5_begin_42 : decode cX5_begin 42 = .ok (.newarray .long, 2) := by decide +kernel
theorem dX5_begin_44 : decode cX5_begin 44 = .ok (.putfield 74, 3) := by decide +kernel
theorem dX5_begin_47 : decode cX5_begin 47 = .ok (.aload_n 0, 1) := by decide +kernel
theorem dX5_begin_48 : decode cX5_begin 48 = .ok (.getfield 35, 3) := by decide +kernel
theorem dX5_begin_51 : decode cX5_begin 51 = .ok (.invokevirtual 77, 3) := by decide +kernel
theorem dX5_begin_54 : decode cX5_begin 54 = .ok (.aload_n 0, 1) := by decide +kernel
theorem dX5_begin_55 : decode cX5_begin 55 = .ok (.getfield 35, 3) := by decide +kernel
theorem dX5_begin_58 : decode cX5_begin 58 = .ok (.aload_n 0, 1) := by decide +kernel
theorem dX5_begin_59 : decode cX5_begin 59 = .ok (.getfield 35, 3) := by decide +kernel
theorem dX5_begin_62 : decode cX5_begin 62 = .ok (.aload_n 1, 1) := by decide +kernel
theorem dX5_begin_63 : decode cX5_begin 63 = .ok (.invokevirtual 80, 3) := by decide +kernel
theorem dX5_begin_66 : decode cX5_begin 66 = .ok (.aload_n 1, 1) := by decide +kernel
theorem dX5_begin_67 : decode cX5_begin 67 = .ok (.invokevirtual 84, 3) := by decide +kernel
theorem dX5_begin_70 : decode cX5_begin 70 = .ok (.pop, 1) := by decide +kernel
theorem dX5_begin_71 : decode cX5_begin 71 = .ok (.aload_n 0, 1) := by decide +kernel
theorem dX5_begin_72 : decode cX5_begin 72 = .ok (.getfield 71, 3) := by decide +kernel
theorem dX5_begin_75 : decode cX5_begin 75 = .ok (.iconst 0, 1) := by decide +kernel
theorem dX5_begin_76 : decode cX5_begin 76 = .ok (.lconst 1, 1) := by decide +kernel
theorem dX5_begin_77 : decode cX5_begin 77 = .ok (.lastore, 1) := by decide +kernel
theorem dX5_begin_78 : decode cX5_begin 78 = .ok (.aload_n 0, 1) := by decide +kernel
theorem dX5_begin_79 : decode cX5_begin 79 = .ok (.iconst 0, 1) := by decide +kernel
theorem dX5_begin_80 : decode cX5_begin 80 = .ok (.putfield 47, 3) := by decide +kernel
theorem dX5_begin_83 : decode cX5_begin 83 = .ok (.aload_n 0, 1) := by decide +kernel
theorem dX5_begin_84 : decode cX5_begin 84 = .ok (.iconst 0, 1) := by decide +kernel
theorem dX5_begin_85 : decode cX5_begin 85 = .ok (.putfield 50, 3) := by decide +kernel
theorem dX5_begin_88 : decode cX5_begin 88 = .ok (.return_, 1) := by decide +kernel
theorem dX5_turn_0 : decode cX5_turn 0 = .ok (.aload_n 0, 1) := by decide +kernel
theorem dX5_turn_1 : decode cX5_turn 1 = .ok (.getfield 35, 3) := by decide +kernel
theorem dX5_turn_4 : decode cX5_turn 4 = .ok (.astore_n 1, 1) := by decide +kernel
theorem dX5_turn_5 : decode cX5_turn 5 = .ok (.aload_n 0, 1) := by decide +kernel
theorem dX5_turn_6 : decode cX5_turn 6 = .ok (.aload_n 0, 1) := by decide +kernel
theorem dX5_turn_7 : decode cX5_turn 7 = .ok (.getfield 68, 3) := by decide +kernel
theorem dX5_turn_10 : decode cX5_turn 10 = .ok (.putfield 35, 3) := by decide +kernel
theorem dX5_turn_13 : decode cX5_turn 13 = .ok (.aload_n 0, 1) := by decide +kernel
theorem dX5_turn_14 : decode cX5_turn 14 = .ok (.aload_n 1, 1) := by decide +kernel
theorem dX5_turn_15 : decode cX5_turn 15 = .ok (.putfield 68, 3) := by decide +kernel
theorem dX5_turn_18 : decode cX5_turn 18 = .ok (.aload_n 0, 1) := by decide +kernel
theorem dX5_turn_19 : decode cX5_turn 19 = .ok (.getfield 71, 3) := by decide +kernel
theorem dX5_turn_22 : decode cX5_turn 22 = .ok (.astore_n 2, 1) := by decide +kernel
theorem dX5_turn_23 : decode cX5_turn 23 = .ok (.aload_n 0, 1) := by decide +kernel
theorem dX5_turn_24 : decode cX5_turn 24 = .ok (.aload_n 0, 1) := by decide +kernel
theorem dX5_turn_25 : decode cX5_turn 25 = .ok (.getfield 74, 3) := by decide +kernel
theorem dX5_turn_28 : decode cX5_turn 28 = .ok (.putfield 71, 3) := by decide +kernel
theorem dX5_turn_31 : decode cX5_turn 31 = .ok (.aload_n 0, 1) := by decide +kernel
theorem dX5_turn_32 : decode cX5_turn 32 = .ok (.aload_n 2, 1) := by decide +kernel
theorem dX5_turn_33 : decode cX5_turn 33 = .ok (.putfield 74, 3) := by decide +kernel
theorem dX5_turn_36 : decode cX5_turn 36 = .ok (.return_, 1) := by decide +kernel
theorem dX5_spreadAll_0 : decode cX5_spreadAll 0 = .ok (.aload_n 0, 1) := by decide +kernel
theorem dX5_spreadAll_1 : decode cX5_spreadAll 1 = .ok (.getfield 68, 3) := by decide +kernel
theorem dX5_spreadAll_4 : decode cX5_spreadAll 4 = .ok (.invokevirtual 77, 3) := by decide +kernel
theorem dX5_spreadAll_7 : decode cX5_spreadAll 7 = .ok (.iconst 0, 1) := by decide +kernel
theorem dX5_spreadAll_8 : decode cX5_spreadAll 8 = .ok (.istore_n 1, 1) := by decide +kernel
theorem dX5_spreadAll_9 : decode cX5_spreadAll 9 = .ok (.iload_n 1, 1) := by decide +kernel
theorem dX5_spreadAll_10 : decode cX5_spreadAll 10 = .ok (.aload_n 0, 1) := by decide +kernel
theorem dX5_spreadAll_11 : decode cX5_spreadAll 11 = .ok (.getfield 35, 3) := by decide +kernel
theorem dX5_spreadAll_14 : decode cX5_spreadAll 14 = .ok (.getfield 88, 3) := by decide +kernel
theorem dX5_spreadAll_17 : decode cX5_spreadAll 17 = .ok (.if_icmp .ge 39, 3) := by decide +kernel
theorem dX5_spreadAll_20 : decode cX5_spreadAll 20 = .ok (.iconst 0, 1) := by decide +kernel
theorem dX5_spreadAll_21 : decode cX5_spreadAll 21 = .ok (.istore_n 2, 1) := by decide +kernel
theorem dX5_spreadAll_22 : decode cX5_spreadAll 22 = .ok (.iload_n 2, 1) := by decide +kernel
theorem dX5_spreadAll_23 : decode cX5_spreadAll 23 = .ok (.aload_n 0, 1) := by decide +kernel
theorem dX5_spreadAll_24 : decode cX5_spreadAll 24 = .ok (.getfield 27, 3) := by decide +kernel
theorem dX5_spreadAll_27 : decode cX5_spreadAll 27 = .ok (.getfield 91, 3) := by decide +kernel
theorem dX5_spreadAll_30 : decode cX5_spreadAll 30 = .ok (.if_icmp .ge 20, 3) := by decide +kernel
theorem dX5_spreadAll_33 : decode cX5_spreadAll 33 = .ok (.aload_n 0, 1) := by decide +kernel
theorem dX5_spreadAll_34 : decode cX5_spreadAll 34 = .ok (.iload_n 1, 1) := by decide +kernel
theorem dX5_spreadAll_35 : decode cX5_spreadAll 35 = .ok (.iload_n 2, 1) := by decide +kernel
theorem dX5_spreadAll_36 : decode cX5_spreadAll 36 = .ok (.invokevirtual 96, 3) := by decide +kernel
theorem dX5_spreadAll_39 : decode cX5_spreadAll 39 = .ok (.ifCond .ne 5, 3) := by decide +kernel
theorem dX5_spreadAll_42 : decode cX5_spreadAll 42 = .ok (.iconst 0, 1) := by decide +kernel
theorem dX5_spreadAll_43 : decode cX5_spreadAll 43 = .ok (.ireturn, 1) := by decide +kernel
theorem dX5_spreadAll_44 : decode cX5_spreadAll 44 = .ok (.iinc 2 1, 3) := by decide +kernel
theorem dX5_spreadAll_47 : decode cX5_spreadAll 47 = .ok (.goto (-25), 3) := by decide +kernel
theorem dX5_spreadAll_50 : decode cX5_spreadAll 50 = .ok (.iinc 1 1, 3) := by decide +kernel
theorem dX5_spreadAll_53 : decode cX5_spreadAll 53 = .ok (.goto (-44), 3) := by decide +kernel
theorem dX5_spreadAll_56 : decode cX5_spreadAll 56 = .ok (.iconst 1, 1) := by decide +kernel
theorem dX5_spreadAll_57 : decode cX5_spreadAll 57 = .ok (.ireturn, 1) := by decide +kernel
theorem dX5_spread_0 : decode cX5_spread 0 = .ok (.aload_n 0, 1) := by decide +kernel
theorem dX5_spread_1 : decode cX5_spread 1 = .ok (.getfield 31, 3) := by decide +kernel
theorem dX5_spread_4 : decode cX5_spread 4 = .ok (.aload_n 0, 1) := by decide +kernel
theorem dX5_spread_5 : decode cX5_spread 5 = .ok (.getfield 35, 3) := by decide +kernel
theorem dX5_spread_8 : decode cX5_spread 8 = .ok (.getfield 100, 3) := by decide +kernel
theorem dX5_spread_11 : decode cX5_spread 11 = .ok (.iload_n 1, 1) := by decide +kernel
theorem dX5_spread_12 : decode cX5_spread 12 = .ok (.bipush 8, 2) := by decide +kernel
theorem dX5_spread_14 : decode cX5_spread 14 = .ok (.imul, 1) := by decide +kernel
theorem dX5_spread_15 : decode cX5_spread 15 = .ok (.iload_n 2, 1) := by decide +kernel
theorem dX5_spread_16 : decode cX5_spread 16 = .ok (.invokevirtual 103, 3) := by decide +kernel
theorem dX5_spread_19 : decode cX5_spread 19 = .ok (.ifCond .ne 35, 3) := by decide +kernel
theorem dX5_spread_22 : decode cX5_spread 22 = .ok (.aload_n 0, 1) := by decide +kernel
theorem dX5_spread_23 : decode cX5_spread 23 = .ok (.getfield 35, 3) := by decide +kernel
theorem dX5_spread_26 : decode cX5_spread 26 = .ok (.aload_n 0, 1) := by decide +kernel
theorem dX5_spread_27 : decode cX5_spread 27 = .ok (.getfield 9, 3) := by decide +kernel
theorem dX5_spread_30 : decode cX5_spread 30 = .ok (.iload_n 1, 1) := by decide +kernel
theorem dX5_spread_31 : decode cX5_spread 31 = .ok (.invokevirtual 109, 3) := by decide +kernel
theorem dX5_spread_34 : decode cX5_spread 34 = .ok (.aload_n 0, 1) := by decide +kernel
theorem dX5_spread_35 : decode cX5_spread 35 = .ok (.aload_n 0, 1) := by decide +kernel
theorem dX5_spread_36 : decode cX5_spread 36 = .ok (.getfield 71, 3) := by decide +kernel
theorem dX5_spread_39 : decode cX5_spread 39 = .ok (.iload_n 1, 1) := by decide +kernel
theorem dX5_spread_40 : decode cX5_spread 40 = .ok (.laload, 1) := by decide +kernel
theorem dX5_spread_41 : decode cX5_spread 41 = .ok (.aload_n 0, 1) := by decide +kernel
theorem dX5_spread_42 : decode cX5_spread 42 = .ok (.getfield 27, 3) := by decide +kernel
theorem dX5_spread_45 : decode cX5_spread 45 = .ok (.getfield 113, 3) := by decide +kernel
theorem dX5_spread_48 : decode cX5_spread 48 = .ok (.i2l, 1) := by decide +kernel
theorem dX5_spread_49 : decode cX5_spread 49 = .ok (.lmul, 1) := by decide +kernel
theorem dX5_spread_50 : decode cX5_spread 50 = .ok (.invokevirtual 116, 3) := by decide +kernel
theorem dX5_spread_53 : decode cX5_spread 53 = .ok (.ireturn, 1) := by decide +kernel
theorem dX5_spread_54 : decode cX5_spread 54 = .ok (.aload_n 0, 1) := by decide +kernel
theorem dX5_spread_55 : decode cX5_spread 55 = .ok (.getfield 31, 3) := by decide +kernel
theorem dX5_spread_58 : decode cX5_spread 58 = .ok (.getfield 120, 3) := by decide +kernel
theorem dX5_spread_61 : decode cX5_spread 61 = .ok (.ifCond .ne 94, 3) := by decide +kernel
theorem dX5_spread_64 : decode cX5_spread 64 = .ok (.aload_n 0, 1) := by decide +kernel
theorem dX5_spread_65 : decode cX5_spread 65 = .ok (.getfield 27, 3) := by decide +kernel
theorem dX5_spread_68 : decode cX5_spread 68 = .ok (.aload_n 0, 1) := by decide +kernel
theorem dX5_spread_69 : decode cX5_spread 69 = .ok (.getfield 31, 3) := by decide +kernel
theorem dX5_spread_72 : decode cX5_spread 72 = .ok (.getfield 123, 3) := by decide +kernel
theorem dX5_spread_75 : decode cX5_spread 75 = .ok (.invokestatic 126, 3) := by decide +kernel
theorem dX5_spread_78 : decode cX5_spread 78 = .ok (.invokevirtual 132, 3) := by decide +kernel
theorem dX5_spread_81 : decode cX5_spread 81 = .ok (.istore_n 3, 1) := by decide +kernel
theorem dX5_spread_82 : decode cX5_spread 82 = .ok (.aload_n 0, 1) := by decide +kernel
theorem dX5_spread_83 : decode cX5_spread 83 = .ok (.getfield 27, 3) := by decide +kernel
theorem dX5_spread_86 : decode cX5_spread 86 = .ok (.aload_n 0, 1) := by decide +kernel
theorem dX5_spread_87 : decode cX5_spread 87 = .ok (.getfield 31, 3) := by decide +kernel
theorem dX5_spread_90 : decode cX5_spread 90 = .ok (.getfield 135, 3) := by decide +kernel
theorem dX5_spread_93 : decode cX5_spread 93 = .ok (.invokestatic 126, 3) := by decide +kernel
theorem dX5_spread_96 : decode cX5_spread 96 = .ok (.invokevirtual 132, 3) := by decide +kernel
theorem dX5_spread_99 : decode cX5_spread 99 = .ok (.istore 4, 2) := by decide +kernel
theorem dX5_spread_101 : decode cX5_spread 101 = .ok (.aload_n 0, 1) := by decide +kernel
theorem dX5_spread_102 : decode cX5_spread 102 = .ok (.iload_n 1, 1) := by decide +kernel
theorem dX5_spread_103 : decode cX5_spread 103 = .ok (.iload_n 2, 1) := by decide +kernel
theorem dX5_spread_104 : decode cX5_spread 104 = .ok (.iconst 0, 1) := by decide +kernel
theorem dX5_spread_105 : decode cX5_spread 105 = .ok (.iconst 0, 1) := by decide +kernel
theorem dX5_spread_106 : decode cX5_spread 106 = .ok (.iload_n 3, 1) := by decide +kernel
theorem dX5_spread_107 : decode cX5_spread 107 = .ok (.invokevirtual 137, 3) := by decide +kernel
theorem dX5_spread_110 : decode cX5_spread 110 = .ok (.ifCond .eq 43, 3) := by decide +kernel
theorem dX5_spread_113 : decode cX5_spread 113 = .ok (.aload_n 0, 1) := by decide +kernel
theorem dX5_spread_114 : decode cX5_spread 114 = .ok (.iload_n 1, 1) := by decide +kernel
theorem dX5_spread_115 : decode cX5_spread 115 = .ok (.iload_n 2, 1) := by decide +kernel
theorem dX5_spread_116 : decode cX5_spread 116 = .ok (.iconst 1, 1) := by decide +kernel
theorem dX5_spread_117 : decode cX5_spread 117 = .ok (.iconst 0, 1) := by decide +kernel
theorem dX5_spread_118 : decode cX5_spread 118 = .ok (.iload 4, 2) := by decide +kernel
theorem dX5_spread_120 : decode cX5_spread 120 = .ok (.invokevirtual 137, 3) := by decide +kernel
theorem dX5_spread_123 : decode cX5_spread 123 = .ok (.ifCond .eq 30, 3) := by decide +kernel
theorem dX5_spread_126 : decode cX5_spread 126 = .ok (.aload_n 0, 1) := by decide +kernel
theorem dX5_spread_127 : decode cX5_spread 127 = .ok (.iload_n 1, 1) := by decide +kernel
theorem dX5_spread_128 : decode cX5_spread 128 = .ok (.iload_n 2, 1) := by decide +kernel
theorem dX5_spread_129 : decode cX5_spread 129 = .ok (.iconst (-1), 1) := by decide +kernel
theorem dX5_spread_130 : decode cX5_spread 130 = .ok (.iconst 0, 1) := by decide +kernel
theorem dX5_spread_131 : decode cX5_spread 131 = .ok (.aload_n 0, 1) := by decide +kernel
theorem dX5_spread_132 : decode cX5_spread 132 = .ok (.getfield 27, 3) := by decide +kernel
theorem dX5_spread_135 : decode cX5_spread 135 = .ok (.getfield 113, 3) := by decide +kernel
theorem dX5_spread_138 : decode cX5_spread 138 = .ok (.iload_n 3, 1) := by decide +kernel
theorem dX5_spread_139 : decode cX5_spread 139 = .ok (.isub, 1) := by decide +kernel
theorem dX5_spread_140 : decode cX5_spread 140 = .ok (.iload 4, 2) := by decide +kernel
theorem dX5_spread_142 : decode cX5_spread 142 = .ok (.isub, 1) := by decide +kernel
theorem dX5_spread_143 : decode cX5_spread 143 = .ok (.invokevirtual 137, 3) := by decide +kernel
theorem dX5_spread_146 : decode cX5_spread 146 = .ok (.ifCond .eq 7, 3) := by decide +kernel
theorem dX5_spread_149 : decode cX5_spread 149 = .ok (.iconst 1, 1) := by decide +kernel
theorem dX5_spread_150 : decode cX5_spread 150 = .ok (.goto 4, 3) := by decide +kernel
theorem dX5_spread_153 : decode cX5_spread 153 = .ok (.iconst 0, 1) := by decide +kernel
theorem dX5_spread_154 : decode cX5_spread 154 = .ok (.ireturn, 1) := by decide +kernel
theorem dX5_spread_155 : decode cX5_spread 155 = .ok (.iconst 0, 1) := by decide +kernel
theorem dX5_spread_156 : decode cX5_spread 156 = .ok (.istore_n 3, 1) := by decide +kernel
theorem dX5_spread_157 : decode cX5_spread 157 = .ok (.iload_n 3, 1) := by decide +kernel
theorem dX5_spread_158 : decode cX5_spread 158 = .ok (.aload_n 0, 1) := by decide +kernel
theorem dX5_spread_159 : decode cX5_spread 159 = .ok (.getfield 27, 3) := by decide +kernel
theorem dX5_spread_162 : decode cX5_spread 162 = .ok (.getfield 113, 3) := by decide +kernel
theorem dX5_spread_165 : decode cX5_spread 165 = .ok (.if_icmp .ge 45, 3) := by decide +kernel
theorem dX5_spread_168 : decode cX5_spread 168 = .ok (.aload_n 0, 1) := by decide +kernel
theorem dX5_spread_169 : decode cX5_spread 169 = .ok (.getfield 27, 3) := by decide +kernel
theorem dX5_spread_172 : decode cX5_spread 172 = .ok (.getfield 141, 3) := by decide +kernel
theorem dX5_spread_175 : decode cX5_spread 175 = .ok (.iload_n 2, 1) := by decide +kernel
theorem dX5_spread_176 : decode cX5_spread 176 = .ok (.aaload, 1) := by decide +kernel
theorem dX5_spread_177 : decode cX5_spread 177 = .ok (.iload_n 3, 1) := by decide +kernel
theorem dX5_spread_178 : decode cX5_spread 178 = .ok (.iaload, 1) := by decide +kernel
theorem dX5_spread_179 : decode cX5_spread 179 = .ok (.istore 4, 2) := by decide +kernel
theorem dX5_spread_181 : decode cX5_spread 181 = .ok (.aload_n 0, 1) := by decide +kernel
theorem dX5_spread_182 : decode cX5_spread 182 = .ok (.iload_n 1, 1) := by decide +kernel
theorem dX5_spread_183 : decode cX5_spread 183 = .ok (.iload_n 2, 1) := by decide +kernel
theorem dX5_spread_184 : decode cX5_spread 184 = .ok (.aload_n 0, 1) := by decide +kernel
theorem dX5_spread_185 : decode cX5_spread 185 = .ok (.getfield 31, 3) := by decide +kernel
theorem dX5_spread_188 : decode cX5_spread 188 = .ok (.iload 4, 2) := by decide +kernel
theorem dX5_spread_190 : decode cX5_spread 190 = .ok (.invokevirtual 145, 3) := by decide +kernel
theorem dX5_spread_193 : decode cX5_spread 193 = .ok (.iload 4, 2) := by decide +kernel
theorem dX5_spread_195 : decode cX5_spread 195 = .ok (.iconst 1, 1) := by decide +kernel
theorem dX5_spread_196 : decode cX5_spread 196 = .ok (.invokevirtual 137, 3) := by decide +kernel
theorem dX5_spread_199 : decode cX5_spread 199 = .ok (.ifCond .ne 5, 3) := by decide +kernel
theorem dX5_spread_202 : decode cX5_spread 202 = .ok (.iconst 0, 1) := by decide +kernel
theorem dX5_spread_203 : decode cX5_spread 203 = .ok (.ireturn, 1) := by decide +kernel
theorem dX5_spread_204 : decode cX5_spread 204 = .ok (.iinc 3 1, 3) := by decide +kernel
theorem dX5_spread_207 : decode cX5_spread 207 = .ok (.goto (-50), 3) := by decide +kernel
theorem dX5_spread_210 : decode cX5_spread 210 = .ok (.iconst 1, 1) := by decide +kernel
theorem dX5_spread_211 : decode cX5_spread 211 = .ok (.ireturn, 1) := by decide +kernel
theorem dX5_spreadOne_0 : decode cX5_spreadOne 0 = .ok (.iload 5, 2) := by decide +kernel
theorem dX5_spreadOne_2 : decode cX5_spreadOne 2 = .ok (.ifCond .ne 5, 3) := by decide +kernel
theorem dX5_spreadOne_5 : decode cX5_spreadOne 5 = .ok (.iconst 1, 1) := by decide +kernel
theorem dX5_spreadOne_6 : decode cX5_spreadOne 6 = .ok (.ireturn, 1) := by decide +kernel
theorem dX5_spreadOne_7 : decode cX5_spreadOne 7 = .ok (.aload_n 0, 1) := by decide +kernel
theorem dX5_spreadOne_8 : decode cX5_spreadOne 8 = .ok (.getfield 35, 3) := by decide +kernel
theorem dX5_spreadOne_11 : decode cX5_spreadOne 11 = .ok (.aload_n 0, 1) := by decide +kernel
theorem dX5_spreadOne_12 : decode cX5_spreadOne 12 = .ok (.getfield 9, 3) := by decide +kernel
theorem dX5_spreadOne_15 : decode cX5_spreadOne 15 = .ok (.iload_n 1, 1) := by decide +kernel
theorem dX5_spreadOne_16 : decode cX5_spreadOne 16 = .ok (.invokevirtual 109, 3) := by decide +kernel
theorem dX5_spreadOne_19 : decode cX5_spreadOne 19 = .ok (.aload_n 0, 1) := by decide +kernel
theorem dX5_spreadOne_20 : decode cX5_spreadOne 20 = .ok (.getfield 31, 3) := by decide +kernel
theorem dX5_spreadOne_23 : decode cX5_spreadOne 23 = .ok (.aload_n 0, 1) := by decide +kernel
theorem dX5_spreadOne_24 : decode cX5_spreadOne 24 = .ok (.getfield 9, 3) := by decide +kernel
theorem dX5_spreadOne_27 : decode cX5_spreadOne 27 = .ok (.iload_n 2, 1) := by decide +kernel
theorem dX5_spreadOne_28 : decode cX5_spreadOne 28 = .ok (.iload_n 3, 1) := by decide +kernel
theorem dX5_spreadOne_29 : decode cX5_spreadOne 29 = .ok (.iload 4, 2) := by decide +kernel
theorem dX5_spreadOne_31 : decode cX5_spreadOne 31 = .ok (.invokevirtual 148, 3) := by decide +kernel
theorem dX5_spreadOne_34 : decode cX5_spreadOne 34 = .ok (.aload_n 0, 1) := by decide +kernel
theorem dX5_spreadOne_35 : decode cX5_spreadOne 35 = .ok (.aload_n 0, 1) := by decide +kernel
theorem dX5_spreadOne_36 : decode cX5_spreadOne 36 = .ok (.getfield 71, 3) := by decide +kernel
theorem dX5_spreadOne_39 : decode cX5_spreadOne 39 = .ok (.iload_n 1, 1) := by decide +kernel
theorem dX5_spreadOne_40 : decode cX5_spreadOne 40 = .ok (.laload, 1) := by decide +kernel
theorem dX5_spreadOne_41 : decode cX5_spreadOne 41 = .ok (.iload 5, 2) := by decide +kernel
theorem dX5_spreadOne_43 : decode cX5_spreadOne 43 = .ok (.i2l, 1) := by decide +kernel
theorem dX5_spreadOne_44 : decode cX5_spreadOne 44 = .ok (.lmul, 1) := by decide +kernel
theorem dX5_spreadOne_45 : decode cX5_spreadOne 45 = .ok (.invokevirtual 116, 3) := by decide +kernel
theorem dX5_spreadOne_48 : decode cX5_spreadOne 48 = .ok (.ireturn, 1) := by decide +kernel
theorem dX5_pass_0 : decode cX5_pass 0 = .ok (.aload_n 0, 1) := by decide +kernel
theorem dX5_pass_1 : decode cX5_pass 1 = .ok (.getfield 68, 3) := by decide +kernel
theorem dX5_pass_4 : decode cX5_pass 4 = .ok (.aload_n 0, 1) := by decide +kernel
theorem dX5_pass_5 : decode cX5_pass 5 = .ok (.getfield 9, 3) := by decide +kernel
theorem dX5_pass_8 : decode cX5_pass 8 = .ok (.invokevirtual 80, 3) := by decide +kernel
theorem dX5_pass_11 : decode cX5_pass 11 = .ok (.istore_n 3, 1) := by decide +kernel
theorem dX5_pass_12 : decode cX5_pass 12 = .ok (.aload_n 0, 1) := by decide +kernel
theorem dX5_pass_13 : decode cX5_pass 13 = .ok (.getfield 68, 3) := by decide +kernel
theorem dX5_pass_16 : decode cX5_pass 16 = .ok (.iload_n 3, 1) := by decide +kernel
theorem dX5_pass_17 : decode cX5_pass 17 = .ok (.invokevirtual 152, 3) := by decide +kernel
theorem dX5_pass_20 : decode cX5_pass 20 = .ok (.istore 4, 2) := by decide +kernel
theorem dX5_pass_22 : decode cX5_pass 22 = .ok (.iload 4, 2) := by decide +kernel
theorem dX5_pass_24 : decode cX5_pass 24 = .ok (.iconst (-1), 1) := by decide +kernel
theorem dX5_pass_25 : decode cX5_pass 25 = .ok (.if_icmp .ne 47, 3) := by decide +kernel
theorem dX5_pass_28 : decode cX5_pass 28 = .ok (.aload_n 0, 1) := by decide +kernel
theorem dX5_pass_29 : decode cX5_pass 29 = .ok (.getfield 68, 3) := by decide +kernel
theorem dX5_pass_32 : decode cX5_pass 32 = .ok (.invokevirtual 155, 3) := by decide +kernel
theorem dX5_pass_35 : decode cX5_pass 35 = .ok (.ifCond .eq 7, 3) := by decide +kernel
theorem dX5_pass_38 : decode cX5_pass 38 = .ok (.iconst (-1), 1) := by decide +kernel
theorem dX5_pass_39 : decode cX5_pass 39 = .ok (.goto 15, 3) := by decide +kernel
theorem dX5_pass_42 : decode cX5_pass 42 = .ok (.aload_n 0, 1) := by decide +kernel
theorem dX5_pass_43 : decode cX5_pass 43 = .ok (.getfield 68, 3) := by decide +kernel
theorem dX5_pass_46 : decode cX5_pass 46 = .ok (.iload_n 3, 1) := by decide +kernel
theorem dX5_pass_47 : decode cX5_pass 47 = .ok (.aload_n 0, 1) := by decide +kernel
theorem dX5_pass_48 : decode cX5_pass 48 = .ok (.getfield 9, 3) := by decide +kernel
theorem dX5_pass_51 : decode cX5_pass 51 = .ok (.invokevirtual 84, 3) := by decide +kernel
theorem dX5_pass_54 : decode cX5_pass 54 = .ok (.istore 4, 2) := by decide +kernel
theorem dX5_pass_56 : decode cX5_pass 56 = .ok (.iload 4, 2) := by decide +kernel
theorem dX5_pass_58 : decode cX5_pass 58 = .ok (.iconst (-1), 1) := by decide +kernel
theorem dX5_pass_59 : decode cX5_pass 59 = .ok (.if_icmp .ne 5, 3) := by decide +kernel
theorem dX5_pass_62 : decode cX5_pass 62 = .ok (.iconst 0, 1) := by decide +kernel
theorem dX5_pass_63 : decode cX5_pass 63 = .ok (.ireturn, 1) := by decide +kernel
theorem dX5_pass_64 : decode cX5_pass 64 = .ok (.aload_n 0, 1) := by decide +kernel
theorem dX5_pass_65 : decode cX5_pass 65 = .ok (.getfield 74, 3) := by decide +kernel
theorem dX5_pass_68 : decode cX5_pass 68 = .ok (.iload 4, 2) := by decide +kernel
theorem dX5_pass_70 : decode cX5_pass 70 = .ok (.lconst 0, 1) := by decide +kernel
theorem dX5_pass_71 : decode cX5_pass 71 = .ok (.lastore, 1) := by decide +kernel
theorem dX5_pass_72 : decode cX5_pass 72 = .ok (.aload_n 0, 1) := by decide +kernel
theorem dX5_pass_73 : decode cX5_pass 73 = .ok (.getfield 74, 3) := by decide +kernel
theorem dX5_pass_76 : decode cX5_pass 76 = .ok (.iload 4, 2) := by decide +kernel
theorem dX5_pass_78 : decode cX5_pass 78 = .ok (.dup2, 1) := by decide +kernel
theorem dX5_pass_79 : decode cX5_pass 79 = .ok (.laload, 1) := by decide +kernel
theorem dX5_pass_80 : decode cX5_pass 80 = .ok (.lload_n 1, 1) := by decide +kernel
theorem dX5_pass_81 : decode cX5_pass 81 = .ok (.ladd, 1) := by decide +kernel
theorem dX5_pass_82 : decode cX5_pass 82 = .ok (.lastore, 1) := by decide +kernel
theorem dX5_pass_83 : decode cX5_pass 83 = .ok (.iconst 1, 1) := by decide +kernel
theorem dX5_pass_84 : decode cX5_pass 84 = .ok (.ireturn, 1) := by decide +kernel
theorem dX5_tally_0 : decode cX5_tally 0 = .ok (.aload_n 0, 1) := by decide +kernel
theorem dX5_tally_1 : decode cX5_tally 1 = .ok (.getfield 15, 3) := by decide +kernel
theorem dX5_tally_4 : decode cX5_tally 4 = .ok (.iload_n 1, 1) := by decide +kernel
theorem dX5_tally_5 : decode cX5_tally 5 = .ok (.lconst 0, 1) := by decide +kernel
theorem dX5_tally_6 : decode cX5_tally 6 = .ok (.lastore, 1) := by decide +kernel
theorem dX5_tally_7 : decode cX5_tally 7 = .ok (.aload_n 0, 1) := by decide +kernel
theorem dX5_tally_8 : decode cX5_tally 8 = .ok (.getfield 19, 3) := by decide +kernel
theorem dX5_tally_11 : decode cX5_tally 11 = .ok (.iload_n 1, 1) := by decide +kernel
theorem dX5_tally_12 : decode cX5_tally 12 = .ok (.lconst 0, 1) := by decide +kernel
theorem dX5_tally_13 : decode cX5_tally 13 = .ok (.lastore, 1) := by decide +kernel
theorem dX5_tally_14 : decode cX5_tally 14 = .ok (.aload_n 0, 1) := by decide +kernel
theorem dX5_tally_15 : decode cX5_tally 15 = .ok (.getfield 24, 3) := by decide +kernel
theorem dX5_tally_18 : decode cX5_tally 18 = .ok (.iload_n 1, 1) := by decide +kernel
theorem dX5_tally_19 : decode cX5_tally 19 = .ok (.aaload, 1) := by decide +kernel
theorem dX5_tally_20 : decode cX5_tally 20 = .ok (.lconst 0, 1) := by decide +kernel
theorem dX5_tally_21 : decode cX5_tally 21 = .ok (.invokestatic 158, 3) := by decide +kernel
theorem dX5_tally_24 : decode cX5_tally 24 = .ok (.iconst 0, 1) := by decide +kernel
theorem dX5_tally_25 : decode cX5_tally 25 = .ok (.istore_n 2, 1) := by decide +kernel
theorem dX5_tally_26 : decode cX5_tally 26 = .ok (.iload_n 2, 1) := by decide +kernel
theorem dX5_tally_27 : decode cX5_tally 27 = .ok (.aload_n 0, 1) := by decide +kernel
theorem dX5_tally_28 : decode cX5_tally 28 = .ok (.getfield 35, 3) := by decide +kernel
theorem dX5_tally_31 : decode cX5_tally 31 = .ok (.getfield 88, 3) := by decide +kernel
theorem dX5_tally_34 : decode cX5_tally 34 = .ok (.if_icmp .ge 122, 3) := by decide +kernel
theorem dX5_tally_37 : decode cX5_tally 37 = .ok (.iload_n 2, 1) := by decide +kernel
theorem dX5_tally_38 : decode cX5_tally 38 = .ok (.bipush 8, 2) := by decide +kernel
theorem dX5_tally_40 : decode cX5_tally 40 = .ok (.imul, 1) := by decide +kernel
theorem dX5_tally_41 : decode cX5_tally 41 = .ok (.istore_n 3, 1) := by decide +kernel
theorem dX5_tally_42 : decode cX5_tally 42 = .ok (.aload_n 0, 1) := by decide +kernel
theorem dX5_tally_43 : decode cX5_tally 43 = .ok (.getfield 15, 3) := by decide +kernel
theorem dX5_tally_46 : decode cX5_tally 46 = .ok (.iload_n 1, 1) := by decide +kernel
theorem dX5_tally_47 : decode cX5_tally 47 = .ok (.dup2, 1) := by decide +kernel
theorem dX5_tally_48 : decode cX5_tally 48 = .ok (.laload, 1) := by decide +kernel
theorem dX5_tally_49 : decode cX5_tally 49 = .ok (.aload_n 0, 1) := by decide +kernel
theorem dX5_tally_50 : decode cX5_tally 50 = .ok (.getfield 31, 3) := by decide +kernel
theorem dX5_tally_53 : decode cX5_tally 53 = .ok (.aload_n 0, 1) := by decide +kernel
theorem dX5_tally_54 : decode cX5_tally 54 = .ok (.getfield 35, 3) := by decide +kernel
theorem dX5_tally_57 : decode cX5_tally 57 = .ok (.getfield 100, 3) := by decide +kernel
theorem dX5_tally_60 : decode cX5_tally 60 = .ok (.iload_n 3, 1) := by decide +kernel
theorem dX5_tally_61 : decode cX5_tally 61 = .ok (.invokevirtual 164, 3) := by decide +kernel
theorem dX5_tally_64 : decode cX5_tally 64 = .ok (.ifCond .eq 12, 3) := by decide +kernel
theorem dX5_tally_67 : decode cX5_tally 67 = .ok (.aload_n 0, 1) := by decide +kernel
theorem dX5_tally_68 : decode cX5_tally 68 = .ok (.getfield 71, 3) := by decide +kernel
theorem dX5_tally_71 : decode cX5_tally 71 = .ok (.iload_n 2, 1) := by decide +kernel
theorem dX5_tally_72 : decode cX5_tally 72 = .ok (.laload, 1) := by decide +kernel
theorem dX5_tally_73 : decode cX5_tally 73 = .ok (.goto 4, 3) := by decide +kernel
theorem dX5_tally_76 : decode cX5_tally 76 = .ok (.lconst 0, 1) := by decide +kernel
theorem dX5_tally_77 : decode cX5_tally 77 = .ok (.ladd, 1) := by decide +kernel
theorem dX5_tally_78 : decode cX5_tally 78 = .ok (.lastore, 1) := by decide +kernel
theorem dX5_tally_79 : decode cX5_tally 79 = .ok (.aload_n 0, 1) := by decide +kernel
theorem dX5_tally_80 : decode cX5_tally 80 = .ok (.getfield 19, 3) := by decide +kernel
theorem dX5_tally_83 : decode cX5_tally 83 = .ok (.iload_n 1, 1) := by decide +kernel
theorem dX5_tally_84 : decode cX5_tally 84 = .ok (.dup2, 1) := by decide +kernel
theorem dX5_tally_85 : decode cX5_tally 85 = .ok (.laload, 1) := by decide +kernel
theorem dX5_tally_86 : decode cX5_tally 86 = .ok (.aload_n 0, 1) := by decide +kernel
theorem dX5_tally_87 : decode cX5_tally 87 = .ok (.getfield 31, 3) := by decide +kernel
theorem dX5_tally_90 : decode cX5_tally 90 = .ok (.aload_n 0, 1) := by decide +kernel
theorem dX5_tally_91 : decode cX5_tally 91 = .ok (.getfield 35, 3) := by decide +kernel
theorem dX5_tally_94 : decode cX5_tally 94 = .ok (.getfield 100, 3) := by decide +kernel
theorem dX5_tally_97 : decode cX5_tally 97 = .ok (.iload_n 3, 1) := by decide +kernel
theorem dX5_tally_98 : decode cX5_tally 98 = .ok (.invokevirtual 168, 3) := by decide +kernel
theorem dX5_tally_101 : decode cX5_tally 101 = .ok (.ifCond .eq 12, 3) := by decide +kernel
theorem dX5_tally_104 : decode cX5_tally 104 = .ok (.aload_n 0, 1) := by decide +kernel
theorem dX5_tally_105 : decode cX5_tally 105 = .ok (.getfield 71, 3) := by decide +kernel
theorem dX5_tally_108 : decode cX5_tally 108 = .ok (.iload_n 2, 1) := by decide +kernel
theorem dX5_tally_109 : decode cX5_tally 109 = .ok (.laload, 1) := by decide +kernel
theorem dX5_tally_110 : decode cX5_tally 110 = .ok (.goto 4, 3) := by decide +kernel
theorem dX5_tally_113 : decode cX5_tally 113 = .ok (.lconst 0, 1) := by decide +kernel
theorem dX5_tally_114 : decode cX5_tally 114 = .ok (.ladd, 1) := by decide +kernel
theorem dX5_tally_115 : decode cX5_tally 115 = .ok (.lastore, 1) := by decide +kernel
theorem dX5_tally_116 : decode cX5_tally 116 = .ok (.aload_n 0, 1) := by decide +kernel
theorem dX5_tally_117 : decode cX5_tally 117 = .ok (.getfield 24, 3) := by decide +kernel
theorem dX5_tally_120 : decode cX5_tally 120 = .ok (.iload_n 1, 1) := by decide +kernel
theorem dX5_tally_121 : decode cX5_tally 121 = .ok (.aaload, 1) := by decide +kernel
theorem dX5_tally_122 : decode cX5_tally 122 = .ok (.aload_n 0, 1) := by decide +kernel
theorem dX5_tally_123 : decode cX5_tally 123 = .ok (.getfield 31, 3) := by decide +kernel
theorem dX5_tally_126 : decode cX5_tally 126 = .ok (.aload_n 0, 1) := by decide +kernel
theorem dX5_tally_127 : decode cX5_tally 127 = .ok (.getfield 35, 3) := by decide +kernel
theorem dX5_tally_130 : decode cX5_tally 130 = .ok (.getfield 100, 3) := by decide +kernel
theorem dX5_tally_133 : decode cX5_tally 133 = .ok (.iload_n 3, 1) := by decide +kernel
theorem dX5_tally_134 : decode cX5_tally 134 = .ok (.invokevirtual 171, 3) := by decide +kernel
theorem dX5_tally_137 : decode cX5_tally 137 = .ok (.invokestatic 126, 3) := by decide +kernel
theorem dX5_tally_140 : decode cX5_tally 140 = .ok (.dup2, 1) := by decide +kernel
theorem dX5_tally_141 : decode cX5_tally 141 = .ok (.laload, 1) := by decide +kernel
theorem dX5_tally_142 : decode cX5_tally 142 = .ok (.aload_n 0, 1) := by decide +kernel
theorem dX5_tally_143 : decode cX5_tally 143 = .ok (.getfield 71, 3) := by decide +kernel
theorem dX5_tally_146 : decode cX5_tally 146 = .ok (.iload_n 2, 1) := by decide +kernel
theorem dX5_tally_147 : decode cX5_tally 147 = .ok (.laload, 1) := by decide +kernel
theorem dX5_tally_148 : decode cX5_tally 148 = .ok (.ladd, 1) := by decide +kernel
theorem dX5_tally_149 : decode cX5_tally 149 = .ok (.lastore, 1) := by decide +kernel
theorem dX5_tally_150 : decode cX5_tally 150 = .ok (.iinc 2 1, 3) := by decide +kernel
theorem dX5_tally_153 : decode cX5_tally 153 = .ok (.goto (-127), 3) := by decide +kernel
theorem dX5_tally_156 : decode cX5_tally 156 = .ok (.return_, 1) := by decide +kernel
theorem dX6_init_0 : decode cX6_init 0 = .ok (.aload_n 0, 1) := by decide +kernel
theorem dX6_init_1 : decode cX6_init 1 = .ok (.invokespecial 3, 3) := by decide +kernel
theorem dX6_init_4 : decode cX6_init 4 = .ok (.aload_n 0, 1) := by decide +kernel
theorem dX6_init_5 : decode cX6_init 5 = .ok (.aload_n 1, 1) := by decide +kernel
theorem dX6_init_6 : decode cX6_init 6 = .ok (.putfield 9, 3) := by decide +kernel
theorem dX6_init_9 : decode cX6_init 9 = .ok (.aload_n 0, 1) := by decide +kernel
theorem dX6_init_10 : decode cX6_init 10 = .ok (.aload_n 2, 1) := by decide +kernel
theorem dX6_init_11 : decode cX6_init 11 = .ok (.putfield 15, 3) := by decide +kernel
theorem dX6_init_14 : decode cX6_init 14 = .ok (.aload_n 0, 1) := by decide +kernel
theorem dX6_init_15 : decode cX6_init 15 = .ok (.aload_n 3, 1) := by decide +kernel
theorem dX6_init_16 : decode cX6_init 16 = .ok (.putfield 19, 3) := by decide +kernel
theorem dX6_init_19 : decode cX6_init 19 = .ok (.return_, 1) := by decide +kernel
theorem dX6_unpolled_0 : decode cX6_unpolled 0 = .ok (.aload_n 0, 1) := by decide +kernel
theorem dX6_unpolled_1 : decode cX6_unpolled 1 = .ok (.getfield 9, 3) := by decide +kernel
theorem dX6_unpolled_4 : decode cX6_unpolled 4 = .ok (.iload_n 1, 1) := by decide +kernel
theorem dX6_unpolled_5 : decode cX6_unpolled 5 = .ok (.invokevirtual 23, 3) := by decide +kernel
theorem dX6_unpolled_8 : decode cX6_unpolled 8 = .ok (.ifCond .eq 15, 3) := by decide +kernel
theorem dX6_unpolled_11 : decode cX6_unpolled 11 = .ok (.aload_n 0, 1) := by decide +kernel
theorem dX6_unpolled_12 : decode cX6_unpolled 12 = .ok (.getfield 15, 3) := by decide +kernel
theorem dX6_unpolled_15 : decode cX6_unpolled 15 = .ok (.getfield 29, 3) := by decide +kernel
theorem dX6_unpolled_18 : decode cX6_unpolled 18 = .ok (.iload_n 1, 1) := by decide +kernel
theorem dX6_unpolled_19 : decode cX6_unpolled 19 = .ok (.iaload, 1) := by decide +kernel
theorem dX6_unpolled_20 : decode cX6_unpolled 20 = .ok (.ifCond .eq 5, 3) := by decide +kernel
theorem dX6_unpolled_23 : decode cX6_unpolled 23 = .ok (.iconst 0, 1) := by decide +kernel
theorem dX6_unpolled_24 : decode cX6_unpolled 24 = .ok (.ireturn, 1) := by decide +kernel
theorem dX6_unpolled_25 : decode cX6_unpolled 25 = .ok (.iconst 1, 1) := by decide +kernel
theorem dX6_unpolled_26 : decode cX6_unpolled 26 = .ok (.aload_n 0, 1) := by decide +kernel
theorem dX6_unpolled_27 : decode cX6_unpolled 27 = .ok (.getfield 19, 3) := by decide +kernel
theorem dX6_unpolled_30 : decode cX6_unpolled 30 = .ok (.getfield 35, 3) := by decide +kernel
theorem dX6_unpolled_33 : decode cX6_unpolled 33 = .ok (.ishl, 1) := by decide +kernel
theorem dX6_unpolled_34 : decode cX6_unpolled 34 = .ok (.iconst 1, 1) := by decide +kernel
theorem dX6_unpolled_35 : decode cX6_unpolled 35 = .ok (.isub, 1) := by decide +kernel
theorem dX6_unpolled_36 : decode cX6_unpolled 36 = .ok (.aload_n 0, 1) := by decide +kernel
theorem dX6_unpolled_37 : decode cX6_unpolled 37 = .ok (.getfield 15, 3) := by decide +kernel
theorem dX6_unpolled_40 : decode cX6_unpolled 40 = .ok (.getfield 41, 3) := by decide +kernel
theorem dX6_unpolled_43 : decode cX6_unpolled 43 = .ok (.iload_n 1, 1) := by decide +kernel
theorem dX6_unpolled_44 : decode cX6_unpolled 44 = .ok (.aaload, 1) := by decide +kernel
theorem dX6_unpolled_45 : decode cX6_unpolled 45 = .ok (.getfield 45, 3) := by decide +kernel
theorem dX6_unpolled_48 : decode cX6_unpolled 48 = .ok (.iconst (-1), 1) := by decide +kernel
theorem dX6_unpolled_49 : decode cX6_unpolled 49 = .ok (.ixor, 1) := by decide +kernel
theorem dX6_unpolled_50 : decode cX6_unpolled 50 = .ok (.iand, 1) := by decide +kernel
theorem dX6_unpolled_51 : decode cX6_unpolled 51 = .ok (.ireturn, 1) := by decide +kernel
theorem dX6_confidence_0 : decode cX6_confidence 0 = .ok (.aload_n 1, 1) := by decide +kernel
theorem dX6_confidence_1 : decode cX6_confidence 1 = .ok (.getfield 50, 3) := by decide +kernel
theorem dX6_confidence_4 : decode cX6_confidence 4 = .ok (.aload_n 0, 1) := by decide +kernel
theorem dX6_confidence_5 : decode cX6_confidence 5 = .ok (.getfield 19, 3) := by decide +kernel
theorem dX6_confidence_8 : decode cX6_confidence 8 = .ok (.getfield 53, 3) := by decide +kernel
theorem dX6_confidence_11 : decode cX6_confidence 11 = .ok (.iload_n 2, 1) := by decide +kernel
theorem dX6_confidence_12 : decode cX6_confidence 12 = .ok (.iaload, 1) := by decide +kernel
theorem dX6_confidence_13 : decode cX6_confidence 13 = .ok (.iconst 1, 1) := by decide +kernel
theorem dX6_confidence_14 : decode cX6_confidence 14 = .ok (.iload_n 2, 1) := by decide +kernel
theorem dX6_confidence_15 : decode cX6_confidence 15 = .ok (.ishl, 1) := by decide +kernel
theorem dX6_confidence_16 : decode cX6_confidence 16 = .ok (.ior, 1) := by decide +kernel
theorem dX6_confidence_17 : decode cX6_confidence 17 = .ok (.iand, 1) := by decide +kernel
theorem dX6_confidence_18 : decode cX6_confidence 18 = .ok (.invokestatic 56, 3) := by decide +kernel
theorem dX6_confidence_21 : decode cX6_confidence 21 = .ok (.ireturn, 1) := by decide +kernel
theorem dX6_isStrong_0 : decode cX6_isStrong 0 = .ok (.aload_n 0, 1) := by decide +kernel
theorem dX6_isStrong_1 : decode cX6_isStrong 1 = .ok (.getfield 19, 3) := by decide +kernel
theorem dX6_isStrong_4 : decode cX6_isStrong 4 = .ok (.iload_n 2, 1) := by decide +kernel
theorem dX6_isStrong_5 : decode cX6_isStrong 5 = .ok (.invokevirtual 62, 3) := by decide +kernel
theorem dX6_isStrong_8 : decode cX6_isStrong 8 = .ok (.istore_n 3, 1) := by decide +kernel
theorem dX6_isStrong_9 : decode cX6_isStrong 9 = .ok (.iconst 0, 1) := by decide +kernel
theorem dX6_isStrong_10 : decode cX6_isStrong 10 = .ok (.istore 4, 2) := by decide +kernel
theorem dX6_isStrong_12 : decode cX6_isStrong 12 = .ok (.iload 4, 2) := by decide +kernel
theorem dX6_isStrong_14 : decode cX6_isStrong 14 = .ok (.iload_n 2, 1) := by decide +kernel
theorem dX6_isStrong_15 : decode cX6_isStrong 15 = .ok (.if_icmp .gt 41, 3) := by decide +kernel
theorem dX6_isStrong_18 : decode cX6_isStrong 18 = .ok (.iload_n 3, 1) := by decide +kernel
theorem dX6_isStrong_19 : decode cX6_isStrong 19 = .ok (.iload 4, 2) := by decide +kernel
theorem dX6_isStrong_21 : decode cX6_isStrong 21 = .ok (.ishr, 1) := by decide +kernel
theorem dX6_isStrong_22 : decode cX6_isStrong 22 = .ok (.iconst 1, 1) := by decide +kernel
theorem dX6_isStrong_23 : decode cX6_isStrong 23 = .ok (.iand, 1) := by decide +kernel
theorem dX6_isStrong_24 : decode cX6_isStrong 24 = .ok (.iconst 1, 1) := by decide +kernel
theorem dX6_isStrong_25 : decode cX6_isStrong 25 = .ok (.if_icmp .ne 25, 3) := by decide +kernel
theorem dX6_isStrong_28 : decode cX6_isStrong 28 = .ok (.aload_n 1, 1) := by decide +kernel
theorem dX6_isStrong_29 : decode cX6_isStrong 29 = .ok (.aload_n 0, 1) := by decide +kernel
theorem dX6_isStrong_30 : decode cX6_isStrong 30 = .ok (.getfield 19, 3) := by decide +kernel
theorem dX6_isStrong_33 : decode cX6_isStrong 33 = .ok (.getfield 65, 3) := by decide +kernel
theorem dX6_isStrong_36 : decode cX6_isStrong 36 = .ok (.iload 4, 2) := by decide +kernel
theorem dX6_isStrong_38 : decode cX6_isStrong 38 = .ok (.iaload, 1) := by decide +kernel
theorem dX6_isStrong_39 : decode cX6_isStrong 39 = .ok (.iconst 0, 1) := by decide +kernel
theorem dX6_isStrong_40 : decode cX6_isStrong 40 = .ok (.invokevirtual 68, 3) := by decide +kernel
theorem dX6_isStrong_43 : decode cX6_isStrong 43 = .ok (.iload 4, 2) := by decide +kernel
theorem dX6_isStrong_45 : decode cX6_isStrong 45 = .ok (.if_icmp .eq 5, 3) := by decide +kernel
theorem dX6_isStrong_48 : decode cX6_isStrong 48 = .ok (.iconst 0, 1) := by decide +kernel
theorem dX6_isStrong_49 : decode cX6_isStrong 49 = .ok (.ireturn, 1) := by decide +kernel
theorem dX6_isStrong_50 : decode cX6_isStrong 50 = .ok (.iinc 4 1, 3) := by decide +kernel
theorem dX6_isStrong_53 : decode cX6_isStrong 53 = .ok (.goto (-41), 3) := by decide +kernel
theorem dX6_isStrong_56 : decode cX6_isStrong 56 = .ok (.iconst 1, 1) := by decide +kernel
theorem dX6_isStrong_57 : decode cX6_isStrong 57 = .ok (.ireturn, 1) := by decide +kernel
theorem dX6_standing_0 : decode cX6_standing 0 = .ok (.aload_n 0, 1) := by decide +kernel
theorem dX6_standing_1 : decode cX6_standing 1 = .ok (.getfield 19, 3) := by decide +kernel
theorem dX6_standing_4 : decode cX6_standing 4 = .ok (.getfield 65, 3) := by decide +kernel
theorem dX6_standing_7 : decode cX6_standing 7 = .ok (.iload_n 2, 1) := by decide +kernel
theorem dX6_standing_8 : decode cX6_standing 8 = .ok (.iaload, 1) := by decide +kernel
theorem dX6_standing_9 : decode cX6_standing 9 = .ok (.istore_n 3, 1) := by decide +kernel
theorem dX6_standing_10 : decode cX6_standing 10 = .ok (.aload_n 1, 1) := by decide +kernel
theorem dX6_standing_11 : decode cX6_standing 11 = .ok (.iload_n 3, 1) := by decide +kernel
theorem dX6_standing_12 : decode cX6_standing 12 = .ok (.invokevirtual 72, 3) := by decide +kernel
theorem dX6_standing_15 : decode cX6_standing 15 = .ok (.ifCond .eq 5, 3) := by decide +kernel
theorem dX6_standing_18 : decode cX6_standing 18 = .ok (.iconst 0, 1) := by decide +kernel
theorem dX6_standing_19 : decode cX6_standing 19 = .ok (.ireturn, 1) := by decide +kernel
theorem dX6_standing_20 : decode cX6_standing 20 = .ok (.aload_n 1, 1) := by decide +kernel
theorem dX6_standing_21 : decode cX6_standing 21 = .ok (.iload_n 3, 1) := by decide +kernel
theorem dX6_standing_22 : decode cX6_standing 22 = .ok (.iconst 3, 1) := by decide +kernel
theorem dX6_standing_23 : decode cX6_standing 23 = .ok (.invokevirtual 68, 3) := by decide +kernel
theorem dX6_standing_26 : decode cX6_standing 26 = .ok (.iload_n 2, 1) := by decide +kernel
theorem dX6_standing_27 : decode cX6_standing 27 = .ok (.if_icmp .ne 7, 3) := by decide +kernel
theorem dX6_standing_30 : decode cX6_standing 30 = .ok (.iconst 1, 1) := by decide +kernel
theorem dX6_standing_31 : decode cX6_standing 31 = .ok (.goto 4, 3) := by decide +kernel
theorem dX6_standing_34 : decode cX6_standing 34 = .ok (.iconst 2, 1) := by decide +kernel
theorem dX6_standing_35 : decode cX6_standing 35 = .ok (.ireturn, 1) := by decide +kernel
theorem dX6_nodesThatSee_0 : decode cX6_nodesThatSee 0 = .ok (.iconst 0, 1) := by decide +kernel
theorem dX6_nodesThatSee_1 : decode cX6_nodesThatSee 1 = .ok (.istore_n 3, 1) := by decide +kernel
theorem dX6_nodesThatSee_2 : decode cX6_nodesThatSee 2 = .ok (.iconst 0, 1) := by decide +kernel
theorem dX6_nodesThatSee_3 : decode cX6_nodesThatSee 3 = .ok (.istore 4, 2) := by decide +kernel
theorem dX6_nodesThatSee_5 : decode cX6_nodesThatSee 5 = .ok (.iload 4, 2) := by decide +kernel
theorem dX6_nodesThatSee_7 : decode cX6_nodesThatSee 7 = .ok (.aload_n 0, 1) := by decide +kernel
theorem dX6_nodesThatSee_8 : decode cX6_nodesThatSee 8 = .ok (.getfield 9, 3) := by decide +kernel
theorem dX6_nodesThatSee_11 : decode cX6_nodesThatSee 11 = .ok (.getfield 75, 3) := by decide +kernel
theorem dX6_nodesThatSee_14 : decode cX6_nodesThatSee 14 = .ok (.if_icmp .ge 36, 3) := by decide +kernel
theorem dX6_nodesThatSee_17 : decode cX6_nodesThatSee 17 = .ok (.iload_n 3, 1) := by decide +kernel
theorem dX6_nodesThatSee_18 : decode cX6_nodesThatSee 18 = .ok (.aload_n 0, 1) := by decide +kernel
theorem dX6_nodesThatSee_19 : decode cX6_nodesThatSee 19 = .ok (.aload_n 0, 1) := by decide +kernel
theorem dX6_nodesThatSee_20 : decode cX6_nodesThatSee 20 = .ok (.getfield 15, 3) := by decide +kernel
theorem dX6_nodesThatSee_23 : decode cX6_nodesThatSee 23 = .ok (.getfield 41, 3) := by decide +kernel
theorem dX6_nodesThatSee_26 : decode cX6_nodesThatSee 26 = .ok (.iload 4, 2) := by decide +kernel
theorem dX6_nodesThatSee_28 : decode cX6_nodesThatSee 28 = .ok (.aaload, 1) := by decide +kernel
theorem dX6_nodesThatSee_29 : decode cX6_nodesThatSee 29 = .ok (.iload_n 1, 1) := by decide +kernel
theorem dX6_nodesThatSee_30 : decode cX6_nodesThatSee 30 = .ok (.invokevirtual 78, 3) := by decide +kernel
theorem dX6_nodesThatSee_33 : decode cX6_nodesThatSee 33 = .ok (.iload_n 2, 1) := by decide +kernel
theorem dX6_nodesThatSee_34 : decode cX6_nodesThatSee 34 = .ok (.if_icmp .ne 7, 3) := by decide +kernel
theorem dX6_nodesThatSee_37 : decode cX6_nodesThatSee 37 = .ok (.iconst 1, 1) := by decide +kernel
theorem dX6_nodesThatSee_38 : decode cX6_nodesThatSee 38 = .ok (.goto 4, 3) := by decide +kernel
theorem dX6_nodesThatSee_41 : decode cX6_nodesThatSee 41 = .ok (.iconst 0, 1) := by decide +kernel
theorem dX6_nodesThatSee_42 : decode cX6_nodesThatSee 42 = .ok (.iadd, 1) := by decide +kernel
theorem dX6_nodesThatSee_43 : decode cX6_nodesThatSee 43 = .ok (.istore_n 3, 1) := by decide +kernel
theorem dX6_nodesThatSee_44 : decode cX6_nodesThatSee 44 = .ok (.iinc 4 1, 3) := by decide +kernel
theorem dX6_nodesThatSee_47 : decode cX6_nodesThatSee 47 = .ok (.goto (-42), 3) := by decide +kernel
theorem dX6_nodesThatSee_50 : decode cX6_nodesThatSee 50 = .ok (.iload_n 3, 1) := by decide +kernel
theorem dX6_nodesThatSee_51 : decode cX6_nodesThatSee 51 = .ok (.ireturn, 1) := by decide +kernel
theorem dX6_splitSets_0 : decode cX6_splitSets 0 = .ok (.iconst 0, 1) := by decide +kernel
theorem dX6_splitSets_1 : decode cX6_splitSets 1 = .ok (.istore_n 1, 1) := by decide +kernel
theorem dX6_splitSets_2 : decode cX6_splitSets 2 = .ok (.iconst 0, 1) := by decide +kernel
theorem dX6_splitSets_3 : decode cX6_splitSets 3 = .ok (.istore_n 2, 1) := by decide +kernel
theorem dX6_splitSets_4 : decode cX6_splitSets 4 = .ok (.iload_n 2, 1) := by decide +kernel
theorem dX6_splitSets_5 : decode cX6_splitSets 5 = .ok (.bipush 8, 2) := by decide +kernel
theorem dX6_splitSets_7 : decode cX6_splitSets 7 = .ok (.if_icmp .ge 27, 3) := by decide +kernel
theorem dX6_splitSets_10 : decode cX6_splitSets 10 = .ok (.iload_n 1, 1) := by decide +kernel
theorem dX6_splitSets_11 : decode cX6_splitSets 11 = .ok (.aload_n 0, 1) := by decide +kernel
theorem dX6_splitSets_12 : decode cX6_splitSets 12 = .ok (.iload_n 2, 1) := by decide +kernel
theorem dX6_splitSets_13 : decode cX6_splitSets 13 = .ok (.invokevirtual 82, 3) := by decide +kernel
theorem dX6_splitSets_16 : decode cX6_splitSets 16 = .ok (.ifCond .eq 9, 3) := by decide +kernel
theorem dX6_splitSets_19 : decode cX6_splitSets 19 = .ok (.iconst 1, 1) := by decide +kernel
theorem dX6_splitSets_20 : decode cX6_splitSets 20 = .ok (.iload_n 2, 1) := by decide +kernel
theorem dX6_splitSets_21 : decode cX6_splitSets 21 = .ok (.ishl, 1) := by decide +kernel
theorem dX6_splitSets_22 : decode cX6_splitSets 22 = .ok (.goto 4, 3) := by decide +kernel
theorem dX6_splitSets_25 : decode cX6_splitSets 25 = .ok (.iconst 0, 1) := by decide +kernel
theorem dX6_splitSets_26 : decode cX6_splitSets 26 = .ok (.ior, 1) := by decide +kernel
theorem dX6_splitSets_27 : decode cX6_splitSets 27 = .ok (.istore_n 1, 1) := by decide +kernel
theorem dX6_splitSets_28 : decode cX6_splitSets 28 = .ok (.iinc 2 1, 3) := by decide +kernel
theorem dX6_splitSets_31 : decode cX6_splitSets 31 = .ok (.goto (-27), 3) := by decide +kernel
theorem dX6_splitSets_34 : decode cX6_splitSets 34 = .ok (.iload_n 1, 1) := by decide +kernel
theorem dX6_splitSets_35 : decode cX6_splitSets 35 = .ok (.ireturn, 1) := by decide +kernel
theorem dX6_isSplitSet_0 : decode cX6_isSplitSet 0 = .ok (.iconst 0, 1) := by decide +kernel
theorem dX6_isSplitSet_1 : decode cX6_isSplitSet 1 = .ok (.istore_n 2, 1) := by decide +kernel
theorem dX6_isSplitSet_2 : decode cX6_isSplitSet 2 = .ok (.iconst 0, 1) := by decide +kernel
theorem dX6_isSplitSet_3 : decode cX6_isSplitSet 3 = .ok (.istore_n 3, 1) := by decide +kernel
theorem dX6_isSplitSet_4 : decode cX6_isSplitSet 4 = .ok (.iload_n 3, 1) := by decide +kernel
theorem dX6_isSplitSet_5 : decode cX6_isSplitSet 5 = .ok (.aload_n 0, 1) := by decide +kernel
theorem dX6_isSplitSet_6 : decode cX6_isSplitSet 6 = .ok (.getfield 9, 3) := by decide +kernel
theorem dX6_isSplitSet_9 : decode cX6_isSplitSet 9 = .ok (.getfield 75, 3) := by decide +kernel
theorem dX6_isSplitSet_12 : decode cX6_isSplitSet 12 = .ok (.if_icmp .ge 56, 3) := by decide +kernel
theorem dX6_isSplitSet_15 : decode cX6_isSplitSet 15 = .ok (.aload_n 0, 1) := by decide +kernel
theorem dX6_isSplitSet_16 : decode cX6_isSplitSet 16 = .ok (.getfield 15, 3) := by decide +kernel
theorem dX6_isSplitSet_19 : decode cX6_isSplitSet 19 = .ok (.getfield 29, 3) := by decide +kernel
theorem dX6_isSplitSet_22 : decode cX6_isSplitSet 22 = .ok (.iload_n 3, 1) := by decide +kernel
theorem dX6_isSplitSet_23 : decode cX6_isSplitSet 23 = .ok (.iaload, 1) := by decide +kernel
theorem dX6_isSplitSet_24 : decode cX6_isSplitSet 24 = .ok (.ifCond .ne 38, 3) := by decide +kernel
theorem dX6_isSplitSet_27 : decode cX6_isSplitSet 27 = .ok (.aload_n 0, 1) := by decide +kernel
theorem dX6_isSplitSet_28 : decode cX6_isSplitSet 28 = .ok (.getfield 15, 3) := by decide +kernel
theorem dX6_isSplitSet_31 : decode cX6_isSplitSet 31 = .ok (.getfield 41, 3) := by decide +kernel
theorem dX6_isSplitSet_34 : decode cX6_isSplitSet 34 = .ok (.iload_n 3, 1) := by decide +kernel
theorem dX6_isSplitSet_35 : decode cX6_isSplitSet 35 = .ok (.aaload, 1) := by decide +kernel
theorem dX6_isSplitSet_36 : decode cX6_isSplitSet 36 = .ok (.iload_n 1, 1) := by decide +kernel
theorem dX6_isSplitSet_37 : decode cX6_isSplitSet 37 = .ok (.invokevirtual 72, 3) := by decide +kernel
theorem dX6_isSplitSet_40 : decode cX6_isSplitSet 40 = .ok (.ifCond .ne 22, 3) := by decide +kernel
theorem dX6_isSplitSet_43 : decode cX6_isSplitSet 43 = .ok (.iload_n 2, 1) := by decide +kernel
theorem dX6_isSplitSet_44 : decode cX6_isSplitSet 44 = .ok (.iconst 1, 1) := by decide +kernel
theorem dX6_isSplitSet_45 : decode cX6_isSplitSet 45 = .ok (.aload_n 0, 1) := by decide +kernel
theorem dX6_isSplitSet_46 : decode cX6_isSplitSet 46 = .ok (.getfield 15, 3) := by decide +kernel
theorem dX6_isSplitSet_49 : decode cX6_isSplitSet 49 = .ok (.getfield 41, 3) := by decide +kernel
theorem dX6_isSplitSet_52 : decode cX6_isSplitSet 52 = .ok (.iload_n 3, 1) := by decide +kernel
theorem dX6_isSplitSet_53 : decode cX6_isSplitSet 53 = .ok (.aaload, 1) := by decide +kernel
theorem dX6_isSplitSet_54 : decode cX6_isSplitSet 54 = .ok (.iload_n 1, 1) := by decide +kernel
theorem dX6_isSplitSet_55 : decode cX6_isSplitSet 55 = .ok (.iconst 3, 1) := by decide +kernel
theorem dX6_isSplitSet_56 : decode cX6_isSplitSet 56 = .ok (.invokevirtual 68, 3) := by decide +kernel
theorem dX6_isSplitSet_59 : decode cX6_isSplitSet 59 = .ok (.ishl, 1) := by decide +kernel
theorem dX6_isSplitSet_60 : decode cX6_isSplitSet 60 = .ok (.ior, 1) := by decide +kernel
theorem dX6_isSplitSet_61 : decode cX6_isSplitSet 61 = .ok (.istore_n 2, 1) := by decide +kernel
theorem dX6_isSplitSet_62 : decode cX6_isSplitSet 62 = .ok (.iinc 3 1, 3) := by decide +kernel
theorem dX6_isSplitSet_65 : decode cX6_isSplitSet 65 = .ok (.goto (-61), 3) := by decide +kernel
theorem dX6_isSplitSet_68 : decode cX6_isSplitSet 68 = .ok (.iload_n 2, 1) := by decide +kernel
theorem dX6_isSplitSet_69 : decode cX6_isSplitSet 69 = .ok (.invokestatic 56, 3) := by decide +kernel
theorem dX6_isSplitSet_72 : decode cX6_isSplitSet 72 = .ok (.iconst 1, 1) := by decide +kernel
theorem dX6_isSplitSet_73 : decode cX6_isSplitSet 73 = .ok (.if_icmp .le 7, 3) := by decide +kernel
theorem dX6_isSplitSet_76 : decode cX6_isSplitSet 76 = .ok (.iconst 1, 1) := by decide +kernel
theorem dX6_isSplitSet_77 : decode cX6_isSplitSet 77 = .ok (.goto 4, 3) := by decide +kernel
theorem dX6_isSplitSet_80 : decode cX6_isSplitSet 80 = .ok (.iconst 0, 1) := by decide +kernel
theorem dX6_isSplitSet_81 : decode cX6_isSplitSet 81 = .ok (.ireturn, 1) := by decide +kernel
theorem dX6_sayYes_0 : decode cX6_sayYes 0 = .ok (.aload_n 0, 1) := by decide +kernel
theorem dX6_sayYes_1 : decode cX6_sayYes 1 = .ok (.aload_n 0, 1) := by decide +kernel
theorem dX6_sayYes_2 : decode cX6_sayYes 2 = .ok (.getfield 15, 3) := by decide +kernel
theorem dX6_sayYes_5 : decode cX6_sayYes 5 = .ok (.getfield 41, 3) := by decide +kernel
theorem dX6_sayYes_8 : decode cX6_sayYes 8 = .ok (.iload_n 1, 1) := by decide +kernel
theorem dX6_sayYes_9 : decode cX6_sayYes 9 = .ok (.aaload, 1) := by decide +kernel
theorem dX6_sayYes_10 : decode cX6_sayYes 10 = .ok (.iload_n 2, 1) := by decide +kernel
theorem dX6_sayYes_11 : decode cX6_sayYes 11 = .ok (.invokevirtual 85, 3) := by decide +kernel
theorem dX6_sayYes_14 : decode cX6_sayYes 14 = .ok (.istore 4, 2) := by decide +kernel
theorem dX6_sayYes_16 : decode cX6_sayYes 16 = .ok (.iconst 0, 1) := by decide +kernel
theorem dX6_sayYes_17 : decode cX6_sayYes 17 = .ok (.istore 5, 2) := by decide +kernel
theorem dX6_sayYes_19 : decode cX6_sayYes 19 = .ok (.iconst 0, 1) := by decide +kernel
theorem dX6_sayYes_20 : decode cX6_sayYes 20 = .ok (.istore 6, 2) := by decide +kernel
theorem dX6_sayYes_22 : decode cX6_sayYes 22 = .ok (.iload 6, 2) := by decide +kernel
theorem dX6_sayYes_24 : decode cX6_sayYes 24 = .ok (.aload_n 0, 1) := by decide +kernel
theorem dX6_sayYes_25 : decode cX6_sayYes 25 = .ok (.getfield 9, 3) := by decide +kernel
theorem dX6_sayYes_28 : decode cX6_sayYes 28 = .ok (.getfield 75, 3) := by decide +kernel
theorem dX6_sayYes_31 : decode cX6_sayYes 31 = .ok (.if_icmp .ge 54, 3) := by decide +kernel
theorem dX6_sayYes_34 : decode cX6_sayYes 34 = .ok (.iload_n 3, 1) := by decide +kernel
theorem dX6_sayYes_35 : decode cX6_sayYes 35 = .ok (.iload 6, 2) := by decide +kernel
theorem dX6_sayYes_37 : decode cX6_sayYes 37 = .ok (.ishr, 1) := by decide +kernel
theorem dX6_sayYes_38 : decode cX6_sayYes 38 = .ok (.iconst 1, 1) := by decide +kernel
theorem dX6_sayYes_39 : decode cX6_sayYes 39 = .ok (.iand, 1) := by decide +kernel
theorem dX6_sayYes_40 : decode cX6_sayYes 40 = .ok (.iconst 1, 1) := by decide +kernel
theorem dX6_sayYes_41 : decode cX6_sayYes 41 = .ok (.if_icmp .ne 38, 3) := by decide +kernel
theorem dX6_sayYes_44 : decode cX6_sayYes 44 = .ok (.aload_n 0, 1) := by decide +kernel
theorem dX6_sayYes_45 : decode cX6_sayYes 45 = .ok (.getfield 15, 3) := by decide +kernel
theorem dX6_sayYes_48 : decode cX6_sayYes 48 = .ok (.iload_n 1, 1) := by decide +kernel
theorem dX6_sayYes_49 : decode cX6_sayYes 49 = .ok (.iload 6, 2) := by decide +kernel
theorem dX6_sayYes_51 : decode cX6_sayYes 51 = .ok (.invokevirtual 89, 3) := by decide +kernel
theorem dX6_sayYes_54 : decode cX6_sayYes 54 = .ok (.ifCond .eq 25, 3) := by decide +kernel
theorem dX6_sayYes_57 : decode cX6_sayYes 57 = .ok (.iload 5, 2) := by decide +kernel
theorem dX6_sayYes_59 : decode cX6_sayYes 59 = .ok (.aload_n 0, 1) := by decide +kernel
theorem dX6_sayYes_60 : decode cX6_sayYes 60 = .ok (.iload 6, 2) := by decide +kernel
theorem dX6_sayYes_62 : decode cX6_sayYes 62 = .ok (.iload_n 2, 1) := by decide +kernel
theorem dX6_sayYes_63 : decode cX6_sayYes 63 = .ok (.iload 4, 2) := by decide +kernel
theorem dX6_sayYes_65 : decode cX6_sayYes 65 = .ok (.invokevirtual 93, 3) := by decide +kernel
theorem dX6_sayYes_68 : decode cX6_sayYes 68 = .ok (.ifCond .eq 7, 3) := by decide +kernel
theorem dX6_sayYes_71 : decode cX6_sayYes 71 = .ok (.iconst 1, 1) := by decide +kernel
theorem dX6_sayYes_72 : decode cX6_sayYes 72 = .ok (.goto 4, 3) := by decide +kernel
theorem dX6_sayYes_75 : decode cX6_sayYes 75 = .ok (.iconst 0, 1) := by decide +kernel
theorem dX6_sayYes_76 : decode cX6_sayYes 76 = .ok (.iadd, 1) := by decide +kernel
theorem dX6_sayYes_77 : decode cX6_sayYes 77 = .ok (.istore 5, 2) := by decide +kernel
theorem dX6_sayYes_79 : decode cX6_sayYes 79 = .ok (.iinc 6 1, 3) := by decide +kernel
theorem dX6_sayYes_82 : decode cX6_sayYes 82 = .ok (.goto (-60), 3) := by decide +kernel
theorem dX6_sayYes_85 : decode cX6_sayYes 85 = .ok (.iload 5, 2) := by decide +kernel
theorem dX6_sayYes_87 : decode cX6_sayYes 87 = .ok (.ireturn, 1) := by decide +kernel
theorem dX6_saysYes_0 : decode cX6_saysYes 0 = .ok (.aload_n 0, 1) := by decide +kernel
theorem dX6_saysYes_1 : decode cX6_saysYes 1 = .ok (.getfield 15, 3) := by decide +kernel
theorem dX6_saysYes_4 : decode cX6_saysYes 4 = .ok (.getfield 29, 3) := by decide +kernel
theorem dX6_saysYes_7 : decode cX6_saysYes 7 = .ok (.iload_n 1, 1) := by decide +kernel
theorem dX6_saysYes_8 : decode cX6_saysYes 8 = .ok (.iaload, 1) := by decide +kernel
theorem dX6_saysYes_9 : decode cX6_saysYes 9 = .ok (.tableswitch 58 0 3 #[31, 58, 46, 48], 31) := by decide +kernel
theorem dX6_saysYes_40 : decode cX6_saysYes 40 = .ok (.aload_n 0, 1) := by decide +kernel
theorem dX6_saysYes_41 : decode cX6_saysYes 41 = .ok (.aload_n 0, 1) := by decide +kernel
theorem dX6_saysYes_42 : decode cX6_saysYes 42 = .ok (.getfield 15, 3) := by decide +kernel
theorem dX6_saysYes_45 : decode cX6_saysYes 45 = .ok (.getfield 41, 3) := by decide +kernel
theorem dX6_saysYes_48 : decode cX6_saysYes 48 = .ok (.iload_n 1, 1) := by decide +kernel
theorem dX6_saysYes_49 : decode cX6_saysYes 49 = .ok (.aaload, 1) := by decide +kernel
theorem dX6_saysYes_50 : decode cX6_saysYes 50 = .ok (.iload_n 2, 1) := by decide +kernel
theorem dX6_saysYes_51 : decode cX6_saysYes 51 = .ok (.invokevirtual 85, 3) := by decide +kernel
theorem dX6_saysYes_54 : decode cX6_saysYes 54 = .ok (.ireturn, 1) := by decide +kernel
theorem dX6_saysYes_55 : decode cX6_saysYes 55 = .ok (.iconst 1, 1) := by decide +kernel
theorem dX6_saysYes_56 : decode cX6_saysYes 56 = .ok (.ireturn, 1) := by decide +kernel
theorem dX6_saysYes_57 : decode cX6_saysYes 57 = .ok (.iload_n 3, 1) := by decide +kernel
theorem dX6_saysYes_58 : decode cX6_saysYes 58 = .ok (.ifCond .ne 7, 3) := by decide +kernel
theorem dX6_saysYes_61 : decode cX6_saysYes 61 = .ok (.iconst 1, 1) := by decide +kernel
theorem dX6_saysYes_62 : decode cX6_saysYes 62 = .ok (.goto 4, 3) := by decide +kernel
theorem dX6_saysYes_65 : decode cX6_saysYes 65 = .ok (.iconst 0, 1) := by decide +kernel
theorem dX6_saysYes_66 : decode cX6_saysYes 66 = .ok (.ireturn, 1) := by decide +kernel
theorem dX6_saysYes_67 : decode cX6_saysYes 67 = .ok (.iconst 0, 1) := by decide +kernel
theorem dX6_saysYes_68 : decode cX6_saysYes 68 = .ok (.ireturn, 1) := by decide +kernel
theorem dX6_hold_0 : decode cX6_hold 0 = .ok (.aload_n 0, 1) := by decide +kernel
theorem dX6_hold_1 : decode cX6_hold 1 = .ok (.getfield 15, 3) := by decide +kernel
theorem dX6_hold_4 : decode cX6_hold 4 = .ok (.getfield 41, 3) := by decide +kernel
theorem dX6_hold_7 : decode cX6_hold 7 = .ok (.iload_n 1, 1) := by decide +kernel
theorem dX6_hold_8 : decode cX6_hold 8 = .ok (.aaload, 1) := by decide +kernel
theorem dX6_hold_9 : decode cX6_hold 9 = .ok (.astore 4, 2) := by decide +kernel
theorem dX6_hold_11 : decode cX6_hold 11 = .ok (.aload_n 0, 1) := by decide +kernel
theorem dX6_hold_12 : decode cX6_hold 12 = .ok (.getfield 19, 3) := by decide +kernel
theorem dX6_hold_15 : decode cX6_hold 15 = .ok (.iload_n 2, 1) := by decide +kernel
theorem dX6_hold_16 : decode cX6_hold 16 = .ok (.invokevirtual 62, 3) := by decide +kernel
theorem dX6_hold_19 : decode cX6_hold 19 = .ok (.istore 5, 2) := by decide +kernel
theorem dX6_hold_21 : decode cX6_hold 21 = .ok (.aload 4, 2) := by decide +kernel
theorem dX6_hold_23 : decode cX6_hold 23 = .ok (.dup, 1) := by decide +kernel
theorem dX6_hold_24 : decode cX6_hold 24 = .ok (.getfield 45, 3) := by decide +kernel
theorem dX6_hold_27 : decode cX6_hold 27 = .ok (.iconst 1, 1) := by decide +kernel
theorem dX6_hold_28 : decode cX6_hold 28 = .ok (.iload_n 2, 1) := by decide +kernel
theorem dX6_hold_29 : decode cX6_hold 29 = .ok (.ishl, 1) := by decide +kernel
theorem dX6_hold_30 : decode cX6_hold 30 = .ok (.ior, 1) := by decide +kernel
theorem dX6_hold_31 : decode cX6_hold 31 = .ok (.putfield 45, 3) := by decide +kernel
theorem dX6_hold_34 : decode cX6_hold 34 = .ok (.aload_n 0, 1) := by decide +kernel
theorem dX6_hold_35 : decode cX6_hold 35 = .ok (.iload_n 1, 1) := by decide +kernel
theorem dX6_hold_36 : decode cX6_hold 36 = .ok (.iload_n 2, 1) := by decide +kernel
theorem dX6_hold_37 : decode cX6_hold 37 = .ok (.iload_n 3, 1) := by decide +kernel
theorem dX6_hold_38 : decode cX6_hold 38 = .ok (.invokevirtual 97, 3) := by decide +kernel
theorem dX6_hold_41 : decode cX6_hold 41 = .ok (.aload_n 0, 1) := by decide +kernel
theorem dX6_hold_42 : decode cX6_hold 42 = .ok (.getfield 9, 3) := by decide +kernel
theorem dX6_hold_45 : decode cX6_hold 45 = .ok (.getfield 101, 3) := by decide +kernel
theorem dX6_hold_48 : decode cX6_hold 48 = .ok (.if_icmp .ge 13, 3) := by decide +kernel
theorem dX6_hold_51 : decode cX6_hold 51 = .ok (.aload_n 0, 1) := by decide +kernel
theorem dX6_hold_52 : decode cX6_hold 52 = .ok (.aload 4, 2) := by decide +kernel
theorem dX6_hold_54 : decode cX6_hold 54 = .ok (.iload 5, 2) := by decide +kernel
theorem dX6_hold_56 : decode cX6_hold 56 = .ok (.invokevirtual 104, 3) := by decide +kernel
theorem dX6_hold_59 : decode cX6_hold 59 = .ok (.iconst 0, 1) := by decide +kernel
theorem dX6_hold_60 : decode cX6_hold 60 = .ok (.ireturn, 1) := by decide +kernel
theorem dX6_hold_61 : decode cX6_hold 61 = .ok (.aload 4, 2) := by decide +kernel
theorem dX6_hold_63 : decode cX6_hold 63 = .ok (.dup, 1) := by decide +kernel
theorem dX6_hold_64 : decode cX6_hold 64 = .ok (.getfield 50, 3) := by decide +kernel
theorem dX6_hold_67 : decode cX6_hold 67 = .ok (.iconst 1, 1) := by decide +kernel
theorem dX6_hold_68 : decode cX6_hold 68 = .ok (.iload_n 2, 1) := by decide +kernel
theorem dX6_hold_69 : decode cX6_hold 69 = .ok (.ishl, 1) := by decide +kernel
theorem dX6_hold_70 : decode cX6_hold 70 = .ok (.ior, 1) := by decide +kernel
theorem dX6_hold_71 : decode cX6_hold 71 = .ok (.putfield 50, 3) := by decide +kernel
theorem dX6_hold_74 : decode cX6_hold 74 = .ok (.aload_n 0, 1) := by decide +kernel
theorem dX6_hold_75 : decode cX6_hold 75 = .ok (.aload 4, 2) := by decide +kernel
theorem dX6_hold_77 : decode cX6_hold 77 = .ok (.iload 5, 2) := by decide +kernel
theorem dX6_hold_79 : decode cX6_hold 79 = .ok (.invokevirtual 108, 3) := by decide +kernel
theorem dX6_hold_82 : decode cX6_hold 82 = .ok (.aload_n 0, 1) := by decide +kernel
theorem dX6_hold_83 : decode cX6_hold 83 = .ok (.aload 4, 2) := by decide +kernel
theorem dX6_hold_85 : decode cX6_hold 85 = .ok (.iload 5, 2) := by decide +kernel
theorem dX6_hold_87 : decode cX6_hold 87 = .ok (.invokevirtual 111, 3) := by decide +kernel
theorem dX6_hold_90 : decode cX6_hold 90 = .ok (.ifCond .eq 7, 3) := by decide +kernel
theorem dX6_hold_93 : decode cX6_hold 93 = .ok (.iconst 2, 1) := by decide +kernel
theorem dX6_hold_94 : decode cX6_hold 94 = .ok (.goto 4, 3) := by decide +kernel
theorem dX6_hold_97 : decode cX6_hold 97 = .ok (.iconst 1, 1) := by decide +kernel
theorem dX6_hold_98 : decode cX6_hold 98 = .ok (.ireturn, 1) := by decide +kernel
theorem dX6_isOpenOf_0 : decode cX6_isOpenOf 0 = .ok (.iload_n 2, 1) := by decide +kernel
theorem dX6_isOpenOf_1 : decode cX6_isOpenOf 1 = .ok (.iload_n 3, 1) := by decide +kernel
theorem dX6_isOpenOf_2 : decode cX6_isOpenOf 2 = .ok (.ishr, 1) := by decide +kernel
theorem dX6_isOpenOf_3 : decode cX6_isOpenOf 3 = .ok (.iconst 1, 1) := by decide +kernel
theorem dX6_isOpenOf_4 : decode cX6_isOpenOf 4 = .ok (.iand, 1) := by decide +kernel
theorem dX6_isOpenOf_5 : decode cX6_isOpenOf 5 = .ok (.iconst 1, 1) := by decide +kernel
theorem dX6_isOpenOf_6 : decode cX6_isOpenOf 6 = .ok (.if_icmp .ne 23, 3) := by decide +kernel
theorem dX6_isOpenOf_9 : decode cX6_isOpenOf 9 = .ok (.aload_n 1, 1) := by decide +kernel
theorem dX6_isOpenOf_10 : decode cX6_isOpenOf 10 = .ok (.aload_n 0, 1) := by decide +kernel
theorem dX6_isOpenOf_11 : decode cX6_isOpenOf 11 = .ok (.getfield 19, 3) := by decide +kernel
theorem dX6_isOpenOf_14 : decode cX6_isOpenOf 14 = .ok (.getfield 65, 3) := by decide +kernel
theorem dX6_isOpenOf_17 : decode cX6_isOpenOf 17 = .ok (.iload_n 3, 1) := by decide +kernel
theorem dX6_isOpenOf_18 : decode cX6_isOpenOf 18 = .ok (.iaload, 1) := by decide +kernel
theorem dX6_isOpenOf_19 : decode cX6_isOpenOf 19 = .ok (.invokevirtual 72, 3) := by decide +kernel
theorem dX6_isOpenOf_22 : decode cX6_isOpenOf 22 = .ok (.ifCond .eq 7, 3) := by decide +kernel
theorem dX6_isOpenOf_25 : decode cX6_isOpenOf 25 = .ok (.iconst 1, 1) := by decide +kernel
theorem dX6_isOpenOf_26 : decode cX6_isOpenOf 26 = .ok (.goto 4, 3) := by decide +kernel
theorem dX6_isOpenOf_29 : decode cX6_isOpenOf 29 = .ok (.iconst 0, 1) := by decide +kernel
theorem dX6_isOpenOf_30 : decode cX6_isOpenOf 30 = .ok (.ireturn, 1) := by decide +kernel
theorem dX6_lose_0 : decode cX6_lose 0 = .ok (.iconst 0, 1) := by decide +kernel
theorem dX6_lose_1 : decode cX6_lose 1 = .ok (.istore_n 3, 1) := by decide +kernel
theorem dX6_lose_2 : decode cX6_lose 2 = .ok (.iload_n 3, 1) := by decide +kernel
theorem dX6_lose_3 : decode cX6_lose 3 = .ok (.aload_n 0, 1) := by decide +kernel
theorem dX6_lose_4 : decode cX6_lose 4 = .ok (.getfield 19, 3) := by decide +kernel
theorem dX6_lose_7 : decode cX6_lose 7 = .ok (.getfield 35, 3) := by decide +kernel
theorem dX6_lose_10 : decode cX6_lose 10 = .ok (.if_icmp .ge 34, 3) := by decide +kernel
theorem dX6_lose_13 : decode cX6_lose 13 = .ok (.aload_n 0, 1) := by decide +kernel
theorem dX6_lose_14 : decode cX6_lose 14 = .ok (.aload_n 1, 1) := by decide +kernel
theorem dX6_lose_15 : decode cX6_lose 15 = .ok (.iload_n 2, 1) := by decide +kernel
theorem dX6_lose_16 : decode cX6_lose 16 = .ok (.iload_n 3, 1) := by decide +kernel
theorem dX6_lose_17 : decode cX6_lose 17 = .ok (.invokevirtual 114, 3) := by decide +kernel
theorem dX6_lose_20 : decode cX6_lose 20 = .ok (.ifCond .eq 18, 3) := by decide +kernel
theorem dX6_lose_23 : decode cX6_lose 23 = .ok (.aload_n 1, 1) := by decide +kernel
theorem dX6_lose_24 : decode cX6_lose 24 = .ok (.aload_n 0, 1) := by decide +kernel
theorem dX6_lose_25 : decode cX6_lose 25 = .ok (.getfield 19, 3) := by decide +kernel
theorem dX6_lose_28 : decode cX6_lose 28 = .ok (.getfield 65, 3) := by decide +kernel
theorem dX6_lose_31 : decode cX6_lose 31 = .ok (.iload_n 3, 1) := by decide +kernel
theorem dX6_lose_32 : decode cX6_lose 32 = .ok (.iaload, 1) := by decide +kernel
theorem dX6_lose_33 : decode cX6_lose 33 = .ok (.iconst 2, 1) := by decide +kernel
theorem dX6_lose_34 : decode cX6_lose 34 = .ok (.iconst 0, 1) := by decide +kernel
theorem dX6_lose_35 : decode cX6_lose 35 = .ok (.invokevirtual 118, 3) := by decide +kernel
theorem dX6_lose_38 : decode cX6_lose 38 = .ok (.iinc 3 1, 3) := by decide +kernel
theorem dX6_lose_41 : decode cX6_lose 41 = .ok (.goto (-39), 3) := by decide +kernel
theorem dX6_lose_44 : decode cX6_lose 44 = .ok (.return_, 1) := by decide +kernel
theorem dX6_gain_0 : decode cX6_gain 0 = .ok (.iconst 0, 1) := by decide +kernel
theorem dX6_gain_1 : decode cX6_gain 1 = .ok (.istore_n 3, 1) := by decide +kernel
theorem dX6_gain_2 : decode cX6_gain 2 = .ok (.iload_n 3, 1) := by decide +kernel
theorem dX6_gain_3 : decode cX6_gain 3 = .ok (.aload_n 0, 1) := by decide +kernel
theorem dX6_gain_4 : decode cX6_gain 4 = .ok (.getfield 19, 3) := by decide +kernel
theorem dX6_gain_7 : decode cX6_gain 7 = .ok (.getfield 35, 3) := by decide +kernel
theorem dX6_gain_10 : decode cX6_gain 10 = .ok (.if_icmp .ge 34, 3) := by decide +kernel
theorem dX6_gain_13 : decode cX6_gain 13 = .ok (.aload_n 0, 1) := by decide +kernel
theorem dX6_gain_14 : decode cX6_gain 14 = .ok (.aload_n 1, 1) := by decide +kernel
theorem dX6_gain_15 : decode cX6_gain 15 = .ok (.iload_n 2, 1) := by decide +kernel
theorem dX6_gain_16 : decode cX6_gain 16 = .ok (.iload_n 3, 1) := by decide +kernel
theorem dX6_gain_17 : decode cX6_gain 17 = .ok (.invokevirtual 114, 3) := by decide +kernel
theorem dX6_gain_20 : decode cX6_gain 20 = .ok (.ifCond .eq 18, 3) := by decide +kernel
theorem dX6_gain_23 : decode cX6_gain 23 = .ok (.aload_n 0, 1) := by decide +kernel
theorem dX6_gain_24 : decode cX6_gain 24 = .ok (.aload_n 1, 1) := by decide +kernel
theorem dX6_gain_25 : decode cX6_gain 25 = .ok (.aload_n 0, 1) := by decide +kernel
theorem dX6_gain_26 : decode cX6_gain 26 = .ok (.getfield 19, 3) := by decide +kernel
theorem dX6_gain_29 : decode cX6_gain 29 = .ok (.getfield 65, 3) := by decide +kernel
theorem dX6_gain_32 : decode cX6_gain 32 = .ok (.iload_n 3, 1) := by decide +kernel
theorem dX6_gain_33 : decode cX6_gain 33 = .ok (.iaload, 1) := by decide +kernel
theorem dX6_gain_34 : decode cX6_gain 34 = .ok (.iload_n 3, 1) := by decide +kernel
theorem dX6_gain_35 : decode cX6_gain 35 = .ok (.invokevirtual 122, 3) := by decide +kernel
theorem dX6_gain_38 : decode cX6_gain 38 = .ok (.iinc 3 1, 3) := by decide +kernel
theorem dX6_gain_41 : decode cX6_gain 41 = .ok (.goto (-39), 3) := by decide +kernel
theorem dX6_gain_44 : decode cX6_gain 44 = .ok (.return_, 1) := by decide +kernel
theorem dX6_gainOne_0 : decode cX6_gainOne 0 = .ok (.aload_n 1, 1) := by decide +kernel
theorem dX6_gainOne_1 : decode cX6_gainOne 1 = .ok (.iload_n 2, 1) := by decide +kernel
theorem dX6_gainOne_2 : decode cX6_gainOne 2 = .ok (.iconst 0, 1) := by decide +kernel
theorem dX6_gainOne_3 : decode cX6_gainOne 3 = .ok (.invokevirtual 68, 3) := by decide +kernel
theorem dX6_gainOne_6 : decode cX6_gainOne 6 = .ok (.istore 4, 2) := by decide +kernel
theorem dX6_gainOne_8 : decode cX6_gainOne 8 = .ok (.iload 4, 2) := by decide +kernel
theorem dX6_gainOne_10 : decode cX6_gainOne 10 = .ok (.iconst (-1), 1) := by decide +kernel
theorem dX6_gainOne_11 : decode cX6_gainOne 11 = .ok (.if_icmp .eq 19, 3) := by decide +kernel
theorem dX6_gainOne_14 : decode cX6_gainOne 14 = .ok (.aload_n 0, 1) := by decide +kernel
theorem dX6_gainOne_15 : decode cX6_gainOne 15 = .ok (.aload_n 1, 1) := by decide +kernel
theorem dX6_gainOne_16 : decode cX6_gainOne 16 = .ok (.iload_n 3, 1) := by decide +kernel
theorem dX6_gainOne_17 : decode cX6_gainOne 17 = .ok (.invokevirtual 126, 3) := by decide +kernel
theorem dX6_gainOne_20 : decode cX6_gainOne 20 = .ok (.aload_n 0, 1) := by decide +kernel
theorem dX6_gainOne_21 : decode cX6_gainOne 21 = .ok (.aload_n 1, 1) := by decide +kernel
theorem dX6_gainOne_22 : decode cX6_gainOne 22 = .ok (.iload 4, 2) := by decide +kernel
theorem dX6_gainOne_24 : decode cX6_gainOne 24 = .ok (.invokevirtual 126, 3) := by decide +kernel
theorem dX6_gainOne_27 : decode cX6_gainOne 27 = .ok (.if_icmp .le 10, 3) := by decide +kernel
theorem dX6_gainOne_30 : decode cX6_gainOne 30 = .ok (.aload_n 1, 1) := by decide +kernel
theorem dX6_gainOne_31 : decode cX6_gainOne 31 = .ok (.iload_n 2, 1) := by decide +kernel
theorem dX6_gainOne_32 : decode cX6_gainOne 32 = .ok (.iconst 0, 1) := by decide +kernel
theorem dX6_gainOne_33 : decode cX6_gainOne 33 = .ok (.iload_n 3, 1) := by decide +kernel
theorem dX6_gainOne_34 : decode cX6_gainOne 34 = .ok (.invokevirtual 118, 3) := by decide +kernel
theorem dX6_gainOne_37 : decode cX6_gainOne 37 = .ok (.aload_n 1, 1) := by decide +kernel
theorem dX6_gainOne_38 : decode cX6_gainOne 38 = .ok (.iload_n 2, 1) := by decide +kernel
theorem dX6_gainOne_39 : decode cX6_gainOne 39 = .ok (.iconst 1, 1) := by decide +kernel
theorem dX6_gainOne_40 : decode cX6_gainOne 40 = .ok (.invokevirtual 68, 3) := by decide +kernel
theorem dX6_gainOne_43 : decode cX6_gainOne 43 = .ok (.iload_n 3, 1) := by decide +kernel
theorem dX6_gainOne_44 : decode cX6_gainOne 44 = .ok (.if_icmp .ne 20, 3) := by decide +kernel
theorem dX6_gainOne_47 : decode cX6_gainOne 47 = .ok (.aload_n 1, 1) := by decide +kernel
theorem dX6_gainOne_48 : decode cX6_gainOne 48 = .ok (.iload_n 2, 1) := by decide +kernel
theorem dX6_gainOne_49 : decode cX6_gainOne 49 = .ok (.iconst 2, 1) := by decide +kernel
theorem dX6_gainOne_50 : decode cX6_gainOne 50 = .ok (.aload_n 1, 1) := by decide +kernel
theorem dX6_gainOne_51 : decode cX6_gainOne 51 = .ok (.iload_n 2, 1) := by decide +kernel
theorem dX6_gainOne_52 : decode cX6_gainOne 52 = .ok (.iconst 2, 1) := by decide +kernel
theorem dX6_gainOne_53 : decode cX6_gainOne 53 = .ok (.invokevirtual 68, 3) := by decide +kernel
theorem dX6_gainOne_56 : decode cX6_gainOne 56 = .ok (.iconst 1, 1) := by decide +kernel
theorem dX6_gainOne_57 : decode cX6_gainOne 57 = .ok (.iadd, 1) := by decide +kernel
theorem dX6_gainOne_58 : decode cX6_gainOne 58 = .ok (.invokevirtual 118, 3) := by decide +kernel
theorem dX6_gainOne_61 : decode cX6_gainOne 61 = .ok (.goto 17, 3) := by decide +kernel
theorem dX6_gainOne_64 : decode cX6_gainOne 64 = .ok (.aload_n 1, 1) := by decide +kernel
theorem dX6_gainOne_65 : decode cX6_gainOne 65 = .ok (.iload_n 2, 1) := by decide +kernel
theorem dX6_gainOne_66 : decode cX6_gainOne 66 = .ok (.iconst 1, 1) := by decide +kernel
theorem dX6_gainOne_67 : decode cX6_gainOne 67 = .ok (.iload_n 3, 1) := by decide +kernel
theorem dX6_gainOne_68 : decode cX6_gainOne 68 = .ok (.invokevirtual 118, 3) := by decide +kernel
theorem dX6_gainOne_71 : decode cX6_gainOne 71 = .ok (.aload_n 1, 1) := by decide +kernel
theorem dX6_gainOne_72 : decode cX6_gainOne 72 = .ok (.iload_n 2, 1) := by decide +kernel
theorem dX6_gainOne_73 : decode cX6_gainOne 73 = .ok (.iconst 2, 1) := by decide +kernel
theorem dX6_gainOne_74 : decode cX6_gainOne 74 = .ok (.iconst 1, 1) := by decide +kernel
theorem dX6_gainOne_75 : decode cX6_gainOne 75 = .ok (.invokevirtual 118, 3) := by decide +kernel
theorem dX6_gainOne_78 : decode cX6_gainOne 78 = .ok (.return_, 1) := by decide +kernel
theorem dX6_accept_0 : decode cX6_accept 0 = .ok (.iconst 0, 1) := by decide +kernel
theorem dX6_accept_1 : decode cX6_accept 1 = .ok (.istore_n 3, 1) := by decide +kernel
theorem dX6_accept_2 : decode cX6_accept 2 = .ok (.iconst 0, 1) := by decide +kernel
theorem dX6_accept_3 : decode cX6_accept 3 = .ok (.istore 4, 2) := by decide +kernel
theorem dX6_accept_5 : decode cX6_accept 5 = .ok (.iload 4, 2) := by decide +kernel
theorem dX6_accept_7 : decode cX6_accept 7 = .ok (.aload_n 0, 1) := by decide +kernel
theorem dX6_accept_8 : decode cX6_accept 8 = .ok (.getfield 19, 3) := by decide +kernel
theorem dX6_accept_11 : decode cX6_accept 11 = .ok (.getfield 35, 3) := by decide +kernel
theorem dX6_accept_14 : decode cX6_accept 14 = .ok (.if_icmp .ge 59, 3) := by decide +kernel
theorem dX6_accept_17 : decode cX6_accept 17 = .ok (.aload_n 0, 1) := by decide +kernel
theorem dX6_accept_18 : decode cX6_accept 18 = .ok (.aload_n 1, 1) := by decide +kernel
theorem dX6_accept_19 : decode cX6_accept 19 = .ok (.iload_n 2, 1) := by decide +kernel
theorem dX6_accept_20 : decode cX6_accept 20 = .ok (.iload 4, 2) := by decide +kernel
theorem dX6_accept_22 : decode cX6_accept 22 = .ok (.invokevirtual 114, 3) := by decide +kernel
theorem dX6_accept_25 : decode cX6_accept 25 = .ok (.ifCond .eq 42, 3) := by decide +kernel
theorem dX6_accept_28 : decode cX6_accept 28 = .ok (.aload_n 0, 1) := by decide +kernel
theorem dX6_accept_29 : decode cX6_accept 29 = .ok (.aload_n 1, 1) := by decide +kernel
theorem dX6_accept_30 : decode cX6_accept 30 = .ok (.aload_n 0, 1) := by decide +kernel
theorem dX6_accept_31 : decode cX6_accept 31 = .ok (.getfield 19, 3) := by decide +kernel
theorem dX6_accept_34 : decode cX6_accept 34 = .ok (.getfield 65, 3) := by decide +kernel
theorem dX6_accept_37 : decode cX6_accept 37 = .ok (.iload 4, 2) := by decide +kernel
theorem dX6_accept_39 : decode cX6_accept 39 = .ok (.iaload, 1) := by decide +kernel
theorem dX6_accept_40 : decode cX6_accept 40 = .ok (.iload 4, 2) := by decide +kernel
theorem dX6_accept_42 : decode cX6_accept 42 = .ok (.invokevirtual 129, 3) := by decide +kernel
theorem dX6_accept_45 : decode cX6_accept 45 = .ok (.ifCond .eq 22, 3) := by decide +kernel
theorem dX6_accept_48 : decode cX6_accept 48 = .ok (.aload_n 1, 1) := by decide +kernel
theorem dX6_accept_49 : decode cX6_accept 49 = .ok (.aload_n 0, 1) := by decide +kernel
theorem dX6_accept_50 : decode cX6_accept 50 = .ok (.getfield 19, 3) := by decide +kernel
theorem dX6_accept_53 : decode cX6_accept 53 = .ok (.getfield 65, 3) := by decide +kernel
theorem dX6_accept_56 : decode cX6_accept 56 = .ok (.iload 4, 2) := by decide +kernel
theorem dX6_accept_58 : decode cX6_accept 58 = .ok (.iaload, 1) := by decide +kernel
theorem dX6_accept_59 : decode cX6_accept 59 = .ok (.iconst 3, 1) := by decide +kernel
theorem dX6_accept_60 : decode cX6_accept 60 = .ok (.iload 4, 2) := by decide +kernel
theorem dX6_accept_62 : decode cX6_accept 62 = .ok (.invokevirtual 118, 3) := by decide +kernel
theorem dX6_accept_65 : decode cX6_accept 65 = .ok (.iconst 1, 1) := by decide +kernel
theorem dX6_accept_66 : decode cX6_accept 66 = .ok (.istore_n 3, 1) := by decide +kernel
theorem dX6_accept_67 : decode cX6_accept 67 = .ok (.iinc 4 1, 3) := by decide +kernel
theorem dX6_accept_70 : decode cX6_accept 70 = .ok (.goto (-65), 3) := by decide +kernel
theorem dX6_accept_73 : decode cX6_accept 73 = .ok (.iload_n 3, 1) := by decide +kernel
theorem dX6_accept_74 : decode cX6_accept 74 = .ok (.ireturn, 1) := by decide +kernel
theorem dX6_isRipe_0 : decode cX6_isRipe 0 = .ok (.aload_n 1, 1) := by decide +kernel
theorem dX6_isRipe_1 : decode cX6_isRipe 1 = .ok (.iload_n 2, 1) := by decide +kernel
theorem dX6_isRipe_2 : decode cX6_isRipe 2 = .ok (.iconst 1, 1) := by decide +kernel
theorem dX6_isRipe_3 : decode cX6_isRipe 3 = .ok (.invokevirtual 68, 3) := by decide +kernel
theorem dX6_isRipe_6 : decode cX6_isRipe 6 = .ok (.iload_n 3, 1) := by decide +kernel
theorem dX6_isRipe_7 : decode cX6_isRipe 7 = .ok (.if_icmp .ne 13, 3) := by decide +kernel
theorem dX6_isRipe_10 : decode cX6_isRipe 10 = .ok (.aload_n 1, 1) := by decide +kernel
theorem dX6_isRipe_11 : decode cX6_isRipe 11 = .ok (.iload_n 2, 1) := by decide +kernel
theorem dX6_isRipe_12 : decode cX6_isRipe 12 = .ok (.iconst 0, 1) := by decide +kernel
theorem dX6_isRipe_13 : decode cX6_isRipe 13 = .ok (.invokevirtual 68, 3) := by decide +kernel
theorem dX6_isRipe_16 : decode cX6_isRipe 16 = .ok (.iload_n 3, 1) := by decide +kernel
theorem dX6_isRipe_17 : decode cX6_isRipe 17 = .ok (.if_icmp .eq 5, 3) := by decide +kernel
theorem dX6_isRipe_20 : decode cX6_isRipe 20 = .ok (.iconst 0, 1) := by decide +kernel
theorem dX6_isRipe_21 : decode cX6_isRipe 21 = .ok (.ireturn, 1) := by decide +kernel
theorem dX6_isRipe_22 : decode cX6_isRipe 22 = .ok (.aload_n 1, 1) := by decide +kernel
theorem dX6_isRipe_23 : decode cX6_isRipe 23 = .ok (.iload_n 2, 1) := by decide +kernel
theorem dX6_isRipe_24 : decode cX6_isRipe 24 = .ok (.iconst 2, 1) := by decide +kernel
theorem dX6_isRipe_25 : decode cX6_isRipe 25 = .ok (.invokevirtual 68, 3) := by decide +kernel
theorem dX6_isRipe_28 : decode cX6_isRipe 28 = .ok (.istore 4, 2) := by decide +kernel
theorem dX6_isRipe_30 : decode cX6_isRipe 30 = .ok (.iload 4, 2) := by decide +kernel
theorem dX6_isRipe_32 : decode cX6_isRipe 32 = .ok (.aload_n 0, 1) := by decide +kernel
theorem dX6_isRipe_33 : decode cX6_isRipe 33 = .ok (.getfield 9, 3) := by decide +kernel
theorem dX6_isRipe_36 : decode cX6_isRipe 36 = .ok (.getfield 132, 3) := by decide +kernel
theorem dX6_isRipe_39 : decode cX6_isRipe 39 = .ok (.if_icmp .ge 42, 3) := by decide +kernel
theorem dX6_isRipe_42 : decode cX6_isRipe 42 = .ok (.iload 4, 2) := by decide +kernel
theorem dX6_isRipe_44 : decode cX6_isRipe 44 = .ok (.aload_n 0, 1) := by decide +kernel
theorem dX6_isRipe_45 : decode cX6_isRipe 45 = .ok (.getfield 9, 3) := by decide +kernel
theorem dX6_isRipe_48 : decode cX6_isRipe 48 = .ok (.getfield 135, 3) := by decide +kernel
theorem dX6_isRipe_51 : decode cX6_isRipe 51 = .ok (.if_icmp .lt 34, 3) := by decide +kernel
theorem dX6_isRipe_54 : decode cX6_isRipe 54 = .ok (.aload_n 0, 1) := by decide +kernel
theorem dX6_isRipe_55 : decode cX6_isRipe 55 = .ok (.getfield 19, 3) := by decide +kernel
theorem dX6_isRipe_58 : decode cX6_isRipe 58 = .ok (.iload_n 3, 1) := by decide +kernel
theorem dX6_isRipe_59 : decode cX6_isRipe 59 = .ok (.invokevirtual 138, 3) := by decide +kernel
theorem dX6_isRipe_62 : decode cX6_isRipe 62 = .ok (.ifCond .eq 23, 3) := by decide +kernel
theorem dX6_isRipe_65 : decode cX6_isRipe 65 = .ok (.aload_n 0, 1) := by decide +kernel
theorem dX6_isRipe_66 : decode cX6_isRipe 66 = .ok (.aload_n 1, 1) := by decide +kernel
theorem dX6_isRipe_67 : decode cX6_isRipe 67 = .ok (.aload_n 0, 1) := by decide +kernel
theorem dX6_isRipe_68 : decode cX6_isRipe 68 = .ok (.getfield 19, 3) := by decide +kernel
theorem dX6_isRipe_71 : decode cX6_isRipe 71 = .ok (.iload_n 3, 1) := by decide +kernel
theorem dX6_isRipe_72 : decode cX6_isRipe 72 = .ok (.invokevirtual 141, 3) := by decide +kernel
theorem dX6_isRipe_75 : decode cX6_isRipe 75 = .ok (.invokevirtual 144, 3) := by decide +kernel
theorem dX6_isRipe_78 : decode cX6_isRipe 78 = .ok (.ifCond .eq 7, 3) := by decide +kernel
theorem dX6_isRipe_81 : decode cX6_isRipe 81 = .ok (.iconst 1, 1) := by decide +kernel
theorem dX6_isRipe_82 : decode cX6_isRipe 82 = .ok (.goto 4, 3) := by decide +kernel
theorem dX6_isRipe_85 : decode cX6_isRipe 85 = .ok (.iconst 0, 1) := by decide +kernel
theorem dX6_isRipe_86 : decode cX6_isRipe 86 = .ok (.ireturn, 1) := by decide +kernel
theorem dX6_areAccepted_0 : decode cX6_areAccepted 0 = .ok (.iconst 0, 1) := by decide +kernel
theorem dX6_areAccepted_1 : decode cX6_areAccepted 1 = .ok (.istore_n 3, 1) := by decide +kernel
theorem dX6_areAccepted_2 : decode cX6_areAccepted 2 = .ok (.iload_n 3, 1) := by decide +kernel
theorem dX6_areAccepted_3 : decode cX6_areAccepted 3 = .ok (.aload_n 0, 1) := by decide +kernel
theorem dX6_areAccepted_4 : decode cX6_areAccepted 4 = .ok (.getfield 19, 3) := by decide +kernel
theorem dX6_areAccepted_7 : decode cX6_areAccepted 7 = .ok (.getfield 35, 3) := by decide +kernel
theorem dX6_areAccepted_10 : decode cX6_areAccepted 10 = .ok (.if_icmp .ge 30, 3) := by decide +kernel
theorem dX6_areAccepted_13 : decode cX6_areAccepted 13 = .ok (.iload_n 2, 1) := by decide +kernel
theorem dX6_areAccepted_14 : decode cX6_areAccepted 14 = .ok (.iload_n 3, 1) := by decide +kernel
theorem dX6_areAccepted_15 : decode cX6_areAccepted 15 = .ok (.ishr, 1) := by decide +kernel
theorem dX6_areAccepted_16 : decode cX6_areAccepted 16 = .ok (.iconst 1, 1) := by decide +kernel
theorem dX6_areAccepted_17 : decode cX6_areAccepted 17 = .ok (.iand, 1) := by decide +kernel
theorem dX6_areAccepted_18 : decode cX6_areAccepted 18 = .ok (.iconst 1, 1) := by decide +kernel
theorem dX6_areAccepted_19 : decode cX6_areAccepted 19 = .ok (.if_icmp .ne 15, 3) := by decide +kernel
theorem dX6_areAccepted_22 : decode cX6_areAccepted 22 = .ok (.aload_n 0, 1) := by decide +kernel
theorem dX6_areAccepted_23 : decode cX6_areAccepted 23 = .ok (.aload_n 1, 1) := by decide +kernel
theorem dX6_areAccepted_24 : decode cX6_areAccepted 24 = .ok (.iload_n 3, 1) := by decide +kernel
theorem dX6_areAccepted_25 : decode cX6_areAccepted 25 = .ok (.invokevirtual 78, 3) := by decide +kernel
theorem dX6_areAccepted_28 : decode cX6_areAccepted 28 = .ok (.iconst 1, 1) := by decide +kernel
theorem dX6_areAccepted_29 : decode cX6_areAccepted 29 = .ok (.if_icmp .eq 5, 3) := by decide +kernel
theorem dX6_areAccepted_32 : decode cX6_areAccepted 32 = .ok (.iconst 0, 1) := by decide +kernel
theorem dX6_areAccepted_33 : decode cX6_areAccepted 33 = .ok (.ireturn, 1) := by decide +kernel
theorem dX6_areAccepted_34 : decode cX6_areAccepted 34 = .ok (.iinc 3 1, 3) := by decide +kernel
theorem dX6_areAccepted_37 : decode cX6_areAccepted 37 = .ok (.goto (-35), 3) := by decide +kernel
theorem dX6_areAccepted_40 : decode cX6_areAccepted 40 = .ok (.iconst 1, 1) := by decide +kernel
theorem dX6_areAccepted_41 : decode cX6_areAccepted 41 = .ok (.ireturn, 1) := by decide +kernel
theorem dX7_init_0 : decode cX7_init 0 = .ok (.aload_n 0, 1) := by decide +kernel
theorem dX7_init_1 : decode cX7_init 1 = .ok (.invokespecial 3, 3) := by decide +kernel
theorem dX7_init_4 : decode cX7_init 4 = .ok (.aload_n 0, 1) := by decide +kernel
theorem dX7_init_5 : decode cX7_init 5 = .ok (.iconst 2, 1) := by decide +kernel
theorem dX7_init_6 : decode cX7_init 6 = .ok (.putfield 9, 3) := by decide +kernel
theorem dX7_init_9 : decode cX7_init 9 = .ok (.aload_n 0, 1) := by decide +kernel
theorem dX7_init_10 : decode cX7_init 10 = .ok (.iconst 1, 1) := by decide +kernel
theorem dX7_init_11 : decode cX7_init 11 = .ok (.putfield 15, 3) := by decide +kernel
theorem dX7_init_14 : decode cX7_init 14 = .ok (.aload_n 0, 1) := by decide +kernel
theorem dX7_init_15 : decode cX7_init 15 = .ok (.bipush 8, 2) := by decide +kernel
theorem dX7_init_17 : decode cX7_init 17 = .ok (.bipush 35, 2) := by decide +kernel
theorem dX7_init_19 : decode cX7_init 19 = .ok (.multianewarray 18 2, 4) := by decide +kernel
theorem dX7_init_23 : decode cX7_init 23 = .ok (.putfield 20, 3) := by decide +kernel
theorem dX7_init_26 : decode cX7_init 26 = .ok (.aload_n 0, 1) := by decide +kernel
theorem dX7_init_27 : decode cX7_init 27 = .ok (.bipush 8, 2) := by decide +kernel
theorem dX7_init_29 : decode cX7_init 29 = .ok (.newarray .int, 2) := by decide +kernel
theorem dX7_init_31 : decode cX7_init 31 = .ok (.putfield 23, 3) := by decide +kernel
theorem dX7_init_34 : decode cX7_init 34 = .ok (.aload_n 0, 1) := by decide +kernel
theorem dX7_init_35 : decode cX7_init 35 = .ok (.iconst 4, 1) := by decide +kernel
theorem dX7_init_36 : decode cX7_init 36 = .ok (.iconst 2, 1) := by decide +kernel
theorem dX7_init_37 : decode cX7_init 37 = .ok (.iconst 2, 1) := by decide +kernel
theorem dX7_init_38 : decode cX7_init 38 = .ok (.iconst 3, 1) := by decide +kernel
theorem dX7_init_39 : decode cX7_init 39 = .ok (.invokevirtual 27, 3) := by decide +kernel
theorem dX7_init_42 : decode cX7_init 42 = .ok (.return_, 1) := by decide +kernel
theorem dX7_fits_0 : decode cX7_fits 0 = .ok (.iload_n 0, 1) := by decide +kernel
theorem dX7_fits_1 : decode cX7_fits 1 = .ok (.iconst 2, 1) := by decide +kernel
theorem dX7_fits_2 : decode cX7_fits 2 = .ok (.if_icmp .lt 51, 3) := by decide +kernel
theorem dX7_fits_5 : decode cX7_fits 5 = .ok (.iload_n 0, 1) := by decide +kernel
theorem dX7_fits_6 : decode cX7_fits 6 = .ok (.bipush 8, 2) := by decide +kernel
theorem dX7_fits_8 : decode cX7_fits 8 = .ok (.if_icmp .gt 45, 3) := by decide +kernel
theorem dX7_fits_11 : decode cX7_fits 11 = .ok (.iload_n 1, 1) := by decide +kernel
theorem dX7_fits_12 : decode cX7_fits 12 = .ok (.iconst 1, 1) := by decide +kernel
theorem dX7_fits_13 : decode cX7_fits 13 = .ok (.if_icmp .lt 40, 3) := by decide +kernel
theorem dX7_fits_16 : decode cX7_fits 16 = .ok (.iload_n 1, 1) := by decide +kernel
theorem dX7_fits_17 : decode cX7_fits 17 = .ok (.iload_n 0, 1) := by decide +kernel
theorem dX7_fits_18 : decode cX7_fits 18 = .ok (.if_icmp .ge 35, 3) := by decide +kernel
theorem dX7_fits_21 : decode cX7_fits 21 = .ok (.iload_n 2, 1) := by decide +kernel
theorem dX7_fits_22 : decode cX7_fits 22 = .ok (.iconst 1, 1) := by decide +kernel
theorem dX7_fits_23 : decode cX7_fits 23 = .ok (.if_icmp .lt 30, 3) := by decide +kernel
theorem dX7_fits_26 : decode cX7_fits 26 = .ok (.iload_n 2, 1) := by decide +kernel
theorem dX7_fits_27 : decode cX7_fits 27 = .ok (.iload_n 1, 1) := by decide +kernel
theorem dX7_fits_28 : decode cX7_fits 28 = .ok (.if_icmp .gt 25, 3) := by decide +kernel
theorem dX7_fits_31 : decode cX7_fits 31 = .ok (.iconst 2, 1) := by decide +kernel
theorem dX7_fits_32 : decode cX7_fits 32 = .ok (.iload_n 2, 1) := by decide +kernel
theorem dX7_fits_33 : decode cX7_fits 33 = .ok (.imul, 1) := by decide +kernel
theorem dX7_fits_34 : decode cX7_fits 34 = .ok (.iload_n 1, 1) := by decide +kernel
theorem dX7_fits_35 : decode cX7_fits 35 = .ok (.if_icmp .le 18, 3) := by decide +kernel
theorem dX7_fits_38 : decode cX7_fits 38 = .ok (.iload_n 3, 1) := by decide +kernel
theorem dX7_fits_39 : decode cX7_fits 39 = .ok (.iconst 1, 1) := by decide +kernel
theorem dX7_fits_40 : decode cX7_fits 40 = .ok (.if_icmp .lt 13, 3) := by decide +kernel
theorem dX7_fits_43 : decode cX7_fits 43 = .ok (.iload_n 3, 1) := by decide +kernel
theorem dX7_fits_44 : decode cX7_fits 44 = .ok (.bipush 15, 2) := by decide +kernel
theorem dX7_fits_46 : decode cX7_fits 46 = .ok (.if_icmp .gt 7, 3) := by decide +kernel
theorem dX7_fits_49 : decode cX7_fits 49 = .ok (.iconst 1, 1) := by decide +kernel
theorem dX7_fits_50 : decode cX7_fits 50 = .ok (.goto 4, 3) := by decide +kernel
theorem dX7_fits_53 : decode cX7_fits 53 = .ok (.iconst 0, 1) := by decide +kernel
theorem dX7_fits_54 : decode cX7_fits 54 = .ok (.ireturn, 1) := by decide +kernel
theorem dX7_take_0 : decode cX7_take 0 = .ok (.aload_n 0, 1) := by decide +kernel
theorem dX7_take_1 : decode cX7_take 1 = .ok (.iload_n 1, 1) := by decide +kernel
theorem dX7_take_2 : decode cX7_take 2 = .ok (.putfield 31, 3) := by decide +kernel
theorem dX7_take_5 : decode cX7_take 5 = .ok (.aload_n 0, 1) := by decide +kernel
theorem dX7_take_6 : decode cX7_take 6 = .ok (.iload_n 2, 1) := by decide +kernel
theorem dX7_take_7 : decode cX7_take 7 = .ok (.putfield 34, 3) := by decide +kernel
theorem dX7_take_10 : decode cX7_take 10 = .ok (.aload_n 0, 1) := by decide +kernel
theorem dX7_take_11 : decode cX7_take 11 = .ok (.iload_n 3, 1) := by decide +kernel
theorem dX7_take_12 : decode cX7_take 12 = .ok (.putfield 37, 3) := by decide +kernel
theorem dX7_take_15 : decode cX7_take 15 = .ok (.aload_n 0, 1) := by decide +kernel
theorem dX7_take_16 : decode cX7_take 16 = .ok (.iload 4, 2) := by decide +kernel
theorem dX7_take_18 : decode cX7_take 18 = .ok (.putfield 40, 3) := by decide +kernel
theorem dX7_take_21 : decode cX7_take 21 = .ok (.aload_n 0, 1) := by decide +kernel
theorem dX7_take_22 : decode cX7_take 22 = .ok (.aload_n 0, 1) := by decide +kernel
theorem dX7_take_23 : decode cX7_take 23 = .ok (.getfield 9, 3) := by decide +kernel
theorem dX7_take_26 : decode cX7_take 26 = .ok (.aload_n 0, 1) := by decide +kernel
theorem dX7_take_27 : decode cX7_take 27 = .ok (.getfield 40, 3) := by decide +kernel
theorem dX7_take_30 : decode cX7_take 30 = .ok (.invokestatic 43, 3) := by decide +kernel
theorem dX7_take_33 : decode cX7_take 33 = .ok (.putfield 9, 3) := by decide +kernel
theorem dX7_take_36 : decode cX7_take 36 = .ok (.aload_n 0, 1) := by decide +kernel
theorem dX7_take_37 : decode cX7_take 37 = .ok (.aload_n 0, 1) := by decide +kernel
theorem dX7_take_38 : decode cX7_take 38 = .ok (.getfield 31, 3) := by decide +kernel
theorem dX7_take_41 : decode cX7_take 41 = .ok (.iconst 1, 1) := by decide +kernel
theorem dX7_take_42 : decode cX7_take 42 = .ok (.isub, 1) := by decide +kernel
theorem dX7_take_43 : decode cX7_take 43 = .ok (.aload_n 0, 1) := by decide +kernel
theorem dX7_take_44 : decode cX7_take 44 = .ok (.getfield 34, 3) := by decide +kernel
theorem dX7_take_47 : decode cX7_take 47 = .ok (.invokestatic 49, 3) := by decide +kernel
theorem dX7_take_50 : decode cX7_take 50 = .ok (.putfield 52, 3) := by decide +kernel
theorem dX7_take_53 : decode cX7_take 53 = .ok (.iconst 0, 1) := by decide +kernel
theorem dX7_take_54 : decode cX7_take 54 = .ok (.istore 5, 2) := by decide +kernel
theorem dX7_take_56 : decode cX7_take 56 = .ok (.iload 5, 2) := by decide +kernel
theorem dX7_take_58 : decode cX7_take 58 = .ok (.aload_n 0, 1) := by decide +kernel
theorem dX7_take_59 : decode cX7_take 59 = .ok (.getfield 31, 3) := by decide +kernel
theorem dX7_take_62 : decode cX7_take 62 = .ok (.if_icmp .ge 28, 3) := by decide +kernel
theorem dX7_take_65 : decode cX7_take 65 = .ok (.aload_n 0, 1) := by decide +kernel
theorem dX7_take_66 : decode cX7_take 66 = .ok (.iload 5, 2) := by decide +kernel
theorem dX7_take_68 : decode cX7_take 68 = .ok (.invokevirtual 55, 3) := by decide +kernel
theorem dX7_take_71 : decode cX7_take 71 = .ok (.aload_n 0, 1) := by decide +kernel
theorem dX7_take_72 : decode cX7_take 72 = .ok (.getfield 23, 3) := by decide +kernel
theorem dX7_take_75 : decode cX7_take 75 = .ok (.iload 5, 2) := by decide +kernel
theorem dX7_take_77 : decode cX7_take 77 = .ok (.aload_n 0, 1) := by decide +kernel
theorem dX7_take_78 : decode cX7_take 78 = .ok (.iload 5, 2) := by decide +kernel
theorem dX7_take_80 : decode cX7_take 80 = .ok (.invokevirtual 59, 3) := by decide +kernel
theorem dX7_take_83 : decode cX7_take 83 = .ok (.iastore, 1) := by decide +kernel
theorem dX7_take_84 : decode cX7_take 84 = .ok (.iinc 5 1, 3) := by decide +kernel
theorem dX7_take_87 : decode cX7_take 87 = .ok (.goto (-31), 3) := by decide +kernel
theorem dX7_take_90 : decode cX7_take 90 = .ok (.return_, 1) := by decide +kernel
theorem dX7_listSamples_0 : decode cX7_listSamples 0 = .ok (.iconst 0, 1) := by decide +kernel
theorem dX7_listSamples_1 : decode cX7_listSamples 1 = .ok (.istore_n 2, 1) := by decide +kernel
theorem dX7_listSamples_2 : decode cX7_listSamples 2 = .ok (.iconst 0, 1) := by decide +kernel
theorem dX7_listSamples_3 : decode cX7_listSamples 3 = .ok (.istore_n 3, 1) := by decide +kernel
theorem dX7_listSamples_4 : decode cX7_listSamples 4 = .ok (.iload_n 3, 1) := by decide +kernel
theorem dX7_listSamples_5 : decode cX7_listSamples 5 = .ok (.aload_n 0, 1) := by decide +kernel
theorem dX7_listSamples_6 : decode cX7_listSamples 6 = .ok (.invokevirtual 63, 3) := by decide +kernel
theorem dX7_listSamples_9 : decode cX7_listSamples 9 = .ok (.if_icmp .gt 36, 3) := by decide +kernel
theorem dX7_listSamples_12 : decode cX7_listSamples 12 = .ok (.iload_n 2, 1) := by decide +kernel
theorem dX7_listSamples_13 : decode cX7_listSamples 13 = .ok (.bipush 35, 2) := by decide +kernel
theorem dX7_listSamples_15 : decode cX7_listSamples 15 = .ok (.if_icmp .ge 30, 3) := by decide +kernel
theorem dX7_listSamples_18 : decode cX7_listSamples 18 = .ok (.aload_n 0, 1) := by decide +kernel
theorem dX7_listSamples_19 : decode cX7_listSamples 19 = .ok (.iload_n 1, 1) := by decide +kernel
theorem dX7_listSamples_20 : decode cX7_listSamples 20 = .ok (.iload_n 3, 1) := by decide +kernel
theorem dX7_listSamples_21 : decode cX7_listSamples 21 = .ok (.invokevirtual 67, 3) := by decide +kernel
theorem dX7_listSamples_24 : decode cX7_listSamples 24 = .ok (.ifCond .eq 15, 3) := by decide +kernel
theorem dX7_listSamples_27 : decode cX7_listSamples 27 = .ok (.aload_n 0, 1) := by decide +kernel
theorem dX7_listSamples_28 : decode cX7_listSamples 28 = .ok (.getfield 20, 3) := by decide +kernel
theorem dX7_listSamples_31 : decode cX7_listSamples 31 = .ok (.iload_n 1, 1) := by decide +kernel
theorem dX7_listSamples_32 : decode cX7_listSamples 32 = .ok (.aaload, 1) := by decide +kernel
theorem dX7_listSamples_33 : decode cX7_listSamples 33 = .ok (.iload_n 2, 1) := by decide +kernel
theorem dX7_listSamples_34 : decode cX7_listSamples 34 = .ok (.iload_n 3, 1) := by decide +kernel
theorem dX7_listSamples_35 : decode cX7_listSamples 35 = .ok (.iastore, 1) := by decide +kernel
theorem dX7_listSamples_36 : decode cX7_listSamples 36 = .ok (.iinc 2 1, 3) := by decide +kernel
theorem dX7_listSamples_39 : decode cX7_listSamples 39 = .ok (.iinc 3 1, 3) := by decide +kernel
theorem dX7_listSamples_42 : decode cX7_listSamples 42 = .ok (.goto (-38), 3) := by decide +kernel
theorem dX7_listSamples_45 : decode cX7_listSamples 45 = .ok (.return_, 1) := by decide +kernel
theorem dX7_countCarried_0 : decode cX7_countCarried 0 = .ok (.iconst 0, 1) := by decide +kernel
theorem dX7_countCarried_1 : decode cX7_countCarried 1 = .ok (.istore_n 2, 1) := by decide +kernel
theorem dX7_countCarried_2 : decode cX7_countCarried 2 = .ok (.aload_n 0, 1) := by decide +kernel
theorem dX7_countCarried_3 : decode cX7_countCarried 3 = .ok (.getfield 37, 3) := by decide +kernel
theorem dX7_countCarried_6 : decode cX7_countCarried 6 = .ok (.istore_n 3, 1) := by decide +kernel
theorem dX7_countCarried_7 : decode cX7_countCarried 7 = .ok (.iload_n 3, 1) := by decide +kernel
theorem dX7_countCarried_8 : decode cX7_countCarried 8 = .ok (.aload_n 0, 1) := by decide +kernel
theorem dX7_countCarried_9 : decode cX7_countCarried 9 = .ok (.getfield 34, 3) := by decide +kernel
theorem dX7_countCarried_12 : decode cX7_countCarried 12 = .ok (.if_icmp .gt 35, 3) := by decide +kernel
theorem dX7_countCarried_15 : decode cX7_countCarried 15 = .ok (.iload_n 2, 1) := by decide +kernel
theorem dX7_countCarried_16 : decode cX7_countCarried 16 = .ok (.iload_n 1, 1) := by decide +kernel
theorem dX7_countCarried_17 : decode cX7_countCarried 17 = .ok (.iload_n 3, 1) := by decide +kernel
theorem dX7_countCarried_18 : decode cX7_countCarried 18 = .ok (.invokestatic 49, 3) := by decide +kernel
theorem dX7_countCarried_21 : decode cX7_countCarried 21 = .ok (.aload_n 0, 1) := by decide +kernel
theorem dX7_countCarried_22 : decode cX7_countCarried 22 = .ok (.getfield 31, 3) := by decide +kernel
theorem dX7_countCarried_25 : decode cX7_countCarried 25 = .ok (.iconst 1, 1) := by decide +kernel
theorem dX7_countCarried_26 : decode cX7_countCarried 26 = .ok (.isub, 1) := by decide +kernel
theorem dX7_countCarried_27 : decode cX7_countCarried 27 = .ok (.iload_n 1, 1) := by decide +kernel
theorem dX7_countCarried_28 : decode cX7_countCarried 28 = .ok (.isub, 1) := by decide +kernel
theorem dX7_countCarried_29 : decode cX7_countCarried 29 = .ok (.aload_n 0, 1) := by decide +kernel
theorem dX7_countCarried_30 : decode cX7_countCarried 30 = .ok (.getfield 34, 3) := by decide +kernel
theorem dX7_countCarried_33 : decode cX7_countCarried 33 = .ok (.iload_n 3, 1) := by decide +kernel
theorem dX7_countCarried_34 : decode cX7_countCarried 34 = .ok (.isub, 1) := by decide +kernel
theorem dX7_countCarried_35 : decode cX7_countCarried 35 = .ok (.invokestatic 49, 3) := by decide +kernel
theorem dX7_countCarried_38 : decode cX7_countCarried 38 = .ok (.imul, 1) := by decide +kernel
theorem dX7_countCarried_39 : decode cX7_countCarried 39 = .ok (.iadd, 1) := by decide +kernel
theorem dX7_countCarried_40 : decode cX7_countCarried 40 = .ok (.istore_n 2, 1) := by decide +kernel
theorem dX7_countCarried_41 : decode cX7_countCarried 41 = .ok (.iinc 3 1, 3) := by decide +kernel
theorem dX7_countCarried_44 : decode cX7_countCarried 44 = .ok (.goto (-37), 3) := by decide +kernel
theorem dX7_countCarried_47 : decode cX7_countCarried 47 = .ok (.iload_n 2, 1) := by decide +kernel
theorem dX7_countCarried_48 : decode cX7_countCarried 48 = .ok (.ireturn, 1) := by decide +kernel
theorem dX7_choose_0 : decode cX7_choose 0 = .ok (.iload_n 1, 1) := by decide +kernel
theorem dX7_choose_1 : decode cX7_choose 1 = .ok (.ifCond .lt 8, 3) := by decide +kernel
theorem dX7_choose_4 : decode cX7_choose 4 = .ok (.iload_n 1, 1) := by decide +kernel
theorem dX7_choose_5 : decode cX7_choose 5 = .ok (.iload_n 0, 1) := by decide +kernel
theorem dX7_choose_6 : decode cX7_choose 6 = .ok (.if_icmp .le 5, 3) := by decide +kernel
theorem dX7_choose_9 : decode cX7_choose 9 = .ok (.iconst 0, 1) := by decide +kernel
theorem dX7_choose_10 : decode cX7_choose 10 = .ok (.ireturn, 1) := by decide +kernel
theorem dX7_choose_11 : decode cX7_choose 11 = .ok (.iconst 1, 1) := by decide +kernel
theorem dX7_choose_12 : decode cX7_choose 12 = .ok (.istore_n 2, 1) := by decide +kernel
theorem dX7_choose_13 : decode cX7_choose 13 = .ok (.iconst 0, 1) := by decide +kernel
theorem dX7_choose_14 : decode cX7_choose 14 = .ok (.istore_n 3, 1) := by decide +kernel
theorem dX7_choose_15 : decode cX7_choose 15 = .ok (.iload_n 3, 1) := by decide +kernel
theorem dX7_choose_16 : decode cX7_choose 16 = .ok (.iload_n 1, 1) := by decide +kernel
theorem dX7_choose_17 : decode cX7_choose 17 = .ok (.if_icmp .ge 19, 3) := by decide +kernel
theorem dX7_choose_20 : decode cX7_choose 20 = .ok (.iload_n 2, 1) := by decide +kernel
theorem dX7_choose_21 : decode cX7_choose 21 = .ok (.iload_n 0, 1) := by decide +kernel
theorem dX7_choose_22 : decode cX7_choose 22 = .ok (.iload_n 3, 1) := by decide +kernel
theorem dX7_choose_23 : decode cX7_choose 23 = .ok (.isub, 1) := by decide +kernel
theorem dX7_choose_24 : decode cX7_choose 24 = .ok (.imul, 1) := by decide +kernel
theorem dX7_choose_25 : decode cX7_choose 25 = .ok (.iload_n 3, 1) := by decide +kernel
theorem dX7_choose_26 : decode cX7_choose 26 = .ok (.iconst 1, 1) := by decide +kernel
theorem dX7_choose_27 : decode cX7_choose 27 = .ok (.iadd, 1) := by decide +kernel
theorem dX7_choose_28 : decode cX7_choose 28 = .ok (.idiv, 1) := by decide +kernel
theorem dX7_choose_29 : decode cX7_choose 29 = .ok (.istore_n 2, 1) := by decide +kernel
theorem dX7_choose_30 : decode cX7_choose 30 = .ok (.iinc 3 1, 3) := by decide +kernel
theorem dX7_choose_33 : decode cX7_choose 33 = .ok (.goto (-18), 3) := by decide +kernel
theorem dX7_choose_36 : decode cX7_choose 36 = .ok (.iload_n 2, 1) := by decide +kernel
theorem dX7_choose_37 : decode cX7_choose 37 = .ok (.ireturn, 1) := by decide +kernel
theorem dX7_allNodes_0 : decode cX7_allNodes 0 = .ok (.iconst 1, 1) := by decide +kernel
theorem dX7_allNodes_1 : decode cX7_allNodes 1 = .ok (.aload_n 0, 1) := by decide +kernel
theorem dX7_allNodes_2 : decode cX7_allNodes 2 = .ok (.getfield 31, 3) := by decide +kernel
theorem dX7_allNodes_5 : decode cX7_allNodes 5 = .ok (.ishl, 1) := by decide +kernel
theorem dX7_allNodes_6 : decode cX7_allNodes 6 = .ok (.iconst 1, 1) := by decide +kernel
theorem dX7_allNodes_7 : decode cX7_allNodes 7 = .ok (.isub, 1) := by decide +kernel
theorem dX7_allNodes_8 : decode cX7_allNodes 8 = .ok (.ireturn, 1) := by decide +kernel
theorem dX7_isNode_0 : decode cX7_isNode 0 = .ok (.iload_n 1, 1) := by decide +kernel
theorem dX7_isNode_1 : decode cX7_isNode 1 = .ok (.ifCond .lt 15, 3) := by decide +kernel
theorem dX7_isNode_4 : decode cX7_isNode 4 = .ok (.iload_n 1, 1) := by decide +kernel
theorem dX7_isNode_5 : decode cX7_isNode 5 = .ok (.aload_n 0, 1) := by decide +kernel
theorem dX7_isNode_6 : decode cX7_isNode 6 = .ok (.getfield 31, 3) := by decide +kernel
theorem dX7_isNode_9 : decode cX7_isNode 9 = .ok (.if_icmp .ge 7, 3) := by decide +kernel
theorem dX7_isNode_12 : decode cX7_isNode 12 = .ok (.iconst 1, 1) := by decide +kernel
theorem dX7_isNode_13 : decode cX7_isNode 13 = .ok (.goto 4, 3) := by decide +kernel
theorem dX7_isNode_16 : decode cX7_isNode 16 = .ok (.iconst 0, 1) := by decide +kernel
theorem dX7_isNode_17 : decode cX7_isNode 17 = .ok (.ireturn, 1) := by decide +kernel
theorem dX7_isSample_0 : decode cX7_isSample 0 = .ok (.aload_n 0, 1) := by decide +kernel
theorem dX7_isSample_1 : decode cX7_isSample 1 = .ok (.iload_n 1, 1) := by decide +kernel
theorem dX7_isSample_2 : decode cX7_isSample 2 = .ok (.invokevirtual 71, 3) := by decide +kernel
theorem dX7_isSample_5 : decode cX7_isSample 5 = .ok (.ifCond .eq 35, 3) := by decide +kernel
theorem dX7_isSample_8 : decode cX7_isSample 8 = .ok (.iload_n 2, 1) := by decide +kernel
theorem dX7_isSample_9 : decode cX7_isSample 9 = .ok (.aload_n 0, 1) := by decide +kernel
theorem dX7_isSample_10 : decode cX7_isSample 10 = .ok (.invokevirtual 63, 3) := by decide +kernel
theorem dX7_isSample_13 : decode cX7_isSample 13 = .ok (.iconst 1, 1) := by decide +kernel
theorem dX7_isSample_14 : decode cX7_isSample 14 = .ok (.iload_n 1, 1) := by decide +kernel
theorem dX7_isSample_15 : decode cX7_isSample 15 = .ok (.ishl, 1) := by decide +kernel
theorem dX7_isSample_16 : decode cX7_isSample 16 = .ok (.iconst (-1), 1) := by decide +kernel
theorem dX7_isSample_17 : decode cX7_isSample 17 = .ok (.ixor, 1) := by decide +kernel
theorem dX7_isSample_18 : decode cX7_isSample 18 = .ok (.iand, 1) := by decide +kernel
theorem dX7_isSample_19 : decode cX7_isSample 19 = .ok (.iconst (-1), 1) := by decide +kernel
theorem dX7_isSample_20 : decode cX7_isSample 20 = .ok (.ixor, 1) := by decide +kernel
theorem dX7_isSample_21 : decode cX7_isSample 21 = .ok (.iand, 1) := by decide +kernel
theorem dX7_isSample_22 : decode cX7_isSample 22 = .ok (.ifCond .ne 18, 3) := by decide +kernel
theorem dX7_isSample_25 : decode cX7_isSample 25 = .ok (.iload_n 2, 1) := by decide +kernel
theorem dX7_isSample_26 : decode cX7_isSample 26 = .ok (.invokestatic 75, 3) := by decide +kernel
theorem dX7_isSample_29 : decode cX7_isSample 29 = .ok (.aload_n 0, 1) := by decide +kernel
theorem dX7_isSample_30 : decode cX7_isSample 30 = .ok (.getfield 34, 3) := by decide +kernel
theorem dX7_isSample_33 : decode cX7_isSample 33 = .ok (.if_icmp .ne 7, 3) := by decide +kernel
theorem dX7_isSample_36 : decode cX7_isSample 36 = .ok (.iconst 1, 1) := by decide +kernel
theorem dX7_isSample_37 : decode cX7_isSample 37 = .ok (.goto 4, 3) := by decide +kernel
theorem dX7_isSample_40 : decode cX7_isSample 40 = .ok (.iconst 0, 1) := by decide +kernel
theorem dX7_isSample_41 : decode cX7_isSample 41 = .ok (.ireturn, 1) := by decide +kernel
theorem dX7_carriedBy_0 : decode cX7_carriedBy 0 = .ok (.iload_n 1, 1) := by decide +kernel
theorem dX7_carriedBy_1 : decode cX7_carriedBy 1 = .ok (.ifCond .lt 11, 3) := by decide +kernel
theorem dX7_carriedBy_4 : decode cX7_carriedBy 4 = .ok (.iload_n 1, 1) := by decide +kernel
theorem dX7_carriedBy_5 : decode cX7_carriedBy 5 = .ok (.aload_n 0, 1) := by decide +kernel
theorem dX7_carriedBy_6 : decode cX7_carriedBy 6 = .ok (.getfield 31, 3) := by decide +kernel
theorem dX7_carriedBy_9 : decode cX7_carriedBy 9 = .ok (.if_icmp .lt 7, 3) := by decide +kernel
theorem dX7_carriedBy_12 : decode cX7_carriedBy 12 = .ok (.iconst 0, 1) := by decide +kernel
theorem dX7_carriedBy_13 : decode cX7_carriedBy 13 = .ok (.goto 9, 3) := by decide +kernel
theorem dX7_carriedBy_16 : decode cX7_carriedBy 16 = .ok (.aload_n 0, 1) := by decide +kernel
theorem dX7_carriedBy_17 : decode cX7_carriedBy 17 = .ok (.getfield 23, 3) := by decide +kernel
theorem dX7_carriedBy_20 : decode cX7_carriedBy 20 = .ok (.iload_n 1, 1) := by decide +kernel
theorem dX7_carriedBy_21 : decode cX7_carriedBy 21 = .ok (.iaload, 1) := by decide +kernel
theorem dX7_carriedBy_22 : decode cX7_carriedBy 22 = .ok (.ireturn, 1) := by decide +kernel
theorem dX7_ways_0 : decode cX7_ways 0 = .ok (.aload_n 0, 1) := by decide +kernel
theorem dX7_ways_1 : decode cX7_ways 1 = .ok (.getfield 31, 3) := by decide +kernel
theorem dX7_ways_4 : decode cX7_ways 4 = .ok (.i2l, 1) := by decide +kernel
theorem dX7_ways_5 : decode cX7_ways 5 = .ok (.aload_n 0, 1) := by decide +kernel
theorem dX7_ways_6 : decode cX7_ways 6 = .ok (.getfield 52, 3) := by decide +kernel
theorem dX7_ways_9 : decode cX7_ways 9 = .ok (.i2l, 1) := by decide +kernel
theorem dX7_ways_10 : decode cX7_ways 10 = .ok (.lmul, 1) := by decide +kernel
theorem dX7_ways_11 : decode cX7_ways 11 = .ok (.lstore_n 2, 1) := by decide +kernel
theorem dX7_ways_12 : decode cX7_ways 12 = .ok (.lconst 1, 1) := by decide +kernel
theorem dX7_ways_13 : decode cX7_ways 13 = .ok (.lstore 4, 2) := by decide +kernel
theorem dX7_ways_15 : decode cX7_ways 15 = .ok (.iconst 0, 1) := by decide +kernel
theorem dX7_ways_16 : decode cX7_ways 16 = .ok (.istore 6, 2) := by decide +kernel
theorem dX7_ways_18 : decode cX7_ways 18 = .ok (.iload 6, 2) := by decide +kernel
theorem dX7_ways_20 : decode cX7_ways 20 = .ok (.iload_n 1, 1) := by decide +kernel
theorem dX7_ways_21 : decode cX7_ways 21 = .ok (.if_icmp .ge 28, 3) := by decide +kernel
theorem dX7_ways_24 : decode cX7_ways 24 = .ok (.lload 4, 2) := by decide +kernel
theorem dX7_ways_26 : decode cX7_ways 26 = .ok (.lload_n 2, 1) := by decide +kernel
theorem dX7_ways_27 : decode cX7_ways 27 = .ok (.invokestatic 80, 3) := by decide +kernel
theorem dX7_ways_30 : decode cX7_ways 30 = .ok (.lstore 4, 2) := by decide +kernel
theorem dX7_ways_32 : decode cX7_ways 32 = .ok (.lload 4, 2) := by decide +kernel
theorem dX7_ways_34 : decode cX7_ways 34 = .ok (.lconst 0, 1) := by decide +kernel
theorem dX7_ways_35 : decode cX7_ways 35 = .ok (.lcmp, 1) := by decide +kernel
theorem dX7_ways_36 : decode cX7_ways 36 = .ok (.ifCond .ge 7, 3) := by decide +kernel
theorem dX7_ways_39 : decode cX7_ways 39 = .ok (.ldc2_w 86, 3) := by decide +kernel
theorem dX7_ways_42 : decode cX7_ways 42 = .ok (.lreturn, 1) := by decide +kernel
theorem dX7_ways_43 : decode cX7_ways 43 = .ok (.iinc 6 1, 3) := by decide +kernel
theorem dX7_ways_46 : decode cX7_ways 46 = .ok (.goto (-28), 3) := by decide +kernel
theorem dX7_ways_49 : decode cX7_ways 49 = .ok (.lload 4, 2) := by decide +kernel
theorem dX7_ways_51 : decode cX7_ways 51 = .ok (.lreturn, 1) := by decide +kernel
theorem dX7_up_0 : decode cX7_up 0 = .ok (.aload_n 0, 1) := by decide +kernel
theorem dX7_up_1 : decode cX7_up 1 = .ok (.getfield 31, 3) := by decide +kernel
theorem dX7_up_4 : decode cX7_up 4 = .ok (.iload_n 1, 1) := by decide +kernel
theorem dX7_up_5 : decode cX7_up 5 = .ok (.isub, 1) := by decide +kernel
theorem dX7_up_6 : decode cX7_up 6 = .ok (.aload_n 0, 1) := by decide +kernel
theorem dX7_up_7 : decode cX7_up 7 = .ok (.iload_n 1, 1) := by decide +kernel
theorem dX7_up_8 : decode cX7_up 8 = .ok (.invokevirtual 88, 3) := by decide +kernel
theorem dX7_up_11 : decode cX7_up 11 = .ok (.imul, 1) := by decide +kernel
theorem dX7_up_12 : decode cX7_up 12 = .ok (.ireturn, 1) := by decide +kernel
