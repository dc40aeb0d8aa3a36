theorem dX12_deepOf_16 : decode cX12_deepOf 16 = .ok (.iload_n 1, 1) := by decide +kernel
theorem dX12_deepOf_17 : decode cX12_deepOf 17 = .ok (.iaload, 1) := by decide +kernel
theorem dX12_deepOf_18 : decode cX12_deepOf 18 = .ok (.invokevirtual 351, 3) := by decide +kernel
theorem dX12_deepOf_21 : decode cX12_deepOf 21 = .ok (.istore_n 2, 1) := by decide +kernel
theorem dX12_deepOf_22 : decode cX12_deepOf 22 = .ok (.aload_n 0, 1) := by decide +kernel
theorem dX12_deepOf_23 : decode cX12_deepOf 23 = .ok (.getfield 47, 3) := by decide +kernel
theorem dX12_deepOf_26 : decode cX12_deepOf 26 = .ok (.iload_n 1, 1) := by decide +kernel
theorem dX12_deepOf_27 : decode cX12_deepOf 27 = .ok (.iaload, 1) := by decide +kernel
theorem dX12_deepOf_28 : decode cX12_deepOf 28 = .ok (.ifCond .lt 28, 3) := by decide +kernel
theorem dX12_deepOf_31 : decode cX12_deepOf 31 = .ok (.aload_n 0, 1) := by decide +kernel
theorem dX12_deepOf_32 : decode cX12_deepOf 32 = .ok (.aload_n 0, 1) := by decide +kernel
theorem dX12_deepOf_33 : decode cX12_deepOf 33 = .ok (.getfield 47, 3) := by decide +kernel
theorem dX12_deepOf_36 : decode cX12_deepOf 36 = .ok (.iload_n 1, 1) := by decide +kernel
theorem dX12_deepOf_37 : decode cX12_deepOf 37 = .ok (.iaload, 1) := by decide +kernel
theorem dX12_deepOf_38 : decode cX12_deepOf 38 = .ok (.invokevirtual 351, 3) := by decide +kernel
theorem dX12_deepOf_41 : decode cX12_deepOf 41 = .ok (.iload_n 2, 1) := by decide +kernel
theorem dX12_deepOf_42 : decode cX12_deepOf 42 = .ok (.if_icmp .le 14, 3) := by decide +kernel
theorem dX12_deepOf_45 : decode cX12_deepOf 45 = .ok (.aload_n 0, 1) := by decide +kernel
theorem dX12_deepOf_46 : decode cX12_deepOf 46 = .ok (.aload_n 0, 1) := by decide +kernel
theorem dX12_deepOf_47 : decode cX12_deepOf 47 = .ok (.getfield 47, 3) := by decide +kernel
theorem dX12_deepOf_50 : decode cX12_deepOf 50 = .ok (.iload_n 1, 1) := by decide +kernel
theorem dX12_deepOf_51 : decode cX12_deepOf 51 = .ok (.iaload, 1) := by decide +kernel
theorem dX12_deepOf_52 : decode cX12_deepOf 52 = .ok (.invokevirtual 351, 3) := by decide +kernel
theorem dX12_deepOf_55 : decode cX12_deepOf 55 = .ok (.istore_n 2, 1) := by decide +kernel
theorem dX12_deepOf_56 : decode cX12_deepOf 56 = .ok (.iload_n 2, 1) := by decide +kernel
theorem dX12_deepOf_57 : decode cX12_deepOf 57 = .ok (.iconst 1, 1) := by decide +kernel
theorem dX12_deepOf_58 : decode cX12_deepOf 58 = .ok (.iadd, 1) := by decide +kernel
theorem dX12_deepOf_59 : decode cX12_deepOf 59 = .ok (.ireturn, 1) := by decide +kernel
theorem dX12_byHow_0 : decode cX12_byHow 0 = .ok (.iconst 0, 1) := by decide +kernel
theorem dX12_byHow_1 : decode cX12_byHow 1 = .ok (.istore_n 3, 1) := by decide +kernel
theorem dX12_byHow_2 : decode cX12_byHow 2 = .ok (.iconst 0, 1) := by decide +kernel
theorem dX12_byHow_3 : decode cX12_byHow 3 = .ok (.istore 4, 2) := by decide +kernel
theorem dX12_byHow_5 : decode cX12_byHow 5 = .ok (.iload 4, 2) := by decide +kernel
theorem dX12_byHow_7 : decode cX12_byHow 7 = .ok (.aload_n 0, 1) := by decide +kernel
theorem dX12_byHow_8 : decode cX12_byHow 8 = .ok (.getfield 19, 3) := by decide +kernel
theorem dX12_byHow_11 : decode cX12_byHow 11 = .ok (.if_icmp .ge 41, 3) := by decide +kernel
theorem dX12_byHow_14 : decode cX12_byHow 14 = .ok (.aload_n 0, 1) := by decide +kernel
theorem dX12_byHow_15 : decode cX12_byHow 15 = .ok (.getfield 7, 3) := by decide +kernel
theorem dX12_byHow_18 : decode cX12_byHow 18 = .ok (.bipush 48, 2) := by decide +kernel
theorem dX12_byHow_20 : decode cX12_byHow 20 = .ok (.iload 4, 2) := by decide +kernel
theorem dX12_byHow_22 : decode cX12_byHow 22 = .ok (.iadd, 1) := by decide +kernel
theorem dX12_byHow_23 : decode cX12_byHow 23 = .ok (.iaload, 1) := by decide +kernel
theorem dX12_byHow_24 : decode cX12_byHow 24 = .ok (.ifCond .ne 22, 3) := by decide +kernel
theorem dX12_byHow_27 : decode cX12_byHow 27 = .ok (.aload_n 0, 1) := by decide +kernel
theorem dX12_byHow_28 : decode cX12_byHow 28 = .ok (.getfield 7, 3) := by decide +kernel
theorem dX12_byHow_31 : decode cX12_byHow 31 = .ok (.iload_n 1, 1) := by decide +kernel
theorem dX12_byHow_32 : decode cX12_byHow 32 = .ok (.iload 4, 2) := by decide +kernel
theorem dX12_byHow_34 : decode cX12_byHow 34 = .ok (.iadd, 1) := by decide +kernel
theorem dX12_byHow_35 : decode cX12_byHow 35 = .ok (.iaload, 1) := by decide +kernel
theorem dX12_byHow_36 : decode cX12_byHow 36 = .ok (.iload_n 2, 1) := by decide +kernel
theorem dX12_byHow_37 : decode cX12_byHow 37 = .ok (.invokestatic 100, 3) := by decide +kernel
theorem dX12_byHow_40 : decode cX12_byHow 40 = .ok (.ifCond .eq 6, 3) := by decide +kernel
theorem dX12_byHow_43 : decode cX12_byHow 43 = .ok (.iinc 3 1, 3) := by decide +kernel
theorem dX12_byHow_46 : decode cX12_byHow 46 = .ok (.iinc 4 1, 3) := by decide +kernel
theorem dX12_byHow_49 : decode cX12_byHow 49 = .ok (.goto (-44), 3) := by decide +kernel
theorem dX12_byHow_52 : decode cX12_byHow 52 = .ok (.iload_n 3, 1) := by decide +kernel
theorem dX12_byHow_53 : decode cX12_byHow 53 = .ok (.ireturn, 1) := by decide +kernel
theorem dX12_of_0 : decode cX12_of 0 = .ok (.aload_n 0, 1) := by decide +kernel
theorem dX12_of_1 : decode cX12_of 1 = .ok (.iconst 0, 1) := by decide +kernel
theorem dX12_of_2 : decode cX12_of 2 = .ok (.putfield 97, 3) := by decide +kernel
theorem dX12_of_5 : decode cX12_of 5 = .ok (.aload_n 0, 1) := by decide +kernel
theorem dX12_of_6 : decode cX12_of 6 = .ok (.iload_n 1, 1) := by decide +kernel
theorem dX12_of_7 : decode cX12_of 7 = .ok (.invokevirtual 319, 3) := by decide +kernel
theorem dX12_of_10 : decode cX12_of 10 = .ok (.ifCond .ne 6, 3) := by decide +kernel
theorem dX12_of_13 : decode cX12_of 13 = .ok (.bipush (-2), 2) := by decide +kernel
theorem dX12_of_15 : decode cX12_of 15 = .ok (.ireturn, 1) := by decide +kernel
theorem dX12_of_16 : decode cX12_of 16 = .ok (.iload_n 2, 1) := by decide +kernel
theorem dX12_of_17 : decode cX12_of 17 = .ok (.tableswitch 103 0 7 #[47, 54, 61, 68, 75, 81, 87, 95], 47) := by decide +kernel
theorem dX12_of_64 : decode cX12_of 64 = .ok (.aload_n 0, 1) := by decide +kernel
theorem dX12_of_65 : decode cX12_of 65 = .ok (.getfield 41, 3) := by decide +kernel
theorem dX12_of_68 : decode cX12_of 68 = .ok (.iload_n 1, 1) := by decide +kernel
theorem dX12_of_69 : decode cX12_of 69 = .ok (.iaload, 1) := by decide +kernel
theorem dX12_of_70 : decode cX12_of 70 = .ok (.ireturn, 1) := by decide +kernel
theorem dX12_of_71 : decode cX12_of 71 = .ok (.aload_n 0, 1) := by decide +kernel
theorem dX12_of_72 : decode cX12_of 72 = .ok (.getfield 44, 3) := by decide +kernel
theorem dX12_of_75 : decode cX12_of 75 = .ok (.iload_n 1, 1) := by decide +kernel
theorem dX12_of_76 : decode cX12_of 76 = .ok (.iaload, 1) := by decide +kernel
theorem dX12_of_77 : decode cX12_of 77 = .ok (.ireturn, 1) := by decide +kernel
theorem dX12_of_78 : decode cX12_of 78 = .ok (.aload_n 0, 1) := by decide +kernel
theorem dX12_of_79 : decode cX12_of 79 = .ok (.getfield 47, 3) := by decide +kernel
theorem dX12_of_82 : decode cX12_of 82 = .ok (.iload_n 1, 1) := by decide +kernel
theorem dX12_of_83 : decode cX12_of 83 = .ok (.iaload, 1) := by decide +kernel
theorem dX12_of_84 : decode cX12_of 84 = .ok (.ireturn, 1) := by decide +kernel
theorem dX12_of_85 : decode cX12_of 85 = .ok (.aload_n 0, 1) := by decide +kernel
theorem dX12_of_86 : decode cX12_of 86 = .ok (.getfield 50, 3) := by decide +kernel
theorem dX12_of_89 : decode cX12_of 89 = .ok (.iload_n 1, 1) := by decide +kernel
theorem dX12_of_90 : decode cX12_of 90 = .ok (.iaload, 1) := by decide +kernel
theorem dX12_of_91 : decode cX12_of 91 = .ok (.ireturn, 1) := by decide +kernel
theorem dX12_of_92 : decode cX12_of 92 = .ok (.aload_n 0, 1) := by decide +kernel
theorem dX12_of_93 : decode cX12_of 93 = .ok (.iload_n 1, 1) := by decide +kernel
theorem dX12_of_94 : decode cX12_of 94 = .ok (.invokevirtual 313, 3) := by decide +kernel
theorem dX12_of_97 : decode cX12_of 97 = .ok (.ireturn, 1) := by decide +kernel
theorem dX12_of_98 : decode cX12_of 98 = .ok (.aload_n 0, 1) := by decide +kernel
theorem dX12_of_99 : decode cX12_of 99 = .ok (.iload_n 1, 1) := by decide +kernel
theorem dX12_of_100 : decode cX12_of 100 = .ok (.invokevirtual 351, 3) := by decide +kernel
theorem dX12_of_103 : decode cX12_of 103 = .ok (.ireturn, 1) := by decide +kernel
theorem dX12_of_104 : decode cX12_of 104 = .ok (.aload_n 0, 1) := by decide +kernel
theorem dX12_of_105 : decode cX12_of 105 = .ok (.bipush 80, 2) := by decide +kernel
theorem dX12_of_107 : decode cX12_of 107 = .ok (.iload_n 1, 1) := by decide +kernel
theorem dX12_of_108 : decode cX12_of 108 = .ok (.invokevirtual 354, 3) := by decide +kernel
theorem dX12_of_111 : decode cX12_of 111 = .ok (.ireturn, 1) := by decide +kernel
theorem dX12_of_112 : decode cX12_of 112 = .ok (.aload_n 0, 1) := by decide +kernel
theorem dX12_of_113 : decode cX12_of 113 = .ok (.bipush 88, 2) := by decide +kernel
theorem dX12_of_115 : decode cX12_of 115 = .ok (.iload_n 1, 1) := by decide +kernel
theorem dX12_of_116 : decode cX12_of 116 = .ok (.invokevirtual 354, 3) := by decide +kernel
theorem dX12_of_119 : decode cX12_of 119 = .ok (.ireturn, 1) := by decide +kernel
theorem dX12_of_120 : decode cX12_of 120 = .ok (.bipush (-2), 2) := by decide +kernel
theorem dX12_of_122 : decode cX12_of 122 = .ok (.ireturn, 1) := by decide +kernel
theorem dX12_isHonest_0 : decode cX12_isHonest 0 = .ok (.aload_n 0, 1) := by decide +kernel
theorem dX12_isHonest_1 : decode cX12_isHonest 1 = .ok (.iload_n 1, 1) := by decide +kernel
theorem dX12_isHonest_2 : decode cX12_isHonest 2 = .ok (.invokevirtual 120, 3) := by decide +kernel
theorem dX12_isHonest_5 : decode cX12_isHonest 5 = .ok (.ifCond .eq 19, 3) := by decide +kernel
theorem dX12_isHonest_8 : decode cX12_isHonest 8 = .ok (.aload_n 0, 1) := by decide +kernel
theorem dX12_isHonest_9 : decode cX12_isHonest 9 = .ok (.getfield 7, 3) := by decide +kernel
theorem dX12_isHonest_12 : decode cX12_isHonest 12 = .ok (.bipush 48, 2) := by decide +kernel
theorem dX12_isHonest_14 : decode cX12_isHonest 14 = .ok (.iload_n 1, 1) := by decide +kernel
theorem dX12_isHonest_15 : decode cX12_isHonest 15 = .ok (.iadd, 1) := by decide +kernel
theorem dX12_isHonest_16 : decode cX12_isHonest 16 = .ok (.iaload, 1) := by decide +kernel
theorem dX12_isHonest_17 : decode cX12_isHonest 17 = .ok (.ifCond .ne 7, 3) := by decide +kernel
theorem dX12_isHonest_20 : decode cX12_isHonest 20 = .ok (.iconst 1, 1) := by decide +kernel
theorem dX12_isHonest_21 : decode cX12_isHonest 21 = .ok (.goto 4, 3) := by decide +kernel
theorem dX12_isHonest_24 : decode cX12_isHonest 24 = .ok (.iconst 0, 1) := by decide +kernel
theorem dX12_isHonest_25 : decode cX12_isHonest 25 = .ok (.ireturn, 1) := by decide +kernel
theorem dX12_standOf_0 : decode cX12_standOf 0 = .ok (.aload_n 0, 1) := by decide +kernel
theorem dX12_standOf_1 : decode cX12_standOf 1 = .ok (.getfield 7, 3) := by decide +kernel
theorem dX12_standOf_4 : decode cX12_standOf 4 = .ok (.bipush 80, 2) := by decide +kernel
theorem dX12_standOf_6 : decode cX12_standOf 6 = .ok (.iload_n 1, 1) := by decide +kernel
theorem dX12_standOf_7 : decode cX12_standOf 7 = .ok (.iadd, 1) := by decide +kernel
theorem dX12_standOf_8 : decode cX12_standOf 8 = .ok (.iaload, 1) := by decide +kernel
theorem dX12_standOf_9 : decode cX12_standOf 9 = .ok (.iload_n 2, 1) := by decide +kernel
theorem dX12_standOf_10 : decode cX12_standOf 10 = .ok (.invokestatic 100, 3) := by decide +kernel
theorem dX12_standOf_13 : decode cX12_standOf 13 = .ok (.ifCond .eq 7, 3) := by decide +kernel
theorem dX12_standOf_16 : decode cX12_standOf 16 = .ok (.iconst 1, 1) := by decide +kernel
theorem dX12_standOf_17 : decode cX12_standOf 17 = .ok (.goto 24, 3) := by decide +kernel
theorem dX12_standOf_20 : decode cX12_standOf 20 = .ok (.aload_n 0, 1) := by decide +kernel
theorem dX12_standOf_21 : decode cX12_standOf 21 = .ok (.getfield 7, 3) := by decide +kernel
theorem dX12_standOf_24 : decode cX12_standOf 24 = .ok (.bipush 88, 2) := by decide +kernel
theorem dX12_standOf_26 : decode cX12_standOf 26 = .ok (.iload_n 1, 1) := by decide +kernel
theorem dX12_standOf_27 : decode cX12_standOf 27 = .ok (.iadd, 1) := by decide +kernel
theorem dX12_standOf_28 : decode cX12_standOf 28 = .ok (.iaload, 1) := by decide +kernel
theorem dX12_standOf_29 : decode cX12_standOf 29 = .ok (.iload_n 2, 1) := by decide +kernel
theorem dX12_standOf_30 : decode cX12_standOf 30 = .ok (.invokestatic 100, 3) := by decide +kernel
theorem dX12_standOf_33 : decode cX12_standOf 33 = .ok (.ifCond .eq 7, 3) := by decide +kernel
theorem dX12_standOf_36 : decode cX12_standOf 36 = .ok (.iconst 2, 1) := by decide +kernel
theorem dX12_standOf_37 : decode cX12_standOf 37 = .ok (.goto 4, 3) := by decide +kernel
theorem dX12_standOf_40 : decode cX12_standOf 40 = .ok (.iconst 0, 1) := by decide +kernel
theorem dX12_standOf_41 : decode cX12_standOf 41 = .ok (.ireturn, 1) := by decide +kernel
theorem dX12_view_0 : decode cX12_view 0 = .ok (.aload_n 0, 1) := by decide +kernel
theorem dX12_view_1 : decode cX12_view 1 = .ok (.aload_n 0, 1) := by decide +kernel
theorem dX12_view_2 : decode cX12_view 2 = .ok (.iload_n 1, 1) := by decide +kernel
theorem dX12_view_3 : decode cX12_view 3 = .ok (.invokevirtual 357, 3) := by decide +kernel
theorem dX12_view_6 : decode cX12_view 6 = .ok (.ifCond .eq 24, 3) := by decide +kernel
theorem dX12_view_9 : decode cX12_view 9 = .ok (.aload_n 0, 1) := by decide +kernel
theorem dX12_view_10 : decode cX12_view 10 = .ok (.iload_n 2, 1) := by decide +kernel
theorem dX12_view_11 : decode cX12_view 11 = .ok (.invokevirtual 319, 3) := by decide +kernel
theorem dX12_view_14 : decode cX12_view 14 = .ok (.ifCond .eq 16, 3) := by decide +kernel
theorem dX12_view_17 : decode cX12_view 17 = .ok (.iload_n 3, 1) := by decide +kernel
theorem dX12_view_18 : decode cX12_view 18 = .ok (.iconst 0, 1) := by decide +kernel
theorem dX12_view_19 : decode cX12_view 19 = .ok (.iconst 4, 1) := by decide +kernel
theorem dX12_view_20 : decode cX12_view 20 = .ok (.invokestatic 116, 3) := by decide +kernel
theorem dX12_view_23 : decode cX12_view 23 = .ok (.ifCond .eq 7, 3) := by decide +kernel
theorem dX12_view_26 : decode cX12_view 26 = .ok (.iconst 0, 1) := by decide +kernel
theorem dX12_view_27 : decode cX12_view 27 = .ok (.goto 4, 3) := by decide +kernel
theorem dX12_view_30 : decode cX12_view 30 = .ok (.iconst 1, 1) := by decide +kernel
theorem dX12_view_31 : decode cX12_view 31 = .ok (.putfield 97, 3) := by decide +kernel
theorem dX12_view_34 : decode cX12_view 34 = .ok (.aload_n 0, 1) := by decide +kernel
theorem dX12_view_35 : decode cX12_view 35 = .ok (.getfield 97, 3) := by decide +kernel
theorem dX12_view_38 : decode cX12_view 38 = .ok (.iconst 1, 1) := by decide +kernel
theorem dX12_view_39 : decode cX12_view 39 = .ok (.if_icmp .ne 5, 3) := by decide +kernel
theorem dX12_view_42 : decode cX12_view 42 = .ok (.iconst 0, 1) := by decide +kernel
theorem dX12_view_43 : decode cX12_view 43 = .ok (.ireturn, 1) := by decide +kernel
theorem dX12_view_44 : decode cX12_view 44 = .ok (.iload_n 3, 1) := by decide +kernel
theorem dX12_view_45 : decode cX12_view 45 = .ok (.tableswitch 81 0 3 #[31, 45, 59, 66], 31) := by decide +kernel
theorem dX12_view_76 : decode cX12_view 76 = .ok (.aload_n 0, 1) := by decide +kernel
theorem dX12_view_77 : decode cX12_view 77 = .ok (.getfield 7, 3) := by decide +kernel
theorem dX12_view_80 : decode cX12_view 80 = .ok (.bipush 64, 2) := by decide +kernel
theorem dX12_view_82 : decode cX12_view 82 = .ok (.iload_n 1, 1) := by decide +kernel
theorem dX12_view_83 : decode cX12_view 83 = .ok (.iadd, 1) := by decide +kernel
theorem dX12_view_84 : decode cX12_view 84 = .ok (.iaload, 1) := by decide +kernel
theorem dX12_view_85 : decode cX12_view 85 = .ok (.iload_n 2, 1) := by decide +kernel
theorem dX12_view_86 : decode cX12_view 86 = .ok (.ishr, 1) := by decide +kernel
theorem dX12_view_87 : decode cX12_view 87 = .ok (.iconst 1, 1) := by decide +kernel
theorem dX12_view_88 : decode cX12_view 88 = .ok (.iand, 1) := by decide +kernel
theorem dX12_view_89 : decode cX12_view 89 = .ok (.ireturn, 1) := by decide +kernel
theorem dX12_view_90 : decode cX12_view 90 = .ok (.aload_n 0, 1) := by decide +kernel
theorem dX12_view_91 : decode cX12_view 91 = .ok (.getfield 7, 3) := by decide +kernel
theorem dX12_view_94 : decode cX12_view 94 = .ok (.bipush 72, 2) := by decide +kernel
theorem dX12_view_96 : decode cX12_view 96 = .ok (.iload_n 1, 1) := by decide +kernel
theorem dX12_view_97 : decode cX12_view 97 = .ok (.iadd, 1) := by decide +kernel
theorem dX12_view_98 : decode cX12_view 98 = .ok (.iaload, 1) := by decide +kernel
theorem dX12_view_99 : decode cX12_view 99 = .ok (.iload_n 2, 1) := by decide +kernel
theorem dX12_view_100 : decode cX12_view 100 = .ok (.ishr, 1) := by decide +kernel
theorem dX12_view_101 : decode cX12_view 101 = .ok (.iconst 1, 1) := by decide +kernel
theorem dX12_view_102 : decode cX12_view 102 = .ok (.iand, 1) := by decide +kernel
theorem dX12_view_103 : decode cX12_view 103 = .ok (.ireturn, 1) := by decide +kernel
theorem dX12_view_104 : decode cX12_view 104 = .ok (.aload_n 0, 1) := by decide +kernel
theorem dX12_view_105 : decode cX12_view 105 = .ok (.iload_n 1, 1) := by decide +kernel
theorem dX12_view_106 : decode cX12_view 106 = .ok (.iload_n 2, 1) := by decide +kernel
theorem dX12_view_107 : decode cX12_view 107 = .ok (.invokevirtual 336, 3) := by decide +kernel
theorem dX12_view_110 : decode cX12_view 110 = .ok (.ireturn, 1) := by decide +kernel
theorem dX12_view_111 : decode cX12_view 111 = .ok (.aload_n 0, 1) := by decide +kernel
theorem dX12_view_112 : decode cX12_view 112 = .ok (.iload_n 1, 1) := by decide +kernel
theorem dX12_view_113 : decode cX12_view 113 = .ok (.iload_n 2, 1) := by decide +kernel
theorem dX12_view_114 : decode cX12_view 114 = .ok (.invokevirtual 316, 3) := by decide +kernel
theorem dX12_view_117 : decode cX12_view 117 = .ok (.ifCond .eq 7, 3) := by decide +kernel
theorem dX12_view_120 : decode cX12_view 120 = .ok (.iconst 1, 1) := by decide +kernel
theorem dX12_view_121 : decode cX12_view 121 = .ok (.goto 4, 3) := by decide +kernel
theorem dX12_view_124 : decode cX12_view 124 = .ok (.iconst 0, 1) := by decide +kernel
theorem dX12_view_125 : decode cX12_view 125 = .ok (.ireturn, 1) := by decide +kernel
theorem dX12_view_126 : decode cX12_view 126 = .ok (.aload_n 0, 1) := by decide +kernel
theorem dX12_view_127 : decode cX12_view 127 = .ok (.iload_n 1, 1) := by decide +kernel
theorem dX12_view_128 : decode cX12_view 128 = .ok (.iload_n 2, 1) := by decide +kernel
theorem dX12_view_129 : decode cX12_view 129 = .ok (.invokevirtual 360, 3) := by decide +kernel
theorem dX12_view_132 : decode cX12_view 132 = .ok (.ireturn, 1) := by decide +kernel
theorem dX12_set_0 : decode cX12_set 0 = .ok (.aload_n 0, 1) := by decide +kernel
theorem dX12_set_1 : decode cX12_set 1 = .ok (.aload_n 0, 1) := by decide +kernel
theorem dX12_set_2 : decode cX12_set 2 = .ok (.iload_n 1, 1) := by decide +kernel
theorem dX12_set_3 : decode cX12_set 3 = .ok (.invokevirtual 357, 3) := by decide +kernel
theorem dX12_set_6 : decode cX12_set 6 = .ok (.ifCond .eq 26, 3) := by decide +kernel
theorem dX12_set_9 : decode cX12_set 9 = .ok (.iload_n 2, 1) := by decide +kernel
theorem dX12_set_10 : decode cX12_set 10 = .ok (.iconst 0, 1) := by decide +kernel
theorem dX12_set_11 : decode cX12_set 11 = .ok (.bipush 7, 2) := by decide +kernel
theorem dX12_set_13 : decode cX12_set 13 = .ok (.invokestatic 116, 3) := by decide +kernel
theorem dX12_set_16 : decode cX12_set 16 = .ok (.ifCond .eq 16, 3) := by decide +kernel
theorem dX12_set_19 : decode cX12_set 19 = .ok (.iload_n 3, 1) := by decide +kernel
theorem dX12_set_20 : decode cX12_set 20 = .ok (.iconst 0, 1) := by decide +kernel
theorem dX12_set_21 : decode cX12_set 21 = .ok (.iconst 3, 1) := by decide +kernel
theorem dX12_set_22 : decode cX12_set 22 = .ok (.invokestatic 116, 3) := by decide +kernel
theorem dX12_set_25 : decode cX12_set 25 = .ok (.ifCond .eq 7, 3) := by decide +kernel
theorem dX12_set_28 : decode cX12_set 28 = .ok (.iconst 0, 1) := by decide +kernel
theorem dX12_set_29 : decode cX12_set 29 = .ok (.goto 4, 3) := by decide +kernel
theorem dX12_set_32 : decode cX12_set 32 = .ok (.iconst 1, 1) := by decide +kernel
theorem dX12_set_33 : decode cX12_set 33 = .ok (.putfield 97, 3) := by decide +kernel
theorem dX12_set_36 : decode cX12_set 36 = .ok (.aload_n 0, 1) := by decide +kernel
theorem dX12_set_37 : decode cX12_set 37 = .ok (.getfield 97, 3) := by decide +kernel
theorem dX12_set_40 : decode cX12_set 40 = .ok (.iconst 1, 1) := by decide +kernel
theorem dX12_set_41 : decode cX12_set 41 = .ok (.if_icmp .ne 5, 3) := by decide +kernel
theorem dX12_set_44 : decode cX12_set 44 = .ok (.iconst 0, 1) := by decide +kernel
theorem dX12_set_45 : decode cX12_set 45 = .ok (.ireturn, 1) := by decide +kernel
theorem dX12_set_46 : decode cX12_set 46 = .ok (.bipush 8, 2) := by decide +kernel
theorem dX12_set_48 : decode cX12_set 48 = .ok (.iload_n 1, 1) := by decide +kernel
theorem dX12_set_49 : decode cX12_set 49 = .ok (.imul, 1) := by decide +kernel
theorem dX12_set_50 : decode cX12_set 50 = .ok (.iload_n 2, 1) := by decide +kernel
theorem dX12_set_51 : decode cX12_set 51 = .ok (.iadd, 1) := by decide +kernel
theorem dX12_set_52 : decode cX12_set 52 = .ok (.istore 4, 2) := by decide +kernel
theorem dX12_set_54 : decode cX12_set 54 = .ok (.iload_n 3, 1) := by decide +kernel
theorem dX12_set_55 : decode cX12_set 55 = .ok (.ifCond .ne 16, 3) := by decide +kernel
theorem dX12_set_58 : decode cX12_set 58 = .ok (.aload_n 0, 1) := by decide +kernel
theorem dX12_set_59 : decode cX12_set 59 = .ok (.getfield 7, 3) := by decide +kernel
theorem dX12_set_62 : decode cX12_set 62 = .ok (.bipush 96, 2) := by decide +kernel
theorem dX12_set_64 : decode cX12_set 64 = .ok (.iload 4, 2) := by decide +kernel
theorem dX12_set_66 : decode cX12_set 66 = .ok (.iadd, 1) := by decide +kernel
theorem dX12_set_67 : decode cX12_set 67 = .ok (.iaload, 1) := by decide +kernel
theorem dX12_set_68 : decode cX12_set 68 = .ok (.goto 47, 3) := by decide +kernel
theorem dX12_set_71 : decode cX12_set 71 = .ok (.iload_n 3, 1) := by decide +kernel
theorem dX12_set_72 : decode cX12_set 72 = .ok (.iconst 1, 1) := by decide +kernel
theorem dX12_set_73 : decode cX12_set 73 = .ok (.if_icmp .ne 17, 3) := by decide +kernel
theorem dX12_set_76 : decode cX12_set 76 = .ok (.aload_n 0, 1) := by decide +kernel
theorem dX12_set_77 : decode cX12_set 77 = .ok (.getfield 7, 3) := by decide +kernel
theorem dX12_set_80 : decode cX12_set 80 = .ok (.sipush 160, 3) := by decide +kernel
theorem dX12_set_83 : decode cX12_set 83 = .ok (.iload 4, 2) := by decide +kernel
theorem dX12_set_85 : decode cX12_set 85 = .ok (.iadd, 1) := by decide +kernel
theorem dX12_set_86 : decode cX12_set 86 = .ok (.iaload, 1) := by decide +kernel
theorem dX12_set_87 : decode cX12_set 87 = .ok (.goto 28, 3) := by decide +kernel
theorem dX12_set_90 : decode cX12_set 90 = .ok (.iload_n 3, 1) := by decide +kernel
theorem dX12_set_91 : decode cX12_set 91 = .ok (.iconst 2, 1) := by decide +kernel
theorem dX12_set_92 : decode cX12_set 92 = .ok (.if_icmp .ne 17, 3) := by decide +kernel
theorem dX12_set_95 : decode cX12_set 95 = .ok (.aload_n 0, 1) := by decide +kernel
theorem dX12_set_96 : decode cX12_set 96 = .ok (.getfield 7, 3) := by decide +kernel
theorem dX12_set_99 : decode cX12_set 99 = .ok (.sipush 224, 3) := by decide +kernel
theorem dX12_set_102 : decode cX12_set 102 = .ok (.iload 4, 2) := by decide +kernel
theorem dX12_set_104 : decode cX12_set 104 = .ok (.iadd, 1) := by decide +kernel
theorem dX12_set_105 : decode cX12_set 105 = .ok (.iaload, 1) := by decide +kernel
theorem dX12_set_106 : decode cX12_set 106 = .ok (.goto 9, 3) := by decide +kernel
theorem dX12_set_109 : decode cX12_set 109 = .ok (.aload_n 0, 1) := by decide +kernel
theorem dX12_set_110 : decode cX12_set 110 = .ok (.iload_n 1, 1) := by decide +kernel
theorem dX12_set_111 : decode cX12_set 111 = .ok (.iload_n 2, 1) := by decide +kernel
theorem dX12_set_112 : decode cX12_set 112 = .ok (.invokevirtual 310, 3) := by decide +kernel
theorem dX12_set_115 : decode cX12_set 115 = .ok (.ireturn, 1) := by decide +kernel
theorem dX12_alike_0 : decode cX12_alike 0 = .ok (.aload_n 0, 1) := by decide +kernel
theorem dX12_alike_1 : decode cX12_alike 1 = .ok (.iconst 0, 1) := by decide +kernel
theorem dX12_alike_2 : decode cX12_alike 2 = .ok (.putfield 97, 3) := by decide +kernel
theorem dX12_alike_5 : decode cX12_alike 5 = .ok (.aload_n 0, 1) := by decide +kernel
theorem dX12_alike_6 : decode cX12_alike 6 = .ok (.iload_n 1, 1) := by decide +kernel
theorem dX12_alike_7 : decode cX12_alike 7 = .ok (.invokevirtual 357, 3) := by decide +kernel
theorem dX12_alike_10 : decode cX12_alike 10 = .ok (.ifCond .eq 11, 3) := by decide +kernel
theorem dX12_alike_13 : decode cX12_alike 13 = .ok (.aload_n 0, 1) := by decide +kernel
theorem dX12_alike_14 : decode cX12_alike 14 = .ok (.iload_n 2, 1) := by decide +kernel
theorem dX12_alike_15 : decode cX12_alike 15 = .ok (.invokevirtual 357, 3) := by decide +kernel
theorem dX12_alike_18 : decode cX12_alike 18 = .ok (.ifCond .ne 5, 3) := by decide +kernel
theorem dX12_alike_21 : decode cX12_alike 21 = .ok (.iconst (-1), 1) := by decide +kernel
theorem dX12_alike_22 : decode cX12_alike 22 = .ok (.ireturn, 1) := by decide +kernel
theorem dX12_alike_23 : decode cX12_alike 23 = .ok (.iconst 0, 1) := by decide +kernel
theorem dX12_alike_24 : decode cX12_alike 24 = .ok (.istore_n 3, 1) := by decide +kernel
theorem dX12_alike_25 : decode cX12_alike 25 = .ok (.iconst 0, 1) := by decide +kernel
theorem dX12_alike_26 : decode cX12_alike 26 = .ok (.istore 4, 2) := by decide +kernel
theorem dX12_alike_28 : decode cX12_alike 28 = .ok (.iload 4, 2) := by decide +kernel
theorem dX12_alike_30 : decode cX12_alike 30 = .ok (.aload_n 0, 1) := by decide +kernel
theorem dX12_alike_31 : decode cX12_alike 31 = .ok (.getfield 113, 3) := by decide +kernel
theorem dX12_alike_34 : decode cX12_alike 34 = .ok (.if_icmp .ge 29, 3) := by decide +kernel
theorem dX12_alike_37 : decode cX12_alike 37 = .ok (.aload_n 0, 1) := by decide +kernel
theorem dX12_alike_38 : decode cX12_alike 38 = .ok (.iload_n 1, 1) := by decide +kernel
theorem dX12_alike_39 : decode cX12_alike 39 = .ok (.iload 4, 2) := by decide +kernel
theorem dX12_alike_41 : decode cX12_alike 41 = .ok (.invokevirtual 360, 3) := by decide +kernel
theorem dX12_alike_44 : decode cX12_alike 44 = .ok (.aload_n 0, 1) := by decide +kernel
theorem dX12_alike_45 : decode cX12_alike 45 = .ok (.iload_n 2, 1) := by decide +kernel
theorem dX12_alike_46 : decode cX12_alike 46 = .ok (.iload 4, 2) := by decide +kernel
theorem dX12_alike_48 : decode cX12_alike 48 = .ok (.invokevirtual 360, 3) := by decide +kernel
theorem dX12_alike_51 : decode cX12_alike 51 = .ok (.if_icmp .ne 6, 3) := by decide +kernel
theorem dX12_alike_54 : decode cX12_alike 54 = .ok (.iinc 3 1, 3) := by decide +kernel
theorem dX12_alike_57 : decode cX12_alike 57 = .ok (.iinc 4 1, 3) := by decide +kernel
theorem dX12_alike_60 : decode cX12_alike 60 = .ok (.goto (-32), 3) := by decide +kernel
theorem dX12_alike_63 : decode cX12_alike 63 = .ok (.iload_n 3, 1) := by decide +kernel
theorem dX12_alike_64 : decode cX12_alike 64 = .ok (.ireturn, 1) := by decide +kernel
theorem dX12_splitSets_0 : decode cX12_splitSets 0 = .ok (.iconst 0, 1) := by decide +kernel
theorem dX12_splitSets_1 : decode cX12_splitSets 1 = .ok (.istore_n 1, 1) := by decide +kernel
theorem dX12_splitSets_2 : decode cX12_splitSets 2 = .ok (.iconst 0, 1) := by decide +kernel
theorem dX12_splitSets_3 : decode cX12_splitSets 3 = .ok (.istore_n 2, 1) := by decide +kernel
theorem dX12_splitSets_4 : decode cX12_splitSets 4 = .ok (.iload_n 2, 1) := by decide +kernel
theorem dX12_splitSets_5 : decode cX12_splitSets 5 = .ok (.bipush 8, 2) := by decide +kernel
theorem dX12_splitSets_7 : decode cX12_splitSets 7 = .ok (.if_icmp .ge 88, 3) := by decide +kernel
theorem dX12_splitSets_10 : decode cX12_splitSets 10 = .ok (.iconst (-1), 1) := by decide +kernel
theorem dX12_splitSets_11 : decode cX12_splitSets 11 = .ok (.istore_n 3, 1) := by decide +kernel
theorem dX12_splitSets_12 : decode cX12_splitSets 12 = .ok (.iconst 0, 1) := by decide +kernel
theorem dX12_splitSets_13 : decode cX12_splitSets 13 = .ok (.istore 4, 2) := by decide +kernel
theorem dX12_splitSets_15 : decode cX12_splitSets 15 = .ok (.iload 4, 2) := by decide +kernel
theorem dX12_splitSets_17 : decode cX12_splitSets 17 = .ok (.aload_n 0, 1) := by decide +kernel
theorem dX12_splitSets_18 : decode cX12_splitSets 18 = .ok (.getfield 19, 3) := by decide +kernel
theorem dX12_splitSets_21 : decode cX12_splitSets 21 = .ok (.if_icmp .ge 68, 3) := by decide +kernel
theorem dX12_splitSets_24 : decode cX12_splitSets 24 = .ok (.aload_n 0, 1) := by decide +kernel
theorem dX12_splitSets_25 : decode cX12_splitSets 25 = .ok (.getfield 7, 3) := by decide +kernel
theorem dX12_splitSets_28 : decode cX12_splitSets 28 = .ok (.bipush 48, 2) := by decide +kernel
theorem dX12_splitSets_30 : decode cX12_splitSets 30 = .ok (.iload 4, 2) := by decide +kernel
theorem dX12_splitSets_32 : decode cX12_splitSets 32 = .ok (.iadd, 1) := by decide +kernel
theorem dX12_splitSets_33 : decode cX12_splitSets 33 = .ok (.iaload, 1) := by decide +kernel
theorem dX12_splitSets_34 : decode cX12_splitSets 34 = .ok (.ifCond .ne 13, 3) := by decide +kernel
theorem dX12_splitSets_37 : decode cX12_splitSets 37 = .ok (.aload_n 0, 1) := by decide +kernel
theorem dX12_splitSets_38 : decode cX12_splitSets 38 = .ok (.iload 4, 2) := by decide +kernel
theorem dX12_splitSets_40 : decode cX12_splitSets 40 = .ok (.iload_n 2, 1) := by decide +kernel
theorem dX12_splitSets_41 : decode cX12_splitSets 41 = .ok (.invokevirtual 310, 3) := by decide +kernel
theorem dX12_splitSets_44 : decode cX12_splitSets 44 = .ok (.goto 4, 3) := by decide +kernel
theorem dX12_splitSets_47 : decode cX12_splitSets 47 = .ok (.iconst (-1), 1) := by decide +kernel
theorem dX12_splitSets_48 : decode cX12_splitSets 48 = .ok (.istore 5, 2) := by decide +kernel
theorem dX12_splitSets_50 : decode cX12_splitSets 50 = .ok (.iload 5, 2) := by decide +kernel
theorem dX12_splitSets_52 : decode cX12_splitSets 52 = .ok (.ifCond .lt 19, 3) := by decide +kernel
theorem dX12_splitSets_55 : decode cX12_splitSets 55 = .ok (.iload_n 3, 1) := by decide +kernel
theorem dX12_splitSets_56 : decode cX12_splitSets 56 = .ok (.ifCond .lt 15, 3) := by decide +kernel
theorem dX12_splitSets_59 : decode cX12_splitSets 59 = .ok (.iload 5, 2) := by decide +kernel
theorem dX12_splitSets_61 : decode cX12_splitSets 61 = .ok (.iload_n 3, 1) := by decide +kernel
theorem dX12_splitSets_62 : decode cX12_splitSets 62 = .ok (.if_icmp .eq 9, 3) := by decide +kernel
theorem dX12_splitSets_65 : decode cX12_splitSets 65 = .ok (.iload_n 1, 1) := by decide +kernel
theorem dX12_splitSets_66 : decode cX12_splitSets 66 = .ok (.iconst 1, 1) := by decide +kernel
theorem dX12_splitSets_67 : decode cX12_splitSets 67 = .ok (.iload_n 2, 1) := by decide +kernel
theorem dX12_splitSets_68 : decode cX12_splitSets 68 = .ok (.ishl, 1) := by decide +kernel
theorem dX12_splitSets_69 : decode cX12_splitSets 69 = .ok (.ior, 1) := by decide +kernel
theorem dX12_splitSets_70 : decode cX12_splitSets 70 = .ok (.istore_n 1, 1) := by decide +kernel
theorem dX12_splitSets_71 : decode cX12_splitSets 71 = .ok (.iload 5, 2) := by decide +kernel
theorem dX12_splitSets_73 : decode cX12_splitSets 73 = .ok (.ifCond .lt 10, 3) := by decide +kernel
theorem dX12_splitSets_76 : decode cX12_splitSets 76 = .ok (.iload_n 3, 1) := by decide +kernel
theorem dX12_splitSets_77 : decode cX12_splitSets 77 = .ok (.ifCond .ge 6, 3) := by decide +kernel
theorem dX12_splitSets_80 : decode cX12_splitSets 80 = .ok (.iload 5, 2) := by decide +kernel
theorem dX12_splitSets_82 : decode cX12_splitSets 82 = .ok (.istore_n 3, 1) := by decide +kernel
theorem dX12_splitSets_83 : decode cX12_splitSets 83 = .ok (.iinc 4 1, 3) := by decide +kernel
theorem dX12_splitSets_86 : decode cX12_splitSets 86 = .ok (.goto (-71), 3) := by decide +kernel
theorem dX12_splitSets_89 : decode cX12_splitSets 89 = .ok (.iinc 2 1, 3) := by decide +kernel
theorem dX12_splitSets_92 : decode cX12_splitSets 92 = .ok (.goto (-88), 3) := by decide +kernel
theorem dX12_splitSets_95 : decode cX12_splitSets 95 = .ok (.iload_n 1, 1) := by decide +kernel
theorem dX12_splitSets_96 : decode cX12_splitSets 96 = .ok (.ireturn, 1) := by decide +kernel
theorem dX12_widest_0 : decode cX12_widest 0 = .ok (.iconst 0, 1) := by decide +kernel
theorem dX12_widest_1 : decode cX12_widest 1 = .ok (.istore_n 1, 1) := by decide +kernel
theorem dX12_widest_2 : decode cX12_widest 2 = .ok (.iconst 0, 1) := by decide +kernel
theorem dX12_widest_3 : decode cX12_widest 3 = .ok (.istore_n 2, 1) := by decide +kernel
theorem dX12_widest_4 : decode cX12_widest 4 = .ok (.iload_n 2, 1) := by decide +kernel
theorem dX12_widest_5 : decode cX12_widest 5 = .ok (.iconst 1, 1) := by decide +kernel
theorem dX12_widest_6 : decode cX12_widest 6 = .ok (.aload_n 0, 1) := by decide +kernel
theorem dX12_widest_7 : decode cX12_widest 7 = .ok (.getfield 113, 3) := by decide +kernel
theorem dX12_widest_10 : decode cX12_widest 10 = .ok (.ishl, 1) := by decide +kernel
theorem dX12_widest_11 : decode cX12_widest 11 = .ok (.if_icmp .ge 80, 3) := by decide +kernel
theorem dX12_widest_14 : decode cX12_widest 14 = .ok (.iload_n 2, 1) := by decide +kernel
theorem dX12_widest_15 : decode cX12_widest 15 = .ok (.invokestatic 127, 3) := by decide +kernel
theorem dX12_widest_18 : decode cX12_widest 18 = .ok (.iload_n 1, 1) := by decide +kernel
theorem dX12_widest_19 : decode cX12_widest 19 = .ok (.if_icmp .gt 6, 3) := by decide +kernel
theorem dX12_widest_22 : decode cX12_widest 22 = .ok (.goto 63, 3) := by decide +kernel
theorem dX12_widest_25 : decode cX12_widest 25 = .ok (.iconst 1, 1) := by decide +kernel
theorem dX12_widest_26 : decode cX12_widest 26 = .ok (.istore_n 3, 1) := by decide +kernel
theorem dX12_widest_27 : decode cX12_widest 27 = .ok (.iconst 0, 1) := by decide +kernel
theorem dX12_widest_28 : decode cX12_widest 28 = .ok (.istore 4, 2) := by decide +kernel
theorem dX12_widest_30 : decode cX12_widest 30 = .ok (.iload 4, 2) := by decide +kernel
theorem dX12_widest_32 : decode cX12_widest 32 = .ok (.aload_n 0, 1) := by decide +kernel
theorem dX12_widest_33 : decode cX12_widest 33 = .ok (.getfield 113, 3) := by decide +kernel
theorem dX12_widest_36 : decode cX12_widest 36 = .ok (.if_icmp .ge 40, 3) := by decide +kernel
theorem dX12_widest_39 : decode cX12_widest 39 = .ok (.iload_n 3, 1) := by decide +kernel
theorem dX12_widest_40 : decode cX12_widest 40 = .ok (.ifCond .eq 36, 3) := by decide +kernel
theorem dX12_widest_43 : decode cX12_widest 43 = .ok (.iload_n 2, 1) := by decide +kernel
theorem dX12_widest_44 : decode cX12_widest 44 = .ok (.iload 4, 2) := by decide +kernel
theorem dX12_widest_46 : decode cX12_widest 46 = .ok (.invokestatic 100, 3) := by decide +kernel
theorem dX12_widest_49 : decode cX12_widest 49 = .ok (.ifCond .eq 15, 3) := by decide +kernel
theorem dX12_widest_52 : decode cX12_widest 52 = .ok (.aload_n 0, 1) := by decide +kernel
theorem dX12_widest_53 : decode cX12_widest 53 = .ok (.getfield 50, 3) := by decide +kernel
theorem dX12_widest_56 : decode cX12_widest 56 = .ok (.iload 4, 2) := by decide +kernel
theorem dX12_widest_58 : decode cX12_widest 58 = .ok (.iaload, 1) := by decide +kernel
theorem dX12_widest_59 : decode cX12_widest 59 = .ok (.iload_n 2, 1) := by decide +kernel
theorem dX12_widest_60 : decode cX12_widest 60 = .ok (.iand, 1) := by decide +kernel
theorem dX12_widest_61 : decode cX12_widest 61 = .ok (.ifCond .ne 7, 3) := by decide +kernel
theorem dX12_widest_64 : decode cX12_widest 64 = .ok (.iconst 1, 1) := by decide +kernel
theorem dX12_widest_65 : decode cX12_widest 65 = .ok (.goto 4, 3) := by decide +kernel
theorem dX12_widest_68 : decode cX12_widest 68 = .ok (.iconst 0, 1) := by decide +kernel
theorem dX12_widest_69 : decode cX12_widest 69 = .ok (.istore_n 3, 1) := by decide +kernel
theorem dX12_widest_70 : decode cX12_widest 70 = .ok (.iinc 4 1, 3) := by decide +kernel
theorem dX12_widest_73 : decode cX12_widest 73 = .ok (.goto (-43), 3) := by decide +kernel
theorem dX12_widest_76 : decode cX12_widest 76 = .ok (.iload_n 3, 1) := by decide +kernel
theorem dX12_widest_77 : decode cX12_widest 77 = .ok (.ifCond .eq 8, 3) := by decide +kernel
theorem dX12_widest_80 : decode cX12_widest 80 = .ok (.iload_n 2, 1) := by decide +kernel
theorem dX12_widest_81 : decode cX12_widest 81 = .ok (.invokestatic 127, 3) := by decide +kernel
theorem dX12_widest_84 : decode cX12_widest 84 = .ok (.istore_n 1, 1) := by decide +kernel
theorem dX12_widest_85 : decode cX12_widest 85 = .ok (.iinc 2 1, 3) := by decide +kernel
theorem dX12_widest_88 : decode cX12_widest 88 = .ok (.goto (-84), 3) := by decide +kernel
theorem dX12_widest_91 : decode cX12_widest 91 = .ok (.iload_n 1, 1) := by decide +kernel
theorem dX12_widest_92 : decode cX12_widest 92 = .ok (.ireturn, 1) := by decide +kernel
theorem dX12_ones_0 : decode cX12_ones 0 = .ok (.iconst 0, 1) := by decide +kernel
theorem dX12_ones_1 : decode cX12_ones 1 = .ok (.istore_n 3, 1) := by decide +kernel
theorem dX12_ones_2 : decode cX12_ones 2 = .ok (.iconst 0, 1) := by decide +kernel
theorem dX12_ones_3 : decode cX12_ones 3 = .ok (.istore 4, 2) := by decide +kernel
theorem dX12_ones_5 : decode cX12_ones 5 = .ok (.iload 4, 2) := by decide +kernel
theorem dX12_ones_7 : decode cX12_ones 7 = .ok (.aload_n 0, 1) := by decide +kernel
theorem dX12_ones_8 : decode cX12_ones 8 = .ok (.getfield 19, 3) := by decide +kernel
theorem dX12_ones_11 : decode cX12_ones 11 = .ok (.if_icmp .ge 29, 3) := by decide +kernel
theorem dX12_ones_14 : decode cX12_ones 14 = .ok (.aload_n 0, 1) := by decide +kernel
theorem dX12_ones_15 : decode cX12_ones 15 = .ok (.getfield 7, 3) := by decide +kernel
theorem dX12_ones_18 : decode cX12_ones 18 = .ok (.iload_n 1, 1) := by decide +kernel
theorem dX12_ones_19 : decode cX12_ones 19 = .ok (.iload 4, 2) := by decide +kernel
theorem dX12_ones_21 : decode cX12_ones 21 = .ok (.iadd, 1) := by decide +kernel
theorem dX12_ones_22 : decode cX12_ones 22 = .ok (.iaload, 1) := by decide +kernel
theorem dX12_ones_23 : decode cX12_ones 23 = .ok (.iload_n 2, 1) := by decide +kernel
theorem dX12_ones_24 : decode cX12_ones 24 = .ok (.if_icmp .ne 10, 3) := by decide +kernel
theorem dX12_ones_27 : decode cX12_ones 27 = .ok (.iload_n 3, 1) := by decide +kernel
theorem dX12_ones_28 : decode cX12_ones 28 = .ok (.iconst 1, 1) := by decide +kernel
theorem dX12_ones_29 : decode cX12_ones 29 = .ok (.iload 4, 2) := by decide +kernel
theorem dX12_ones_31 : decode cX12_ones 31 = .ok (.ishl, 1) := by decide +kernel
theorem dX12_ones_32 : decode cX12_ones 32 = .ok (.ior, 1) := by decide +kernel
theorem dX12_ones_33 : decode cX12_ones 33 = .ok (.istore_n 3, 1) := by decide +kernel
theorem dX12_ones_34 : decode cX12_ones 34 = .ok (.iinc 4 1, 3) := by decide +kernel
theorem dX12_ones_37 : decode cX12_ones 37 = .ok (.goto (-32), 3) := by decide +kernel
theorem dX12_ones_40 : decode cX12_ones 40 = .ok (.iload_n 3, 1) := by decide +kernel
theorem dX12_ones_41 : decode cX12_ones 41 = .ok (.ireturn, 1) := by decide +kernel
theorem dX12_apart_0 : decode cX12_apart 0 = .ok (.iconst 0, 1) := by decide +kernel
theorem dX12_apart_1 : decode cX12_apart 1 = .ok (.istore_n 1, 1) := by decide +kernel
theorem dX12_apart_2 : decode cX12_apart 2 = .ok (.iconst 0, 1) := by decide +kernel
theorem dX12_apart_3 : decode cX12_apart 3 = .ok (.istore_n 2, 1) := by decide +kernel
theorem dX12_apart_4 : decode cX12_apart 4 = .ok (.iload_n 2, 1) := by decide +kernel
theorem dX12_apart_5 : decode cX12_apart 5 = .ok (.aload_n 0, 1) := by decide +kernel
theorem dX12_apart_6 : decode cX12_apart 6 = .ok (.getfield 19, 3) := by decide +kernel
theorem dX12_apart_9 : decode cX12_apart 9 = .ok (.if_icmp .ge 41, 3) := by decide +kernel
theorem dX12_apart_12 : decode cX12_apart 12 = .ok (.iconst 0, 1) := by decide +kernel
theorem dX12_apart_13 : decode cX12_apart 13 = .ok (.istore_n 3, 1) := by decide +kernel
theorem dX12_apart_14 : decode cX12_apart 14 = .ok (.iload_n 3, 1) := by decide +kernel
theorem dX12_apart_15 : decode cX12_apart 15 = .ok (.iload_n 2, 1) := by decide +kernel
theorem dX12_apart_16 : decode cX12_apart 16 = .ok (.if_icmp .ge 28, 3) := by decide +kernel
theorem dX12_apart_19 : decode cX12_apart 19 = .ok (.aload_n 0, 1) := by decide +kernel
theorem dX12_apart_20 : decode cX12_apart 20 = .ok (.getfield 7, 3) := by decide +kernel
theorem dX12_apart_23 : decode cX12_apart 23 = .ok (.bipush 56, 2) := by decide +kernel
theorem dX12_apart_25 : decode cX12_apart 25 = .ok (.iload_n 2, 1) := by decide +kernel
theorem dX12_apart_26 : decode cX12_apart 26 = .ok (.iadd, 1) := by decide +kernel
theorem dX12_apart_27 : decode cX12_apart 27 = .ok (.iaload, 1) := by decide +kernel
theorem dX12_apart_28 : decode cX12_apart 28 = .ok (.iload_n 3, 1) := by decide +kernel
theorem dX12_apart_29 : decode cX12_apart 29 = .ok (.invokestatic 100, 3) := by decide +kernel
theorem dX12_apart_32 : decode cX12_apart 32 = .ok (.ifCond .ne 6, 3) := by decide +kernel
theorem dX12_apart_35 : decode cX12_apart 35 = .ok (.iinc 1 1, 3) := by decide +kernel
theorem dX12_apart_38 : decode cX12_apart 38 = .ok (.iinc 3 1, 3) := by decide +kernel
theorem dX12_apart_41 : decode cX12_apart 41 = .ok (.goto (-27), 3) := by decide +kernel
theorem dX12_apart_44 : decode cX12_apart 44 = .ok (.iinc 2 1, 3) := by decide +kernel
theorem dX12_apart_47 : decode cX12_apart 47 = .ok (.goto (-43), 3) := by decide +kernel
theorem dX12_apart_50 : decode cX12_apart 50 = .ok (.iload_n 1, 1) := by decide +kernel
theorem dX12_apart_51 : decode cX12_apart 51 = .ok (.ireturn, 1) := by decide +kernel
theorem dX12_count_0 : decode cX12_count 0 = .ok (.aload_n 0, 1) := by decide +kernel
theorem dX12_count_1 : decode cX12_count 1 = .ok (.iconst 0, 1) := by decide +kernel
theorem dX12_count_2 : decode cX12_count 2 = .ok (.putfield 97, 3) := by decide +kernel
theorem dX12_count_5 : decode cX12_count 5 = .ok (.iload_n 1, 1) := by decide +kernel
theorem dX12_count_6 : decode cX12_count 6 = .ok (.tableswitch 181 0 16 #[82, 87, 92, 97, 102, 107, 112, 120, 128, 133, 138, 143, 148, 153, 158, 171, 176], 82) := by decide +kernel
theorem dX12_count_88 : decode cX12_count 88 = .ok (.aload_n 0, 1) := by decide +kernel
theorem dX12_count_89 : decode cX12_count 89 = .ok (.getfield 19, 3) := by decide +kernel
theorem dX12_count_92 : decode cX12_count 92 = .ok (.ireturn, 1) := by decide +kernel
theorem dX12_count_93 : decode cX12_count 93 = .ok (.aload_n 0, 1) := by decide +kernel
theorem dX12_count_94 : decode cX12_count 94 = .ok (.getfield 23, 3) := by decide +kernel
theorem dX12_count_97 : decode cX12_count 97 = .ok (.ireturn, 1) := by decide +kernel
theorem dX12_count_98 : decode cX12_count 98 = .ok (.aload_n 0, 1) := by decide +kernel
theorem dX12_count_99 : decode cX12_count 99 = .ok (.getfield 26, 3) := by decide +kernel
theorem dX12_count_102 : decode cX12_count 102 = .ok (.ireturn, 1) := by decide +kernel
theorem dX12_count_103 : decode cX12_count 103 = .ok (.aload_n 0, 1) := by decide +kernel
theorem dX12_count_104 : decode cX12_count 104 = .ok (.getfield 29, 3) := by decide +kernel
theorem dX12_count_107 : decode cX12_count 107 = .ok (.ireturn, 1) := by decide +kernel
theorem dX12_count_108 : decode cX12_count 108 = .ok (.aload_n 0, 1) := by decide +kernel
theorem dX12_count_109 : decode cX12_count 109 = .ok (.getfield 32, 3) := by decide +kernel
theorem dX12_count_112 : decode cX12_count 112 = .ok (.ireturn, 1) := by decide +kernel
theorem dX12_count_113 : decode cX12_count 113 = .ok (.aload_n 0, 1) := by decide +kernel
theorem dX12_count_114 : decode cX12_count 114 = .ok (.getfield 35, 3) := by decide +kernel
theorem dX12_count_117 : decode cX12_count 117 = .ok (.ireturn, 1) := by decide +kernel
theorem dX12_count_118 : decode cX12_count 118 = .ok (.aload_n 0, 1) := by decide +kernel
theorem dX12_count_119 : decode cX12_count 119 = .ok (.bipush 48, 2) := by decide +kernel
theorem dX12_count_121 : decode cX12_count 121 = .ok (.iconst 0, 1) := by decide +kernel
theorem dX12_count_122 : decode cX12_count 122 = .ok (.invokevirtual 363, 3) := by decide +kernel
theorem dX12_count_125 : decode cX12_count 125 = .ok (.ireturn, 1) := by decide +kernel
theorem dX12_count_126 : decode cX12_count 126 = .ok (.aload_n 0, 1) := by decide +kernel
theorem dX12_count_127 : decode cX12_count 127 = .ok (.bipush 40, 2) := by decide +kernel
theorem dX12_count_129 : decode cX12_count 129 = .ok (.iconst 1, 1) := by decide +kernel
theorem dX12_count_130 : decode cX12_count 130 = .ok (.invokevirtual 363, 3) := by decide +kernel
theorem dX12_count_133 : decode cX12_count 133 = .ok (.ireturn, 1) := by decide +kernel
theorem dX12_count_134 : decode cX12_count 134 = .ok (.aload_n 0, 1) := by decide +kernel
theorem dX12_count_135 : decode cX12_count 135 = .ok (.invokevirtual 218, 3) := by decide +kernel
theorem dX12_count_138 : decode cX12_count 138 = .ok (.ireturn, 1) := by decide +kernel
theorem dX12_count_139 : decode cX12_count 139 = .ok (.aload_n 0, 1) := by decide +kernel
theorem dX12_count_140 : decode cX12_count 140 = .ok (.getfield 113, 3) := by decide +kernel
theorem dX12_count_143 : decode cX12_count 143 = .ok (.ireturn, 1) := by decide +kernel
theorem dX12_count_144 : decode cX12_count 144 = .ok (.aload_n 0, 1) := by decide +kernel
theorem dX12_count_145 : decode cX12_count 145 = .ok (.invokevirtual 366, 3) := by decide +kernel
theorem dX12_count_148 : decode cX12_count 148 = .ok (.ireturn, 1) := by decide +kernel
theorem dX12_count_149 : decode cX12_count 149 = .ok (.aload_n 0, 1) := by decide +kernel
theorem dX12_count_150 : decode cX12_count 150 = .ok (.invokevirtual 369, 3) := by decide +kernel
theorem dX12_count_153 : decode cX12_count 153 = .ok (.ireturn, 1) := by decide +kernel
theorem dX12_count_154 : decode cX12_count 154 = .ok (.aload_n 0, 1) := by decide +kernel
theorem dX12_count_155 : decode cX12_count 155 = .ok (.getfield 107, 3) := by decide +kernel
theorem dX12_count_158 : decode cX12_count 158 = .ok (.ireturn, 1) := by decide +kernel
theorem dX12_count_159 : decode cX12_count 159 = .ok (.aload_n 0, 1) := by decide +kernel
theorem dX12_count_160 : decode cX12_count 160 = .ok (.getfield 110, 3) := by decide +kernel
theorem dX12_count_163 : decode cX12_count 163 = .ok (.ireturn, 1) := by decide +kernel
theorem dX12_count_164 : decode cX12_count 164 = .ok (.aload_n 0, 1) := by decide +kernel
theorem dX12_count_165 : decode cX12_count 165 = .ok (.invokevirtual 211, 3) := by decide +kernel
theorem dX12_count_168 : decode cX12_count 168 = .ok (.ifCond .eq 7, 3) := by decide +kernel
theorem dX12_count_171 : decode cX12_count 171 = .ok (.iconst 1, 1) := by decide +kernel
theorem dX12_count_172 : decode cX12_count 172 = .ok (.goto 4, 3) := by decide +kernel
theorem dX12_count_175 : decode cX12_count 175 = .ok (.iconst 0, 1) := by decide +kernel
theorem dX12_count_176 : decode cX12_count 176 = .ok (.ireturn, 1) := by decide +kernel
theorem dX12_count_177 : decode cX12_count 177 = .ok (.aload_n 0, 1) := by decide +kernel
theorem dX12_count_178 : decode cX12_count 178 = .ok (.invokevirtual 372, 3) := by decide +kernel
theorem dX12_count_181 : decode cX12_count 181 = .ok (.ireturn, 1) := by decide +kernel
theorem dX12_count_182 : decode cX12_count 182 = .ok (.aload_n 0, 1) := by decide +kernel
theorem dX12_count_183 : decode cX12_count 183 = .ok (.getfield 104, 3) := by decide +kernel
theorem dX12_count_186 : decode cX12_count 186 = .ok (.ireturn, 1) := by decide +kernel
theorem dX12_count_187 : decode cX12_count 187 = .ok (.iconst (-1), 1) := by decide +kernel
theorem dX12_count_188 : decode cX12_count 188 = .ok (.ireturn, 1) := by decide +kernel
theorem dJxf58ca_isNaN_12338_0 : decode cJxf58ca_isNaN_12338 0 = .ok (.fload_n 0, 1) := by decide +kernel
theorem dJxf58ca_isNaN_12338_1 : decode cJxf58ca_isNaN_12338 1 = .ok (.fload_n 0, 1) := by decide +kernel
theorem dJxf58ca_isNaN_12338_2 : decode cJxf58ca_isNaN_12338 2 = .ok (.fcmp .l, 1) := by decide +kernel
theorem dJxf58ca_isNaN_12338_3 : decode cJxf58ca_isNaN_12338 3 = .ok (.ifCond .eq 7, 3) := by decide +kernel
theorem dJxf58ca_isNaN_12338_6 : decode cJxf58ca_isNaN_12338 6 = .ok (.iconst 1, 1) := by decide +kernel
theorem dJxf58ca_isNaN_12338_7 : decode cJxf58ca_isNaN_12338 7 = .ok (.goto 4, 3) := by decide +kernel
theorem dJxf58ca_isNaN_12338_10 : decode cJxf58ca_isNaN_12338 10 = .ok (.iconst 0, 1) := by decide +kernel
theorem dJxf58ca_isNaN_12338_11 : decode cJxf58ca_isNaN_12338 11 = .ok (.ireturn, 1) := by decide +kernel
theorem dJxf58ca_floatToIntBits_5c35a_0 : decode cJxf58ca_floatToIntBits_5c35a 0 = .ok (.fload_n 0, 1) := by decide +kernel
theorem dJxf58ca_floatToIntBits_5c35a_1 : decode cJxf58ca_floatToIntBits_5c35a 1 = .ok (.invokestatic 59, 3) := by decide +kernel
theorem dJxf58ca_floatToIntBits_5c35a_4 : decode cJxf58ca_floatToIntBits_5c35a 4 = .ok (.ifCond .ne 8, 3) := by decide +kernel
theorem dJxf58ca_floatToIntBits_5c35a_7 : decode cJxf58ca_floatToIntBits_5c35a 7 = .ok (.fload_n 0, 1) := by decide +kernel
theorem dJxf58ca_floatToIntBits_5c35a_8 : decode cJxf58ca_floatToIntBits_5c35a 8 = .ok (.invokestatic 74, 3) := by decide +kernel
theorem dJxf58ca_floatToIntBits_5c35a_11 : decode cJxf58ca_floatToIntBits_5c35a 11 = .ok (.ireturn, 1) := by decide +kernel
theorem dJxf58ca_floatToIntBits_5c35a_12 : decode cJxf58ca_floatToIntBits_5c35a 12 = .ok (.ldc 77, 2) := by decide +kernel
theorem dJxf58ca_floatToIntBits_5c35a_14 : decode cJxf58ca_floatToIntBits_5c35a 14 = .ok (.ireturn, 1) := by decide +kernel
theorem dJ6_bitCount_0f7a4_0 : decode cJ6_bitCount_0f7a4 0 = .ok (.iload_n 0, 1) := by decide +kernel
theorem dJ6_bitCount_0f7a4_1 : decode cJ6_bitCount_0f7a4 1 = .ok (.iload_n 0, 1) := by decide +kernel
theorem dJ6_bitCount_0f7a4_2 : decode cJ6_bitCount_0f7a4 2 = .ok (.iconst 1, 1) := by decide +kernel
theorem dJ6_bitCount_0f7a4_3 : decode cJ6_bitCount_0f7a4 3 = .ok (.iushr, 1) := by decide +kernel
theorem dJ6_bitCount_0f7a4_4 : decode cJ6_bitCount_0f7a4 4 = .ok (.ldc_w 265, 3) := by decide +kernel
theorem dJ6_bitCount_0f7a4_7 : decode cJ6_bitCount_0f7a4 7 = .ok (.iand, 1) := by decide +kernel
theorem dJ6_bitCount_0f7a4_8 : decode cJ6_bitCount_0f7a4 8 = .ok (.isub, 1) := by decide +kernel
theorem dJ6_bitCount_0f7a4_9 : decode cJ6_bitCount_0f7a4 9 = .ok (.istore_n 0, 1) := by decide +kernel
theorem dJ6_bitCount_0f7a4_10 : decode cJ6_bitCount_0f7a4 10 = .ok (.iload_n 0, 1) := by decide +kernel
theorem dJ6_bitCount_0f7a4_11 : decode cJ6_bitCount_0f7a4 11 = .ok (.ldc_w 266, 3) := by decide +kernel
theorem dJ6_bitCount_0f7a4_14 : decode cJ6_bitCount_0f7a4 14 = .ok (.iand, 1) := by decide +kernel
theorem dJ6_bitCount_0f7a4_15 : decode cJ6_bitCount_0f7a4 15 = .ok (.iload_n 0, 1) := by decide +kernel
theorem dJ6_bitCount_0f7a4_16 : decode cJ6_bitCount_0f7a4 16 = .ok (.iconst 2, 1) := by decide +kernel
theorem dJ6_bitCount_0f7a4_17 : decode cJ6_bitCount_0f7a4 17 = .ok (.iushr, 1) := by decide +kernel
theorem dJ6_bitCount_0f7a4_18 : decode cJ6_bitCount_0f7a4 18 = .ok (.ldc_w 266, 3) := by decide +kernel
theorem dJ6_bitCount_0f7a4_21 : decode cJ6_bitCount_0f7a4 21 = .ok (.iand, 1) := by decide +kernel
theorem dJ6_bitCount_0f7a4_22 : decode cJ6_bitCount_0f7a4 22 = .ok (.iadd, 1) := by decide +kernel
theorem dJ6_bitCount_0f7a4_23 : decode cJ6_bitCount_0f7a4 23 = .ok (.istore_n 0, 1) := by decide +kernel
theorem dJ6_bitCount_0f7a4_24 : decode cJ6_bitCount_0f7a4 24 = .ok (.iload_n 0, 1) := by decide +kernel
theorem dJ6_bitCount_0f7a4_25 : decode cJ6_bitCount_0f7a4 25 = .ok (.iload_n 0, 1) := by decide +kernel
theorem dJ6_bitCount_0f7a4_26 : decode cJ6_bitCount_0f7a4 26 = .ok (.iconst 4, 1) := by decide +kernel
theorem dJ6_bitCount_0f7a4_27 : decode cJ6_bitCount_0f7a4 27 = .ok (.iushr, 1) := by decide +kernel
theorem dJ6_bitCount_0f7a4_28 : decode cJ6_bitCount_0f7a4 28 = .ok (.iadd, 1) := by decide +kernel
theorem dJ6_bitCount_0f7a4_29 : decode cJ6_bitCount_0f7a4 29 = .ok (.ldc_w 267, 3) := by decide +kernel
theorem dJ6_bitCount_0f7a4_32 : decode cJ6_bitCount_0f7a4 32 = .ok (.iand, 1) := by decide +kernel
theorem dJ6_bitCount_0f7a4_33 : decode cJ6_bitCount_0f7a4 33 = .ok (.istore_n 0, 1) := by decide +kernel
theorem dJ6_bitCount_0f7a4_34 : decode cJ6_bitCount_0f7a4 34 = .ok (.iload_n 0, 1) := by decide +kernel
theorem dJ6_bitCount_0f7a4_35 : decode cJ6_bitCount_0f7a4 35 = .ok (.iload_n 0, 1) := by decide +kernel
theorem dJ6_bitCount_0f7a4_36 : decode cJ6_bitCount_0f7a4 36 = .ok (.bipush 8, 2) := by decide +kernel
theorem dJ6_bitCount_0f7a4_38 : decode cJ6_bitCount_0f7a4 38 = .ok (.iushr, 1) := by decide +kernel
theorem dJ6_bitCount_0f7a4_39 : decode cJ6_bitCount_0f7a4 39 = .ok (.iadd, 1) := by decide +kernel
theorem dJ6_bitCount_0f7a4_40 : decode cJ6_bitCount_0f7a4 40 = .ok (.istore_n 0, 1) := by decide +kernel
theorem dJ6_bitCount_0f7a4_41 : decode cJ6_bitCount_0f7a4 41 = .ok (.iload_n 0, 1) := by decide +kernel
theorem dJ6_bitCount_0f7a4_42 : decode cJ6_bitCount_0f7a4 42 = .ok (.iload_n 0, 1) := by decide +kernel
theorem dJ6_bitCount_0f7a4_43 : decode cJ6_bitCount_0f7a4 43 = .ok (.bipush 16, 2) := by decide +kernel
theorem dJ6_bitCount_0f7a4_45 : decode cJ6_bitCount_0f7a4 45 = .ok (.iushr, 1) := by decide +kernel
theorem dJ6_bitCount_0f7a4_46 : decode cJ6_bitCount_0f7a4 46 = .ok (.iadd, 1) := by decide +kernel
theorem dJ6_bitCount_0f7a4_47 : decode cJ6_bitCount_0f7a4 47 = .ok (.istore_n 0, 1) := by decide +kernel
theorem dJ6_bitCount_0f7a4_48 : decode cJ6_bitCount_0f7a4 48 = .ok (.iload_n 0, 1) := by decide +kernel
theorem dJ6_bitCount_0f7a4_49 : decode cJ6_bitCount_0f7a4 49 = .ok (.bipush 63, 2) := by decide +kernel
theorem dJ6_bitCount_0f7a4_51 : decode cJ6_bitCount_0f7a4 51 = .ok (.iand, 1) := by decide +kernel
theorem dJ6_bitCount_0f7a4_52 : decode cJ6_bitCount_0f7a4 52 = .ok (.ireturn, 1) := by decide +kernel
theorem dJ9_max_7cf53_0 : decode cJ9_max_7cf53 0 = .ok (.iload_n 0, 1) := by decide +kernel
theorem dJ9_max_7cf53_1 : decode cJ9_max_7cf53 1 = .ok (.iload_n 1, 1) := by decide +kernel
theorem dJ9_max_7cf53_2 : decode cJ9_max_7cf53 2 = .ok (.if_icmp .lt 7, 3) := by decide +kernel
theorem dJ9_max_7cf53_5 : decode cJ9_max_7cf53 5 = .ok (.iload_n 0, 1) := by decide +kernel
theorem dJ9_max_7cf53_6 : decode cJ9_max_7cf53 6 = .ok (.goto 4, 3) := by decide +kernel
theorem dJ9_max_7cf53_9 : decode cJ9_max_7cf53 9 = .ok (.iload_n 1, 1) := by decide +kernel
theorem dJ9_max_7cf53_10 : decode cJ9_max_7cf53 10 = .ok (.ireturn, 1) := by decide +kernel
theorem dJ9_min_7cf53_0 : decode cJ9_min_7cf53 0 = .ok (.iload_n 0, 1) := by decide +kernel
theorem dJ9_min_7cf53_1 : decode cJ9_min_7cf53 1 = .ok (.iload_n 1, 1) := by decide +kernel
theorem dJ9_min_7cf53_2 : decode cJ9_min_7cf53 2 = .ok (.if_icmp .gt 7, 3) := by decide +kernel
theorem dJ9_min_7cf53_5 : decode cJ9_min_7cf53 5 = .ok (.iload_n 0, 1) := by decide +kernel
theorem dJ9_min_7cf53_6 : decode cJ9_min_7cf53 6 = .ok (.goto 4, 3) := by decide +kernel
theorem dJ9_min_7cf53_9 : decode cJ9_min_7cf53 9 = .ok (.iload_n 1, 1) := by decide +kernel
theorem dJ9_min_7cf53_10 : decode cJ9_min_7cf53 10 = .ok (.ireturn, 1) := by decide +kernel
theorem dJ7_fill_d0a16_0 : decode cJ7_fill_d0a16 0 = .ok (.iconst 0, 1) := by decide +kernel
theorem dJ7_fill_d0a16_1 : decode cJ7_fill_d0a16 1 = .ok (.istore_n 3, 1) := by decide +kernel
theorem dJ7_fill_d0a16_2 : decode cJ7_fill_d0a16 2 = .ok (.aload_n 0, 1) := by decide +kernel
theorem dJ7_fill_d0a16_3 : decode cJ7_fill_d0a16 3 = .ok (.arraylength, 1) := by decide +kernel
theorem dJ7_fill_d0a16_4 : decode cJ7_fill_d0a16 4 = .ok (.istore 4, 2) := by decide +kernel
theorem dJ7_fill_d0a16_6 : decode cJ7_fill_d0a16 6 = .ok (.iload_n 3, 1) := by decide +kernel
theorem dJ7_fill_d0a16_7 : decode cJ7_fill_d0a16 7 = .ok (.iload 4, 2) := by decide +kernel
theorem dJ7_fill_d0a16_9 : decode cJ7_fill_d0a16 9 = .ok (.if_icmp .ge 13, 3) := by decide +kernel
theorem dJ7_fill_d0a16_12 : decode cJ7_fill_d0a16 12 = .ok (.aload_n 0, 1) := by decide +kernel
theorem dJ7_fill_d0a16_13 : decode cJ7_fill_d0a16 13 = .ok (.iload_n 3, 1) := by decide +kernel
theorem dJ7_fill_d0a16_14 : decode cJ7_fill_d0a16 14 = .ok (.lload_n 1, 1) := by decide +kernel
theorem dJ7_fill_d0a16_15 : decode cJ7_fill_d0a16 15 = .ok (.lastore, 1) := by decide +kernel
theorem dJ7_fill_d0a16_16 : decode cJ7_fill_d0a16 16 = .ok (.iinc 3 1, 3) := by decide +kernel
theorem dJ7_fill_d0a16_19 : decode cJ7_fill_d0a16 19 = .ok (.goto (-13), 3) := by decide +kernel
theorem dJ7_fill_d0a16_22 : decode cJ7_fill_d0a16 22 = .ok (.return_, 1) := by decide +kernel
theorem dJ7_fill_53178_0 : decode cJ7_fill_53178 0 = .ok (.iconst 0, 1) := by decide +kernel
theorem dJ7_fill_53178_1 : decode cJ7_fill_53178 1 = .ok (.istore_n 2, 1) := by decide +kernel
theorem dJ7_fill_53178_2 : decode cJ7_fill_53178 2 = .ok (.aload_n 0, 1) := by decide +kernel
theorem dJ7_fill_53178_3 : decode cJ7_fill_53178 3 = .ok (.arraylength, 1) := by decide +kernel
theorem dJ7_fill_53178_4 : decode cJ7_fill_53178 4 = .ok (.istore_n 3, 1) := by decide +kernel
theorem dJ7_fill_53178_5 : decode cJ7_fill_53178 5 = .ok (.iload_n 2, 1) := by decide +kernel
theorem dJ7_fill_53178_6 : decode cJ7_fill_53178 6 = .ok (.iload_n 3, 1) := by decide +kernel
theorem dJ7_fill_53178_7 : decode cJ7_fill_53178 7 = .ok (.if_icmp .ge 13, 3) := by decide +kernel
theorem dJ7_fill_53178_10 : decode cJ7_fill_53178 10 = .ok (.aload_n 0, 1) := by decide +kernel
theorem dJ7_fill_53178_11 : decode cJ7_fill_53178 11 = .ok (.iload_n 2, 1) := by decide +kernel
theorem dJ7_fill_53178_12 : decode cJ7_fill_53178 12 = .ok (.iload_n 1, 1) := by decide +kernel
theorem dJ7_fill_53178_13 : decode cJ7_fill_53178 13 = .ok (.iastore, 1) := by decide +kernel
theorem dJ7_fill_53178_14 : decode cJ7_fill_53178 14 = .ok (.iinc 2 1, 3) := by decide +kernel
theorem dJ7_fill_53178_17 : decode cJ7_fill_53178 17 = .ok (.goto (-12), 3) := by decide +kernel
theorem dJ7_fill_53178_20 : decode cJ7_fill_53178 20 = .ok (.return_, 1) := by decide +kernel
theorem dL_view_0 : decode cL_view 0 = .ok (.aload 4, 2) := by decide +kernel
theorem dL_view_2 : decode cL_view 2 = .ok (.iconst 0, 1) := by decide +kernel
theorem dL_view_3 : decode cL_view 3 = .ok (.aload_n 0, 1) := by decide +kernel
theorem dL_view_4 : decode cL_view 4 = .ok (.iload_n 1, 1) := by decide +kernel
theorem dL_view_5 : decode cL_view 5 = .ok (.iload_n 2, 1) := by decide +kernel
theorem dL_view_6 : decode cL_view 6 = .ok (.iload_n 3, 1) := by decide +kernel
theorem dL_view_7 : decode cL_view 7 = .ok (.invokevirtual 7, 3) := by decide +kernel
theorem dL_view_10 : decode cL_view 10 = .ok (.i2l, 1) := by decide +kernel
theorem dL_view_11 : decode cL_view 11 = .ok (.lastore, 1) := by decide +kernel
theorem dL_view_12 : decode cL_view 12 = .ok (.goto 7, 3) := by decide +kernel
theorem dL_view_15 : decode cL_view 15 = .ok (.astore 5, 2) := by decide +kernel
theorem dL_view_17 : decode cL_view 17 = .ok (.iconst 1, 1) := by decide +kernel
theorem dL_view_18 : decode cL_view 18 = .ok (.ireturn, 1) := by decide +kernel
theorem dL_view_19 : decode cL_view 19 = .ok (.iconst 0, 1) := by decide +kernel
theorem dL_view_20 : decode cL_view 20 = .ok (.ireturn, 1) := by decide +kernel
theorem dL_set_0 : decode cL_set 0 = .ok (.aload 4, 2) := by decide +kernel
theorem dL_set_2 : decode cL_set 2 = .ok (.iconst 0, 1) := by decide +kernel
theorem dL_set_3 : decode cL_set 3 = .ok (.aload_n 0, 1) := by decide +kernel
theorem dL_set_4 : decode cL_set 4 = .ok (.iload_n 1, 1) := by decide +kernel
theorem dL_set_5 : decode cL_set 5 = .ok (.iload_n 2, 1) := by decide +kernel
theorem dL_set_6 : decode cL_set 6 = .ok (.iload_n 3, 1) := by decide +kernel
theorem dL_set_7 : decode cL_set 7 = .ok (.invokevirtual 15, 3) := by decide +kernel
theorem dL_set_10 : decode cL_set 10 = .ok (.i2l, 1) := by decide +kernel
theorem dL_set_11 : decode cL_set 11 = .ok (.lastore, 1) := by decide +kernel
theorem dL_set_12 : decode cL_set 12 = .ok (.goto 7, 3) := by decide +kernel
theorem dL_set_15 : decode cL_set 15 = .ok (.astore 5, 2) := by decide +kernel
theorem dL_set_17 : decode cL_set 17 = .ok (.iconst 1, 1) := by decide +kernel
theorem dL_set_18 : decode cL_set 18 = .ok (.ireturn, 1) := by decide +kernel
theorem dL_set_19 : decode cL_set 19 = .ok (.iconst 0, 1) := by decide +kernel
theorem dL_set_20 : decode cL_set 20 = .ok (.ireturn, 1) := by decide +kernel
theorem dL_law_0 : decode cL_law 0 = .ok (.new 8, 3) := by decide +kernel
theorem dL_law_3 : decode cL_law 3 = .ok (.dup, 1) := by decide +kernel
theorem dL_law_4 : decode cL_law 4 = .ok (.invokespecial 18, 3) := by decide +kernel
theorem dL_law_7 : decode cL_law 7 = .ok (.astore_n 1, 1) := by decide +kernel
theorem dL_law_8 : decode cL_law 8 = .ok (.new 19, 3) := by decide +kernel
theorem dL_law_11 : decode cL_law 11 = .ok (.dup, 1) := by decide +kernel
theorem dL_law_12 : decode cL_law 12 = .ok (.invokespecial 21, 3) := by decide +kernel
theorem dL_law_15 : decode cL_law 15 = .ok (.astore_n 2, 1) := by decide +kernel
theorem dL_law_16 : decode cL_law 16 = .ok (.iconst 1, 1) := by decide +kernel
theorem dL_law_17 : decode cL_law 17 = .ok (.newarray .long, 2) := by decide +kernel
theorem dL_law_19 : decode cL_law 19 = .ok (.astore_n 3, 1) := by decide +kernel
theorem dL_law_20 : decode cL_law 20 = .ok (.iconst 0, 1) := by decide +kernel
theorem dL_law_21 : decode cL_law 21 = .ok (.istore 4, 2) := by decide +kernel
theorem dL_law_23 : decode cL_law 23 = .ok (.iload 4, 2) := by decide +kernel
theorem dL_law_25 : decode cL_law 25 = .ok (.aload_n 0, 1) := by decide +kernel
theorem dL_law_26 : decode cL_law 26 = .ok (.arraylength, 1) := by decide +kernel
theorem dL_law_27 : decode cL_law 27 = .ok (.iconst 5, 1) := by decide +kernel
theorem dL_law_28 : decode cL_law 28 = .ok (.isub, 1) := by decide +kernel
theorem dL_law_29 : decode cL_law 29 = .ok (.if_icmp .gt 1117, 3) := by decide +kernel
theorem dL_law_32 : decode cL_law 32 = .ok (.aload_n 0, 1) := by decide +kernel
theorem dL_law_33 : decode cL_law 33 = .ok (.iload 4, 2) := by decide +kernel
theorem dL_law_35 : decode cL_law 35 = .ok (.iaload, 1) := by decide +kernel
theorem dL_law_36 : decode cL_law 36 = .ok (.bipush 31, 2) := by decide +kernel
theorem dL_law_38 : decode cL_law 38 = .ok (.iand, 1) := by decide +kernel
theorem dL_law_39 : decode cL_law 39 = .ok (.tableswitch 1101 0 25 #[117, 178, 203, 228, 265, 330, 367, 404, 441, 478, 515, 552, 589, 614, 627, 664, 701, 750, 799, 848, 885, 922, 974, 1026, 1063, 1076], 117) := by decide +kernel
theorem dL_law_156 : decode cL_law 156 = .ok (.aload_n 1, 1) := by decide +kernel
theorem dL_law_157 : decode cL_law 157 = .ok (.aload_n 0, 1) := by decide +kernel
theorem dL_law_158 : decode cL_law 158 = .ok (.iload 4, 2) := by decide +kernel
theorem dL_law_160 : decode cL_law 160 = .ok (.iconst 1, 1) := by decide +kernel
theorem dL_law_161 : decode cL_law 161 = .ok (.iadd, 1) := by decide +kernel
theorem dL_law_162 : decode cL_law 162 = .ok (.iaload, 1) := by decide +kernel
theorem dL_law_163 : decode cL_law 163 = .ok (.aload_n 0, 1) := by decide +kernel
theorem dL_law_164 : decode cL_law 164 = .ok (.iload 4, 2) := by decide +kernel
theorem dL_law_166 : decode cL_law 166 = .ok (.iconst 2, 1) := by decide +kernel
theorem dL_law_167 : decode cL_law 167 = .ok (.iadd, 1) := by decide +kernel
theorem dL_law_168 : decode cL_law 168 = .ok (.iaload, 1) := by decide +kernel
theorem dL_law_169 : decode cL_law 169 = .ok (.aload_n 0, 1) := by decide +kernel
theorem dL_law_170 : decode cL_law 170 = .ok (.iload 4, 2) := by decide +kernel
theorem dL_law_172 : decode cL_law 172 = .ok (.iconst 3, 1) := by decide +kernel
theorem dL_law_173 : decode cL_law 173 = .ok (.iadd, 1) := by decide +kernel
theorem dL_law_174 : decode cL_law 174 = .ok (.iaload, 1) := by decide +kernel
theorem dL_law_175 : decode cL_law 175 = .ok (.aload_n 0, 1) := by decide +kernel
theorem dL_law_176 : decode cL_law 176 = .ok (.iload 4, 2) := by decide +kernel
theorem dL_law_178 : decode cL_law 178 = .ok (.iconst 4, 1) := by decide +kernel
theorem dL_law_179 : decode cL_law 179 = .ok (.iadd, 1) := by decide +kernel
theorem dL_law_180 : decode cL_law 180 = .ok (.iaload, 1) := by decide +kernel
theorem dL_law_181 : decode cL_law 181 = .ok (.invokevirtual 22, 3) := by decide +kernel
theorem dL_law_184 : decode cL_law 184 = .ok (.pop, 1) := by decide +kernel
theorem dL_law_185 : decode cL_law 185 = .ok (.aload_n 2, 1) := by decide +kernel
theorem dL_law_186 : decode cL_law 186 = .ok (.aload_n 0, 1) := by decide +kernel
theorem dL_law_187 : decode cL_law 187 = .ok (.iload 4, 2) := by decide +kernel
theorem dL_law_189 : decode cL_law 189 = .ok (.iconst 1, 1) := by decide +kernel
theorem dL_law_190 : decode cL_law 190 = .ok (.iadd, 1) := by decide +kernel
theorem dL_law_191 : decode cL_law 191 = .ok (.iaload, 1) := by decide +kernel
theorem dL_law_192 : decode cL_law 192 = .ok (.aload_n 0, 1) := by decide +kernel
theorem dL_law_193 : decode cL_law 193 = .ok (.iload 4, 2) := by decide +kernel
theorem dL_law_195 : decode cL_law 195 = .ok (.iconst 2, 1) := by decide +kernel
theorem dL_law_196 : decode cL_law 196 = .ok (.iadd, 1) := by decide +kernel
theorem dL_law_197 : decode cL_law 197 = .ok (.iaload, 1) := by decide +kernel
theorem dL_law_198 : decode cL_law 198 = .ok (.aload_n 0, 1) := by decide +kernel
theorem dL_law_199 : decode cL_law 199 = .ok (.iload 4, 2) := by decide +kernel
theorem dL_law_201 : decode cL_law 201 = .ok (.iconst 3, 1) := by decide +kernel
theorem dL_law_202 : decode cL_law 202 = .ok (.iadd, 1) := by decide +kernel
theorem dL_law_203 : decode cL_law 203 = .ok (.iaload, 1) := by decide +kernel
theorem dL_law_204 : decode cL_law 204 = .ok (.aload_n 0, 1) := by decide +kernel
theorem dL_law_205 : decode cL_law 205 = .ok (.iload 4, 2) := by decide +kernel
theorem dL_law_207 : decode cL_law 207 = .ok (.iconst 4, 1) := by decide +kernel
theorem dL_law_208 : decode cL_law 208 = .ok (.iadd, 1) := by decide +kernel
theorem dL_law_209 : decode cL_law 209 = .ok (.iaload, 1) := by decide +kernel
theorem dL_law_210 : decode cL_law 210 = .ok (.invokevirtual 26, 3) := by decide +kernel
theorem dL_law_213 : decode cL_law 213 = .ok (.pop, 1) := by decide +kernel
theorem dL_law_214 : decode cL_law 214 = .ok (.goto 926, 3) := by decide +kernel
theorem dL_law_217 : decode cL_law 217 = .ok (.aload_n 1, 1) := by decide +kernel
theorem dL_law_218 : decode cL_law 218 = .ok (.aload_n 0, 1) := by decide +kernel
theorem dL_law_219 : decode cL_law 219 = .ok (.iload 4, 2) := by decide +kernel
theorem dL_law_221 : decode cL_law 221 = .ok (.iconst 1, 1) := by decide +kernel
theorem dL_law_222 : decode cL_law 222 = .ok (.iadd, 1) := by decide +kernel
theorem dL_law_223 : decode cL_law 223 = .ok (.iaload, 1) := by decide +kernel
theorem dL_law_224 : decode cL_law 224 = .ok (.invokevirtual 27, 3) := by decide +kernel
theorem dL_law_227 : decode cL_law 227 = .ok (.pop, 1) := by decide +kernel
theorem dL_law_228 : decode cL_law 228 = .ok (.aload_n 2, 1) := by decide +kernel
theorem dL_law_229 : decode cL_law 229 = .ok (.aload_n 0, 1) := by decide +kernel
theorem dL_law_230 : decode cL_law 230 = .ok (.iload 4, 2) := by decide +kernel
theorem dL_law_232 : decode cL_law 232 = .ok (.iconst 1, 1) := by decide +kernel
theorem dL_law_233 : decode cL_law 233 = .ok (.iadd, 1) := by decide +kernel
theorem dL_law_234 : decode cL_law 234 = .ok (.iaload, 1) := by decide +kernel
theorem dL_law_235 : decode cL_law 235 = .ok (.invokevirtual 31, 3) := by decide +kernel
theorem dL_law_238 : decode cL_law 238 = .ok (.pop, 1) := by decide +kernel
theorem dL_law_239 : decode cL_law 239 = .ok (.goto 901, 3) := by decide +kernel
theorem dL_law_242 : decode cL_law 242 = .ok (.aload_n 1, 1) := by decide +kernel
theorem dL_law_243 : decode cL_law 243 = .ok (.aload_n 0, 1) := by decide +kernel
theorem dL_law_244 : decode cL_law 244 = .ok (.iload 4, 2) := by decide +kernel
theorem dL_law_246 : decode cL_law 246 = .ok (.iconst 1, 1) := by decide +kernel
theorem dL_law_247 : decode cL_law 247 = .ok (.iadd, 1) := by decide +kernel
theorem dL_law_248 : decode cL_law 248 = .ok (.iaload, 1) := by decide +kernel
theorem dL_law_249 : decode cL_law 249 = .ok (.invokevirtual 32, 3) := by decide +kernel
theorem dL_law_252 : decode cL_law 252 = .ok (.pop, 1) := by decide +kernel
theorem dL_law_253 : decode cL_law 253 = .ok (.aload_n 2, 1) := by decide +kernel
theorem dL_law_254 : decode cL_law 254 = .ok (.aload_n 0, 1) := by decide +kernel
theorem dL_law_255 : decode cL_law 255 = .ok (.iload 4, 2) := by decide +kernel
theorem dL_law_257 : decode cL_law 257 = .ok (.iconst 1, 1) := by decide +kernel
theorem dL_law_258 : decode cL_law 258 = .ok (.iadd, 1) := by decide +kernel
theorem dL_law_259 : decode cL_law 259 = .ok (.iaload, 1) := by decide +kernel
theorem dL_law_260 : decode cL_law 260 = .ok (.invokevirtual 35, 3) := by decide +kernel
theorem dL_law_263 : decode cL_law 263 = .ok (.pop, 1) := by decide +kernel
theorem dL_law_264 : decode cL_law 264 = .ok (.goto 876, 3) := by decide +kernel
theorem dL_law_267 : decode cL_law 267 = .ok (.aload_n 1, 1) := by decide +kernel
theorem dL_law_268 : decode cL_law 268 = .ok (.aload_n 0, 1) := by decide +kernel
theorem dL_law_269 : decode cL_law 269 = .ok (.iload 4, 2) := by decide +kernel
theorem dL_law_271 : decode cL_law 271 = .ok (.iconst 1, 1) := by decide +kernel
theorem dL_law_272 : decode cL_law 272 = .ok (.iadd, 1) := by decide +kernel
theorem dL_law_273 : decode cL_law 273 = .ok (.iaload, 1) := by decide +kernel
theorem dL_law_274 : decode cL_law 274 = .ok (.aload_n 0, 1) := by decide +kernel
theorem dL_law_275 : decode cL_law 275 = .ok (.iload 4, 2) := by decide +kernel
theorem dL_law_277 : decode cL_law 277 = .ok (.iconst 2, 1) := by decide +kernel
theorem dL_law_278 : decode cL_law 278 = .ok (.iadd, 1) := by decide +kernel
theorem dL_law_279 : decode cL_law 279 = .ok (.iaload, 1) := by decide +kernel
theorem dL_law_280 : decode cL_law 280 = .ok (.invokevirtual 36, 3) := by decide +kernel
theorem dL_law_283 : decode cL_law 283 = .ok (.pop, 1) := by decide +kernel
theorem dL_law_284 : decode cL_law 284 = .ok (.aload_n 2, 1) := by decide +kernel
theorem dL_law_285 : decode cL_law 285 = .ok (.aload_n 0, 1) := by decide +kernel
theorem dL_law_286 : decode cL_law 286 = .ok (.iload 4, 2) := by decide +kernel
theorem dL_law_288 : decode cL_law 288 = .ok (.iconst 1, 1) := by decide +kernel
theorem dL_law_289 : decode cL_law 289 = .ok (.iadd, 1) := by decide +kernel
theorem dL_law_290 : decode cL_law 290 = .ok (.iaload, 1) := by decide +kernel
theorem dL_law_291 : decode cL_law 291 = .ok (.aload_n 0, 1) := by decide +kernel
theorem dL_law_292 : decode cL_law 292 = .ok (.iload 4, 2) := by decide +kernel
theorem dL_law_294 : decode cL_law 294 = .ok (.iconst 2, 1) := by decide +kernel
theorem dL_law_295 : decode cL_law 295 = .ok (.iadd, 1) := by decide +kernel
theorem dL_law_296 : decode cL_law 296 = .ok (.iaload, 1) := by decide +kernel
theorem dL_law_297 : decode cL_law 297 = .ok (.invokevirtual 40, 3) := by decide +kernel
theorem dL_law_300 : decode cL_law 300 = .ok (.pop, 1) := by decide +kernel
theorem dL_law_301 : decode cL_law 301 = .ok (.goto 839, 3) := by decide +kernel
theorem dL_law_304 : decode cL_law 304 = .ok (.aload_n 1, 1) := by decide +kernel
theorem dL_law_305 : decode cL_law 305 = .ok (.aload_n 0, 1) := by decide +kernel
theorem dL_law_306 : decode cL_law 306 = .ok (.iload 4, 2) := by decide +kernel
theorem dL_law_308 : decode cL_law 308 = .ok (.iconst 1, 1) := by decide +kernel
theorem dL_law_309 : decode cL_law 309 = .ok (.iadd, 1) := by decide +kernel
theorem dL_law_310 : decode cL_law 310 = .ok (.iaload, 1) := by decide +kernel
theorem dL_law_311 : decode cL_law 311 = .ok (.aload_n 0, 1) := by decide +kernel
theorem dL_law_312 : decode cL_law 312 = .ok (.iload 4, 2) := by decide +kernel
theorem dL_law_314 : decode cL_law 314 = .ok (.iconst 2, 1) := by decide +kernel
theorem dL_law_315 : decode cL_law 315 = .ok (.iadd, 1) := by decide +kernel
theorem dL_law_316 : decode cL_law 316 = .ok (.iaload, 1) := by decide +kernel
theorem dL_law_317 : decode cL_law 317 = .ok (.aload_n 0, 1) := by decide +kernel
theorem dL_law_318 : decode cL_law 318 = .ok (.iload 4, 2) := by decide +kernel
theorem dL_law_320 : decode cL_law 320 = .ok (.iconst 3, 1) := by decide +kernel
theorem dL_law_321 : decode cL_law 321 = .ok (.iadd, 1) := by decide +kernel
theorem dL_law_322 : decode cL_law 322 = .ok (.iaload, 1) := by decide +kernel
theorem dL_law_323 : decode cL_law 323 = .ok (.ifCond .eq 7, 3) := by decide +kernel
theorem dL_law_326 : decode cL_law 326 = .ok (.iconst 1, 1) := by decide +kernel
theorem dL_law_327 : decode cL_law 327 = .ok (.goto 4, 3) := by decide +kernel
theorem dL_law_330 : decode cL_law 330 = .ok (.iconst 0, 1) := by decide +kernel
theorem dL_law_331 : decode cL_law 331 = .ok (.invokevirtual 41, 3) := by decide +kernel
theorem dL_law_334 : decode cL_law 334 = .ok (.pop, 1) := by decide +kernel
theorem dL_law_335 : decode cL_law 335 = .ok (.aload_n 2, 1) := by decide +kernel
theorem dL_law_336 : decode cL_law 336 = .ok (.aload_n 0, 1) := by decide +kernel
theorem dL_law_337 : decode cL_law 337 = .ok (.iload 4, 2) := by decide +kernel
theorem dL_law_339 : decode cL_law 339 = .ok (.iconst 1, 1) := by decide +kernel
theorem dL_law_340 : decode cL_law 340 = .ok (.iadd, 1) := by decide +kernel
theorem dL_law_341 : decode cL_law 341 = .ok (.iaload, 1) := by decide +kernel
theorem dL_law_342 : decode cL_law 342 = .ok (.aload_n 0, 1) := by decide +kernel
theorem dL_law_343 : decode cL_law 343 = .ok (.iload 4, 2) := by decide +kernel
theorem dL_law_345 : decode cL_law 345 = .ok (.iconst 2, 1) := by decide +kernel
theorem dL_law_346 : decode cL_law 346 = .ok (.iadd, 1) := by decide +kernel
theorem dL_law_347 : decode cL_law 347 = .ok (.iaload, 1) := by decide +kernel
theorem dL_law_348 : decode cL_law 348 = .ok (.aload_n 0, 1) := by decide +kernel
theorem dL_law_349 : decode cL_law 349 = .ok (.iload 4, 2) := by decide +kernel
theorem dL_law_351 : decode cL_law 351 = .ok (.iconst 3, 1) := by decide +kernel
theorem dL_law_352 : decode cL_law 352 = .ok (.iadd, 1) := by decide +kernel
theorem dL_law_353 : decode cL_law 353 = .ok (.iaload, 1) := by decide +kernel
theorem dL_law_354 : decode cL_law 354 = .ok (.ifCond .eq 7, 3) := by decide +kernel
theorem dL_law_357 : decode cL_law 357 = .ok (.iconst 1, 1) := by decide +kernel
theorem dL_law_358 : decode cL_law 358 = .ok (.goto 4, 3) := by decide +kernel
theorem dL_law_361 : decode cL_law 361 = .ok (.iconst 0, 1) := by decide +kernel
theorem dL_law_362 : decode cL_law 362 = .ok (.invokevirtual 45, 3) := by decide +kernel
theorem dL_law_365 : decode cL_law 365 = .ok (.pop, 1) := by decide +kernel
theorem dL_law_366 : decode cL_law 366 = .ok (.goto 774, 3) := by decide +kernel
theorem dL_law_369 : decode cL_law 369 = .ok (.aload_n 1, 1) := by decide +kernel
theorem dL_law_370 : decode cL_law 370 = .ok (.aload_n 0, 1) := by decide +kernel
theorem dL_law_371 : decode cL_law 371 = .ok (.iload 4, 2) := by decide +kernel
theorem dL_law_373 : decode cL_law 373 = .ok (.iconst 1, 1) := by decide +kernel
theorem dL_law_374 : decode cL_law 374 = .ok (.iadd, 1) := by decide +kernel
theorem dL_law_375 : decode cL_law 375 = .ok (.iaload, 1) := by decide +kernel
theorem dL_law_376 : decode cL_law 376 = .ok (.aload_n 0, 1) := by decide +kernel
theorem dL_law_377 : decode cL_law 377 = .ok (.iload 4, 2) := by decide +kernel
theorem dL_law_379 : decode cL_law 379 = .ok (.iconst 2, 1) := by decide +kernel
theorem dL_law_380 : decode cL_law 380 = .ok (.iadd, 1) := by decide +kernel
theorem dL_law_381 : decode cL_law 381 = .ok (.iaload, 1) := by decide +kernel
theorem dL_law_382 : decode cL_law 382 = .ok (.invokevirtual 46, 3) := by decide +kernel
theorem dL_law_385 : decode cL_law 385 = .ok (.pop, 1) := by decide +kernel
theorem dL_law_386 : decode cL_law 386 = .ok (.aload_n 2, 1) := by decide +kernel
theorem dL_law_387 : decode cL_law 387 = .ok (.aload_n 0, 1) := by decide +kernel
theorem dL_law_388 : decode cL_law 388 = .ok (.iload 4, 2) := by decide +kernel
theorem dL_law_390 : decode cL_law 390 = .ok (.iconst 1, 1) := by decide +kernel
theorem dL_law_391 : decode cL_law 391 = .ok (.iadd, 1) := by decide +kernel
theorem dL_law_392 : decode cL_law 392 = .ok (.iaload, 1) := by decide +kernel
theorem dL_law_393 : decode cL_law 393 = .ok (.aload_n 0, 1) := by decide +kernel
theorem dL_law_394 : decode cL_law 394 = .ok (.iload 4, 2) := by decide +kernel
theorem dL_law_396 : decode cL_law 396 = .ok (.iconst 2, 1) := by decide +kernel
theorem dL_law_397 : decode cL_law 397 = .ok (.iadd, 1) := by decide +kernel
theorem dL_law_398 : decode cL_law 398 = .ok (.iaload, 1) := by decide +kernel
theorem dL_law_399 : decode cL_law 399 = .ok (.invokevirtual 50, 3) := by decide +kernel
theorem dL_law_402 : decode cL_law 402 = .ok (.pop, 1) := by decide +kernel
theorem dL_law_403 : decode cL_law 403 = .ok (.goto 737, 3) := by decide +kernel
theorem dL_law_406 : decode cL_law 406 = .ok (.aload_n 1, 1) := by decide +kernel
theorem dL_law_407 : decode cL_law 407 = .ok (.aload_n 0, 1) := by decide +kernel
theorem dL_law_408 : decode cL_law 408 = .ok (.iload 4, 2) := by decide +kernel
theorem dL_law_410 : decode cL_law 410 = .ok (.iconst 1, 1) := by decide +kernel
theorem dL_law_411 : decode cL_law 411 = .ok (.iadd, 1) := by decide +kernel
theorem dL_law_412 : decode cL_law 412 = .ok (.iaload, 1) := by decide +kernel
theorem dL_law_413 : decode cL_law 413 = .ok (.aload_n 0, 1) := by decide +kernel
theorem dL_law_414 : decode cL_law 414 = .ok (.iload 4, 2) := by decide +kernel
theorem dL_law_416 : decode cL_law 416 = .ok (.iconst 2, 1) := by decide +kernel
theorem dL_law_417 : decode cL_law 417 = .ok (.iadd, 1) := by decide +kernel
theorem dL_law_418 : decode cL_law 418 = .ok (.iaload, 1) := by decide +kernel
theorem dL_law_419 : decode cL_law 419 = .ok (.invokevirtual 51, 3) := by decide +kernel
theorem dL_law_422 : decode cL_law 422 = .ok (.pop, 1) := by decide +kernel
theorem dL_law_423 : decode cL_law 423 = .ok (.aload_n 2, 1) := by decide +kernel
theorem dL_law_424 : decode cL_law 424 = .ok (.aload_n 0, 1) := by decide +kernel
theorem dL_law_425 : decode cL_law 425 = .ok (.iload 4, 2) := by decide +kernel
theorem dL_law_427 : decode cL_law 427 = .ok (.iconst 1, 1) := by decide +kernel
theorem dL_law_428 : decode cL_law 428 = .ok (.iadd, 1) := by decide +kernel
theorem dL_law_429 : decode cL_law 429 = .ok (.iaload, 1) := by decide +kernel
theorem dL_law_430 : decode cL_law 430 = .ok (.aload_n 0, 1) := by decide +kernel
theorem dL_law_431 : decode cL_law 431 = .ok (.iload 4, 2) := by decide +kernel
theorem dL_law_433 : decode cL_law 433 = .ok (.iconst 2, 1) := by decide +kernel
theorem dL_law_434 : decode cL_law 434 = .ok (.iadd, 1) := by decide +kernel
theorem dL_law_435 : decode cL_law 435 = .ok (.iaload, 1) := by decide +kernel
theorem dL_law_436 : decode cL_law 436 = .ok (.invokevirtual 54, 3) := by decide +kernel
theorem dL_law_439 : decode cL_law 439 = .ok (.pop, 1) := by decide +kernel
theorem dL_law_440 : decode cL_law 440 = .ok (.goto 700, 3) := by decide +kernel
theorem dL_law_443 : decode cL_law 443 = .ok (.aload_n 1, 1) := by decide +kernel
theorem dL_law_444 : decode cL_law 444 = .ok (.aload_n 0, 1) := by decide +kernel
theorem dL_law_445 : decode cL_law 445 = .ok (.iload 4, 2) := by decide +kernel
theorem dL_law_447 : decode cL_law 447 = .ok (.iconst 1, 1) := by decide +kernel
theorem dL_law_448 : decode cL_law 448 = .ok (.iadd, 1) := by decide +kernel
theorem dL_law_449 : decode cL_law 449 = .ok (.iaload, 1) := by decide +kernel
theorem dL_law_450 : decode cL_law 450 = .ok (.aload_n 0, 1) := by decide +kernel
theorem dL_law_451 : decode cL_law 451 = .ok (.iload 4, 2) := by decide +kernel
theorem dL_law_453 : decode cL_law 453 = .ok (.iconst 2, 1) := by decide +kernel
theorem dL_law_454 : decode cL_law 454 = .ok (.iadd, 1) := by decide +kernel
theorem dL_law_455 : decode cL_law 455 = .ok (.iaload, 1) := by decide +kernel
theorem dL_law_456 : decode cL_law 456 = .ok (.invokevirtual 55, 3) := by decide +kernel
theorem dL_law_459 : decode cL_law 459 = .ok (.pop, 1) := by decide +kernel
theorem dL_law_460 : decode cL_law 460 = .ok (.aload_n 2, 1) := by decide +kernel
theorem dL_law_461 : decode cL_law 461 = .ok (.aload_n 0, 1) := by decide +kernel
theorem dL_law_462 : decode cL_law 462 = .ok (.iload 4, 2) := by decide +kernel
theorem dL_law_464 : decode cL_law 464 = .ok (.iconst 1, 1) := by decide +kernel
theorem dL_law_465 : decode cL_law 465 = .ok (.iadd, 1) := by decide +kernel
theorem dL_law_466 : decode cL_law 466 = .ok (.iaload, 1) := by decide +kernel
theorem dL_law_467 : decode cL_law 467 = .ok (.aload_n 0, 1) := by decide +kernel
theorem dL_law_468 : decode cL_law 468 = .ok (.iload 4, 2) := by decide +kernel
theorem dL_law_470 : decode cL_law 470 = .ok (.iconst 2, 1) := by decide +kernel
theorem dL_law_471 : decode cL_law 471 = .ok (.iadd, 1) := by decide +kernel
theorem dL_law_472 : decode cL_law 472 = .ok (.iaload, 1) := by decide +kernel
theorem dL_law_473 : decode cL_law 473 = .ok (.invokevirtual 58, 3) := by decide +kernel
theorem dL_law_476 : decode cL_law 476 = .ok (.pop, 1) := by decide +kernel
theorem dL_law_477 : decode cL_law 477 = .ok (.goto 663, 3) := by decide +kernel
theorem dL_law_480 : decode cL_law 480 = .ok (.aload_n 1, 1) := by decide +kernel
theorem dL_law_481 : decode cL_law 481 = .ok (.aload_n 0, 1) := by decide +kernel
theorem dL_law_482 : decode cL_law 482 = .ok (.iload 4, 2) := by decide +kernel
theorem dL_law_484 : decode cL_law 484 = .ok (.iconst 1, 1) := by decide +kernel
theorem dL_law_485 : decode cL_law 485 = .ok (.iadd, 1) := by decide +kernel
theorem dL_law_486 : decode cL_law 486 = .ok (.iaload, 1) := by decide +kernel
theorem dL_law_487 : decode cL_law 487 = .ok (.aload_n 0, 1) := by decide +kernel
theorem dL_law_488 : decode cL_law 488 = .ok (.iload 4, 2) := by decide +kernel
theorem dL_law_490 : decode cL_law 490 = .ok (.iconst 2, 1) := by decide +kernel
theorem dL_law_491 : decode cL_law 491 = .ok (.iadd, 1) := by decide +kernel
theorem dL_law_492 : decode cL_law 492 = .ok (.iaload, 1) := by decide +kernel
theorem dL_law_493 : decode cL_law 493 = .ok (.invokevirtual 59, 3) := by decide +kernel
theorem dL_law_496 : decode cL_law 496 = .ok (.pop, 1) := by decide +kernel
theorem dL_law_497 : decode cL_law 497 = .ok (.aload_n 2, 1) := by decide +kernel
theorem dL_law_498 : decode cL_law 498 = .ok (.aload_n 0, 1) := by decide +kernel
theorem dL_law_499 : decode cL_law 499 = .ok (.iload 4, 2) := by decide +kernel
theorem dL_law_501 : decode cL_law 501 = .ok (.iconst 1, 1) := by decide +kernel
theorem dL_law_502 : decode cL_law 502 = .ok (.iadd, 1) := by decide +kernel
theorem dL_law_503 : decode cL_law 503 = .ok (.iaload, 1) := by decide +kernel
theorem dL_law_504 : decode cL_law 504 = .ok (.aload_n 0, 1) := by decide +kernel
theorem dL_law_505 : decode cL_law 505 = .ok (.iload 4, 2) := by decide +kernel
theorem dL_law_507 : decode cL_law 507 = .ok (.iconst 2, 1) := by decide +kernel
theorem dL_law_508 : decode cL_law 508 = .ok (.iadd, 1) := by decide +kernel
theorem dL_law_509 : decode cL_law 509 = .ok (.iaload, 1) := by decide +kernel
theorem dL_law_510 : decode cL_law 510 = .ok (.invokevirtual 62, 3) := by decide +kernel
theorem dL_law_513 : decode cL_law 513 = .ok (.pop, 1) := by decide +kernel
theorem dL_law_514 : decode cL_law 514 = .ok (.goto 626, 3) := by decide +kernel
theorem dL_law_517 : decode cL_law 517 = .ok (.aload_n 1, 1) := by decide +kernel
theorem dL_law_518 : decode cL_law 518 = .ok (.aload_n 0, 1) := by decide +kernel
theorem dL_law_519 : decode cL_law 519 = .ok (.iload 4, 2) := by decide +kernel
theorem dL_law_521 : decode cL_law 521 = .ok (.iconst 1, 1) := by decide +kernel
theorem dL_law_522 : decode cL_law 522 = .ok (.iadd, 1) := by decide +kernel
theorem dL_law_523 : decode cL_law 523 = .ok (.iaload, 1) := by decide +kernel
theorem dL_law_524 : decode cL_law 524 = .ok (.aload_n 0, 1) := by decide +kernel
theorem dL_law_525 : decode cL_law 525 = .ok (.iload 4, 2) := by decide +kernel
theorem dL_law_527 : decode cL_law 527 = .ok (.iconst 2, 1) := by decide +kernel
theorem dL_law_528 : decode cL_law 528 = .ok (.iadd, 1) := by decide +kernel
theorem dL_law_529 : decode cL_law 529 = .ok (.iaload, 1) := by decide +kernel
theorem dL_law_530 : decode cL_law 530 = .ok (.invokevirtual 63, 3) := by decide +kernel
theorem dL_law_533 : decode cL_law 533 = .ok (.pop, 1) := by decide +kernel
theorem dL_law_534 : decode cL_law 534 = .ok (.aload_n 2, 1) := by decide +kernel
theorem dL_law_535 : decode cL_law 535 = .ok (.aload_n 0, 1) := by decide +kernel
theorem dL_law_536 : decode cL_law 536 = .ok (.iload 4, 2) := by decide +kernel
theorem dL_law_538 : decode cL_law 538 = .ok (.iconst 1, 1) := by decide +kernel
theorem dL_law_539 : decode cL_law 539 = .ok (.iadd, 1) := by decide +kernel
theorem dL_law_540 : decode cL_law 540 = .ok (.iaload, 1) := by decide +kernel
theorem dL_law_541 : decode cL_law 541 = .ok (.aload_n 0, 1) := by decide +kernel
theorem dL_law_542 : decode cL_law 542 = .ok (.iload 4, 2) := by decide +kernel
theorem dL_law_544 : decode cL_law 544 = .ok (.iconst 2, 1) := by decide +kernel
theorem dL_law_545 : decode cL_law 545 = .ok (.iadd, 1) := by decide +kernel
theorem dL_law_546 : decode cL_law 546 = .ok (.iaload, 1) := by decide +kernel
theorem dL_law_547 : decode cL_law 547 = .ok (.invokevirtual 66, 3) := by decide +kernel
theorem dL_law_550 : decode cL_law 550 = .ok (.pop, 1) := by decide +kernel
theorem dL_law_551 : decode cL_law 551 = .ok (.goto 589, 3) := by decide +kernel
theorem dL_law_554 : decode cL_law 554 = .ok (.aload_n 1, 1) := by decide +kernel
theorem dL_law_555 : decode cL_law 555 = .ok (.aload_n 0, 1) := by decide +kernel
theorem dL_law_556 : decode cL_law 556 = .ok (.iload 4, 2) := by decide +kernel
theorem dL_law_558 : decode cL_law 558 = .ok (.iconst 1, 1) := by decide +kernel
theorem dL_law_559 : decode cL_law 559 = .ok (.iadd, 1) := by decide +kernel
theorem dL_law_560 : decode cL_law 560 = .ok (.iaload, 1) := by decide +kernel
theorem dL_law_561 : decode cL_law 561 = .ok (.aload_n 0, 1) := by decide +kernel
theorem dL_law_562 : decode cL_law 562 = .ok (.iload 4, 2) := by decide +kernel
theorem dL_law_564 : decode cL_law 564 = .ok (.iconst 2, 1) := by decide +kernel
theorem dL_law_565 : decode cL_law 565 = .ok (.iadd, 1) := by decide +kernel
theorem dL_law_566 : decode cL_law 566 = .ok (.iaload, 1) := by decide +kernel
theorem dL_law_567 : decode cL_law 567 = .ok (.invokevirtual 67, 3) := by decide +kernel
theorem dL_law_570 : decode cL_law 570 = .ok (.pop2, 1) := by decide +kernel
theorem dL_law_571 : decode cL_law 571 = .ok (.aload_n 2, 1) := by decide +kernel
theorem dL_law_572 : decode cL_law 572 = .ok (.aload_n 0, 1) := by decide +kernel
theorem dL_law_573 : decode cL_law 573 = .ok (.iload 4, 2) := by decide +kernel
theorem dL_law_575 : decode cL_law 575 = .ok (.iconst 1, 1) := by decide +kernel
theorem dL_law_576 : decode cL_law 576 = .ok (.iadd, 1) := by decide +kernel
theorem dL_law_577 : decode cL_law 577 = .ok (.iaload, 1) := by decide +kernel
theorem dL_law_578 : decode cL_law 578 = .ok (.aload_n 0, 1) := by decide +kernel
theorem dL_law_579 : decode cL_law 579 = .ok (.iload 4, 2) := by decide +kernel
theorem dL_law_581 : decode cL_law 581 = .ok (.iconst 2, 1) := by decide +kernel
theorem dL_law_582 : decode cL_law 582 = .ok (.iadd, 1) := by decide +kernel
theorem dL_law_583 : decode cL_law 583 = .ok (.iaload, 1) := by decide +kernel
theorem dL_law_584 : decode cL_law 584 = .ok (.invokevirtual 71, 3) := by decide +kernel
theorem dL_law_587 : decode cL_law 587 = .ok (.pop2, 1) := by decide +kernel
theorem dL_law_588 : decode cL_law 588 = .ok (.goto 552, 3) := by decide +kernel
theorem dL_law_591 : decode cL_law 591 = .ok (.aload_n 1, 1) := by decide +kernel
theorem dL_law_592 : decode cL_law 592 = .ok (.aload_n 0, 1) := by decide +kernel
theorem dL_law_593 : decode cL_law 593 = .ok (.iload 4, 2) := by decide +kernel
theorem dL_law_595 : decode cL_law 595 = .ok (.iconst 1, 1) := by decide +kernel
theorem dL_law_596 : decode cL_law 596 = .ok (.iadd, 1) := by decide +kernel
theorem dL_law_597 : decode cL_law 597 = .ok (.iaload, 1) := by decide +kernel
theorem dL_law_598 : decode cL_law 598 = .ok (.aload_n 0, 1) := by decide +kernel
theorem dL_law_599 : decode cL_law 599 = .ok (.iload 4, 2) := by decide +kernel
theorem dL_law_601 : decode cL_law 601 = .ok (.iconst 2, 1) := by decide +kernel
theorem dL_law_602 : decode cL_law 602 = .ok (.iadd, 1) := by decide +kernel
theorem dL_law_603 : decode cL_law 603 = .ok (.iaload, 1) := by decide +kernel
theorem dL_law_604 : decode cL_law 604 = .ok (.invokevirtual 72, 3) := by decide +kernel
theorem dL_law_607 : decode cL_law 607 = .ok (.pop2, 1) := by decide +kernel
theorem dL_law_608 : decode cL_law 608 = .ok (.aload_n 2, 1) := by decide +kernel
theorem dL_law_609 : decode cL_law 609 = .ok (.aload_n 0, 1) := by decide +kernel
theorem dL_law_610 : decode cL_law 610 = .ok (.iload 4, 2) := by decide +kernel
theorem dL_law_612 : decode cL_law 612 = .ok (.iconst 1, 1) := by decide +kernel
theorem dL_law_613 : decode cL_law 613 = .ok (.iadd, 1) := by decide +kernel
theorem dL_law_614 : decode cL_law 614 = .ok (.iaload, 1) := by decide +kernel
theorem dL_law_615 : decode cL_law 615 = .ok (.aload_n 0, 1) := by decide +kernel
theorem dL_law_616 : decode cL_law 616 = .ok (.iload 4, 2) := by decide +kernel
theorem dL_law_618 : decode cL_law 618 = .ok (.iconst 2, 1) := by decide +kernel
theorem dL_law_619 : decode cL_law 619 = .ok (.iadd, 1) := by decide +kernel
theorem dL_law_620 : decode cL_law 620 = .ok (.iaload, 1) := by decide +kernel
theorem dL_law_621 : decode cL_law 621 = .ok (.invokevirtual 75, 3) := by decide +kernel
theorem dL_law_624 : decode cL_law 624 = .ok (.pop2, 1) := by decide +kernel
theorem dL_law_625 : decode cL_law 625 = .ok (.goto 515, 3) := by decide +kernel
theorem dL_law_628 : decode cL_law 628 = .ok (.aload_n 1, 1) := by decide +kernel
theorem dL_law_629 : decode cL_law 629 = .ok (.aload_n 0, 1) := by decide +kernel
theorem dL_law_630 : decode cL_law 630 = .ok (.iload 4, 2) := by decide +kernel
theorem dL_law_632 : decode cL_law 632 = .ok (.iconst 1, 1) := by decide +kernel
theorem dL_law_633 : decode cL_law 633 = .ok (.iadd, 1) := by decide +kernel
theorem dL_law_634 : decode cL_law 634 = .ok (.iaload, 1) := by decide +kernel
theorem dL_law_635 : decode cL_law 635 = .ok (.invokevirtual 76, 3) := by decide +kernel
theorem dL_law_638 : decode cL_law 638 = .ok (.pop, 1) := by decide +kernel
theorem dL_law_639 : decode cL_law 639 = .ok (.aload_n 2, 1) := by decide +kernel
theorem dL_law_640 : decode cL_law 640 = .ok (.aload_n 0, 1) := by decide +kernel
theorem dL_law_641 : decode cL_law 641 = .ok (.iload 4, 2) := by decide +kernel
theorem dL_law_643 : decode cL_law 643 = .ok (.iconst 1, 1) := by decide +kernel
theorem dL_law_644 : decode cL_law 644 = .ok (.iadd, 1) := by decide +kernel
theorem dL_law_645 : decode cL_law 645 = .ok (.iaload, 1) := by decide +kernel
theorem dL_law_646 : decode cL_law 646 = .ok (.invokevirtual 79, 3) := by decide +kernel
theorem dL_law_649 : decode cL_law 649 = .ok (.pop, 1) := by decide +kernel
theorem dL_law_650 : decode cL_law 650 = .ok (.goto 490, 3) := by decide +kernel
theorem dL_law_653 : decode cL_law 653 = .ok (.aload_n 1, 1) := by decide +kernel
theorem dL_law_654 : decode cL_law 654 = .ok (.invokevirtual 80, 3) := by decide +kernel
theorem dL_law_657 : decode cL_law 657 = .ok (.aload_n 2, 1) := by decide +kernel
theorem dL_law_658 : decode cL_law 658 = .ok (.invokevirtual 84, 3) := by decide +kernel
theorem dL_law_661 : decode cL_law 661 = .ok (.if_icmp .eq 479, 3) := by decide +kernel
theorem dL_law_664 : decode cL_law 664 = .ok (.iconst 0, 1) := by decide +kernel
theorem dL_law_665 : decode cL_law 665 = .ok (.ireturn, 1) := by decide +kernel
theorem dL_law_666 : decode cL_law 666 = .ok (.aload_n 1, 1) := by decide +kernel
theorem dL_law_667 : decode cL_law 667 = .ok (.aload_n 0, 1) := by decide +kernel
theorem dL_law_668 : decode cL_law 668 = .ok (.iload 4, 2) := by decide +kernel
theorem dL_law_670 : decode cL_law 670 = .ok (.iconst 1, 1) := by decide +kernel
theorem dL_law_671 : decode cL_law 671 = .ok (.iadd, 1) := by decide +kernel
theorem dL_law_672 : decode cL_law 672 = .ok (.iaload, 1) := by decide +kernel
theorem dL_law_673 : decode cL_law 673 = .ok (.aload_n 0, 1) := by decide +kernel
theorem dL_law_674 : decode cL_law 674 = .ok (.iload 4, 2) := by decide +kernel
theorem dL_law_676 : decode cL_law 676 = .ok (.iconst 2, 1) := by decide +kernel
theorem dL_law_677 : decode cL_law 677 = .ok (.iadd, 1) := by decide +kernel
theorem dL_law_678 : decode cL_law 678 = .ok (.iaload, 1) := by decide +kernel
theorem dL_law_679 : decode cL_law 679 = .ok (.invokevirtual 85, 3) := by decide +kernel
theorem dL_law_682 : decode cL_law 682 = .ok (.pop, 1) := by decide +kernel
theorem dL_law_683 : decode cL_law 683 = .ok (.aload_n 2, 1) := by decide +kernel
theorem dL_law_684 : decode cL_law 684 = .ok (.aload_n 0, 1) := by decide +kernel
theorem dL_law_685 : decode cL_law 685 = .ok (.iload 4, 2) := by decide +kernel
theorem dL_law_687 : decode cL_law 687 = .ok (.iconst 1, 1) := by decide +kernel
theorem dL_law_688 : decode cL_law 688 = .ok (.iadd, 1) := by decide +kernel
theorem dL_law_689 : decode cL_law 689 = .ok (.iaload, 1) := by decide +kernel
theorem dL_law_690 : decode cL_law 690 = .ok (.aload_n 0, 1) := by decide +kernel
theorem dL_law_691 : decode cL_law 691 = .ok (.iload 4, 2) := by decide +kernel
theorem dL_law_693 : decode cL_law 693 = .ok (.iconst 2, 1) := by decide +kernel
theorem dL_law_694 : decode cL_law 694 = .ok (.iadd, 1) := by decide +kernel
theorem dL_law_695 : decode cL_law 695 = .ok (.iaload, 1) := by decide +kernel
theorem dL_law_696 : decode cL_law 696 = .ok (.invokevirtual 88, 3) := by decide +kernel
theorem dL_law_699 : decode cL_law 699 = .ok (.pop, 1) := by decide +kernel
theorem dL_law_700 : decode cL_law 700 = .ok (.goto 440, 3) := by decide +kernel
theorem dL_law_703 : decode cL_law 703 = .ok (.aload_n 1, 1) := by decide +kernel
theorem dL_law_704 : decode cL_law 704 = .ok (.aload_n 0, 1) := by decide +kernel
theorem dL_law_705 : decode cL_law 705 = .ok (.iload 4, 2) := by decide +kernel
theorem dL_law_707 : decode cL_law 707 = .ok (.iconst 1, 1) := by decide +kernel
theorem dL_law_708 : decode cL_law 708 = .ok (.iadd, 1) := by decide +kernel
theorem dL_law_709 : decode cL_law 709 = .ok (.iaload, 1) := by decide +kernel
theorem dL_law_710 : decode cL_law 710 = .ok (.aload_n 0, 1) := by decide +kernel
theorem dL_law_711 : decode cL_law 711 = .ok (.iload 4, 2) := by decide +kernel
theorem dL_law_713 : decode cL_law 713 = .ok (.iconst 2, 1) := by decide +kernel
theorem dL_law_714 : decode cL_law 714 = .ok (.iadd, 1) := by decide +kernel
theorem dL_law_715 : decode cL_law 715 = .ok (.iaload, 1) := by decide +kernel
theorem dL_law_716 : decode cL_law 716 = .ok (.invokevirtual 89, 3) := by decide +kernel
theorem dL_law_719 : decode cL_law 719 = .ok (.pop2, 1) := by decide +kernel
theorem dL_law_720 : decode cL_law 720 = .ok (.aload_n 2, 1) := by decide +kernel
theorem dL_law_721 : decode cL_law 721 = .ok (.aload_n 0, 1) := by decide +kernel
theorem dL_law_722 : decode cL_law 722 = .ok (.iload 4, 2) := by decide +kernel
theorem dL_law_724 : decode cL_law 724 = .ok (.iconst 1, 1) := by decide +kernel
theorem dL_law_725 : decode cL_law 725 = .ok (.iadd, 1) := by decide +kernel
theorem dL_law_726 : decode cL_law 726 = .ok (.iaload, 1) := by decide +kernel
theorem dL_law_727 : decode cL_law 727 = .ok (.aload_n 0, 1) := by decide +kernel
theorem dL_law_728 : decode cL_law 728 = .ok (.iload 4, 2) := by decide +kernel
theorem dL_law_730 : decode cL_law 730 = .ok (.iconst 2, 1) := by decide +kernel
theorem dL_law_731 : decode cL_law 731 = .ok (.iadd, 1) := by decide +kernel
theorem dL_law_732 : decode cL_law 732 = .ok (.iaload, 1) := by decide +kernel
theorem dL_law_733 : decode cL_law 733 = .ok (.invokevirtual 92, 3) := by decide +kernel
theorem dL_law_736 : decode cL_law 736 = .ok (.pop2, 1) := by decide +kernel
theorem dL_law_737 : decode cL_law 737 = .ok (.goto 403, 3) := by decide +kernel
theorem dL_law_740 : decode cL_law 740 = .ok (.aload_n 1, 1) := by decide +kernel
theorem dL_law_741 : decode cL_law 741 = .ok (.aload_n 0, 1) := by decide +kernel
theorem dL_law_742 : decode cL_law 742 = .ok (.iload 4, 2) := by decide +kernel
theorem dL_law_744 : decode cL_law 744 = .ok (.iconst 1, 1) := by decide +kernel
theorem dL_law_745 : decode cL_law 745 = .ok (.iadd, 1) := by decide +kernel
theorem dL_law_746 : decode cL_law 746 = .ok (.iaload, 1) := by decide +kernel
theorem dL_law_747 : decode cL_law 747 = .ok (.aload_n 0, 1) := by decide +kernel
theorem dL_law_748 : decode cL_law 748 = .ok (.iload 4, 2) := by decide +kernel
theorem dL_law_750 : decode cL_law 750 = .ok (.iconst 2, 1) := by decide +kernel
theorem dL_law_751 : decode cL_law 751 = .ok (.iadd, 1) := by decide +kernel
theorem dL_law_752 : decode cL_law 752 = .ok (.iaload, 1) := by decide +kernel
theorem dL_law_753 : decode cL_law 753 = .ok (.aload_n 0, 1) := by decide +kernel
theorem dL_law_754 : decode cL_law 754 = .ok (.iload 4, 2) := by decide +kernel
theorem dL_law_756 : decode cL_law 756 = .ok (.iconst 3, 1) := by decide +kernel
theorem dL_law_757 : decode cL_law 757 = .ok (.iadd, 1) := by decide +kernel
theorem dL_law_758 : decode cL_law 758 = .ok (.iaload, 1) := by decide +kernel
theorem dL_law_759 : decode cL_law 759 = .ok (.invokevirtual 93, 3) := by decide +kernel
theorem dL_law_762 : decode cL_law 762 = .ok (.pop, 1) := by decide +kernel
theorem dL_law_763 : decode cL_law 763 = .ok (.aload_n 2, 1) := by decide +kernel
theorem dL_law_764 : decode cL_law 764 = .ok (.aload_n 0, 1) := by decide +kernel
theorem dL_law_765 : decode cL_law 765 = .ok (.iload 4, 2) := by decide +kernel
theorem dL_law_767 : decode cL_law 767 = .ok (.iconst 1, 1) := by decide +kernel
theorem dL_law_768 : decode cL_law 768 = .ok (.iadd, 1) := by decide +kernel
theorem dL_law_769 : decode cL_law 769 = .ok (.iaload, 1) := by decide +kernel
theorem dL_law_770 : decode cL_law 770 = .ok (.aload_n 0, 1) := by decide +kernel
theorem dL_law_771 : decode cL_law 771 = .ok (.iload 4, 2) := by decide +kernel
theorem dL_law_773 : decode cL_law 773 = .ok (.iconst 2, 1) := by decide +kernel
theorem dL_law_774 : decode cL_law 774 = .ok (.iadd, 1) := by decide +kernel
theorem dL_law_775 : decode cL_law 775 = .ok (.iaload, 1) := by decide +kernel
theorem dL_law_776 : decode cL_law 776 = .ok (.aload_n 0, 1) := by decide +kernel
theorem dL_law_777 : decode cL_law 777 = .ok (.iload 4, 2) := by decide +kernel
theorem dL_law_779 : decode cL_law 779 = .ok (.iconst 3, 1) := by decide +kernel
theorem dL_law_780 : decode cL_law 780 = .ok (.iadd, 1) := by decide +kernel
theorem dL_law_781 : decode cL_law 781 = .ok (.iaload, 1) := by decide +kernel
theorem dL_law_782 : decode cL_law 782 = .ok (.invokevirtual 96, 3) := by decide +kernel
theorem dL_law_785 : decode cL_law 785 = .ok (.pop, 1) := by decide +kernel
theorem dL_law_786 : decode cL_law 786 = .ok (.goto 354, 3) := by decide +kernel
theorem dL_law_789 : decode cL_law 789 = .ok (.aload_n 1, 1) := by decide +kernel
theorem dL_law_790 : decode cL_law 790 = .ok (.aload_n 0, 1) := by decide +kernel
theorem dL_law_791 : decode cL_law 791 = .ok (.iload 4, 2) := by decide +kernel
theorem dL_law_793 : decode cL_law 793 = .ok (.iconst 1, 1) := by decide +kernel
theorem dL_law_794 : decode cL_law 794 = .ok (.iadd, 1) := by decide +kernel
theorem dL_law_795 : decode cL_law 795 = .ok (.iaload, 1) := by decide +kernel
theorem dL_law_796 : decode cL_law 796 = .ok (.aload_n 0, 1) := by decide +kernel
theorem dL_law_797 : decode cL_law 797 = .ok (.iload 4, 2) := by decide +kernel
theorem dL_law_799 : decode cL_law 799 = .ok (.iconst 2, 1) := by decide +kernel
theorem dL_law_800 : decode cL_law 800 = .ok (.iadd, 1) := by decide +kernel
theorem dL_law_801 : decode cL_law 801 = .ok (.iaload, 1) := by decide +kernel
theorem dL_law_802 : decode cL_law 802 = .ok (.aload_n 0, 1) := by decide +kernel
theorem dL_law_803 : decode cL_law 803 = .ok (.iload 4, 2) := by decide +kernel
theorem dL_law_805 : decode cL_law 805 = .ok (.iconst 3, 1) := by decide +kernel
theorem dL_law_806 : decode cL_law 806 = .ok (.iadd, 1) := by decide +kernel
theorem dL_law_807 : decode cL_law 807 = .ok (.iaload, 1) := by decide +kernel
theorem dL_law_808 : decode cL_law 808 = .ok (.invokevirtual 97, 3) := by decide +kernel
theorem dL_law_811 : decode cL_law 811 = .ok (.pop, 1) := by decide +kernel
theorem dL_law_812 : decode cL_law 812 = .ok (.aload_n 2, 1) := by decide +kernel
theorem dL_law_813 : decode cL_law 813 = .ok (.aload_n 0, 1) := by decide +kernel
theorem dL_law_814 : decode cL_law 814 = .ok (.iload 4, 2) := by decide +kernel
theorem dL_law_816 : decode cL_law 816 = .ok (.iconst 1, 1) := by decide +kernel
theorem dL_law_817 : decode cL_law 817 = .ok (.iadd, 1) := by decide +kernel
theorem dL_law_818 : decode cL_law 818 = .ok (.iaload, 1) := by decide +kernel
theorem dL_law_819 : decode cL_law 819 = .ok (.aload_n 0, 1) := by decide +kernel
theorem dL_law_820 : decode cL_law 820 = .ok (.iload 4, 2) := by decide +kernel
theorem dL_law_822 : decode cL_law 822 = .ok (.iconst 2, 1) := by decide +kernel
theorem dL_law_823 : decode cL_law 823 = .ok (.iadd, 1) := by decide +kernel
theorem dL_law_824 : decode cL_law 824 = .ok (.iaload, 1) := by decide +kernel
theorem dL_law_825 : decode cL_law 825 = .ok (.aload_n 0, 1) := by decide +kernel
theorem dL_law_826 : decode cL_law 826 = .ok (.iload 4, 2) := by decide +kernel
theorem dL_law_828 : decode cL_law 828 = .ok (.iconst 3, 1) := by decide +kernel
theorem dL_law_829 : decode cL_law 829 = .ok (.iadd, 1) := by decide +kernel
theorem dL_law_830 : decode cL_law 830 = .ok (.iaload, 1) := by decide +kernel
theorem dL_law_831 : decode cL_law 831 = .ok (.invokevirtual 100, 3) := by decide +kernel
theorem dL_law_834 : decode cL_law 834 = .ok (.pop, 1) := by decide +kernel
theorem dL_law_835 : decode cL_law 835 = .ok (.goto 305, 3) := by decide +kernel
theorem dL_law_838 : decode cL_law 838 = .ok (.aload_n 1, 1) := by decide +kernel
theorem dL_law_839 : decode cL_law 839 = .ok (.aload_n 0, 1) := by decide +kernel
theorem dL_law_840 : decode cL_law 840 = .ok (.iload 4, 2) := by decide +kernel
theorem dL_law_842 : decode cL_law 842 = .ok (.iconst 1, 1) := by decide +kernel
theorem dL_law_843 : decode cL_law 843 = .ok (.iadd, 1) := by decide +kernel
theorem dL_law_844 : decode cL_law 844 = .ok (.iaload, 1) := by decide +kernel
theorem dL_law_845 : decode cL_law 845 = .ok (.aload_n 0, 1) := by decide +kernel
theorem dL_law_846 : decode cL_law 846 = .ok (.iload 4, 2) := by decide +kernel
theorem dL_law_848 : decode cL_law 848 = .ok (.iconst 2, 1) := by decide +kernel
theorem dL_law_849 : decode cL_law 849 = .ok (.iadd, 1) := by decide +kernel
theorem dL_law_850 : decode cL_law 850 = .ok (.iaload, 1) := by decide +kernel
theorem dL_law_851 : decode cL_law 851 = .ok (.aload_n 0, 1) := by decide +kernel
theorem dL_law_852 : decode cL_law 852 = .ok (.iload 4, 2) := by decide +kernel
theorem dL_law_854 : decode cL_law 854 = .ok (.iconst 3, 1) := by decide +kernel
theorem dL_law_855 : decode cL_law 855 = .ok (.iadd, 1) := by decide +kernel
theorem dL_law_856 : decode cL_law 856 = .ok (.iaload, 1) := by decide +kernel
theorem dL_law_857 : decode cL_law 857 = .ok (.invokevirtual 101, 3) := by decide +kernel
theorem dL_law_860 : decode cL_law 860 = .ok (.pop, 1) := by decide +kernel
theorem dL_law_861 : decode cL_law 861 = .ok (.aload_n 2, 1) := by decide +kernel
theorem dL_law_862 : decode cL_law 862 = .ok (.aload_n 0, 1) := by decide +kernel
theorem dL_law_863 : decode cL_law 863 = .ok (.iload 4, 2) := by decide +kernel
theorem dL_law_865 : decode cL_law 865 = .ok (.iconst 1, 1) := by decide +kernel
theorem dL_law_866 : decode cL_law 866 = .ok (.iadd, 1) := by decide +kernel
theorem dL_law_867 : decode cL_law 867 = .ok (.iaload, 1) := by decide +kernel
theorem dL_law_868 : decode cL_law 868 = .ok (.aload_n 0, 1) := by decide +kernel
theorem dL_law_869 : decode cL_law 869 = .ok (.iload 4, 2) := by decide +kernel
theorem dL_law_871 : decode cL_law 871 = .ok (.iconst 2, 1) := by decide +kernel
theorem dL_law_872 : decode cL_law 872 = .ok (.iadd, 1) := by decide +kernel
theorem dL_law_873 : decode cL_law 873 = .ok (.iaload, 1) := by decide +kernel
theorem dL_law_874 : decode cL_law 874 = .ok (.aload_n 0, 1) := by decide +kernel
theorem dL_law_875 : decode cL_law 875 = .ok (.iload 4, 2) := by decide +kernel
theorem dL_law_877 : decode cL_law 877 = .ok (.iconst 3, 1) := by decide +kernel
theorem dL_law_878 : decode cL_law 878 = .ok (.iadd, 1) := by decide +kernel
theorem dL_law_879 : decode cL_law 879 = .ok (.iaload, 1) := by decide +kernel
theorem dL_law_880 : decode cL_law 880 = .ok (.invokevirtual 104, 3) := by decide +kernel
theorem dL_law_883 : decode cL_law 883 = .ok (.pop, 1) := by decide +kernel
theorem dL_law_884 : decode cL_law 884 = .ok (.goto 256, 3) := by decide +kernel
theorem dL_law_887 : decode cL_law 887 = .ok (.aload_n 1, 1) := by decide +kernel
theorem dL_law_888 : decode cL_law 888 = .ok (.aload_n 0, 1) := by decide +kernel
theorem dL_law_889 : decode cL_law 889 = .ok (.iload 4, 2) := by decide +kernel
theorem dL_law_891 : decode cL_law 891 = .ok (.iconst 1, 1) := by decide +kernel
theorem dL_law_892 : decode cL_law 892 = .ok (.iadd, 1) := by decide +kernel
theorem dL_law_893 : decode cL_law 893 = .ok (.iaload, 1) := by decide +kernel
theorem dL_law_894 : decode cL_law 894 = .ok (.aload_n 0, 1) := by decide +kernel
theorem dL_law_895 : decode cL_law 895 = .ok (.iload 4, 2) := by decide +kernel
theorem dL_law_897 : decode cL_law 897 = .ok (.iconst 2, 1) := by decide +kernel
theorem dL_law_898 : decode cL_law 898 = .ok (.iadd, 1) := by decide +kernel
theorem dL_law_899 : decode cL_law 899 = .ok (.iaload, 1) := by decide +kernel
theorem dL_law_900 : decode cL_law 900 = .ok (.invokevirtual 105, 3) := by decide +kernel
theorem dL_law_903 : decode cL_law 903 = .ok (.pop, 1) := by decide +kernel
theorem dL_law_904 : decode cL_law 904 = .ok (.aload_n 2, 1) := by decide +kernel
theorem dL_law_905 : decode cL_law 905 = .ok (.aload_n 0, 1) := by decide +kernel
theorem dL_law_906 : decode cL_law 906 = .ok (.iload 4, 2) := by decide +kernel
theorem dL_law_908 : decode cL_law 908 = .ok (.iconst 1, 1) := by decide +kernel
theorem dL_law_909 : decode cL_law 909 = .ok (.iadd, 1) := by decide +kernel
theorem dL_law_910 : decode cL_law 910 = .ok (.iaload, 1) := by decide +kernel
theorem dL_law_911 : decode cL_law 911 = .ok (.aload_n 0, 1) := by decide +kernel
theorem dL_law_912 : decode cL_law 912 = .ok (.iload 4, 2) := by decide +kernel
theorem dL_law_914 : decode cL_law 914 = .ok (.iconst 2, 1) := by decide +kernel
theorem dL_law_915 : decode cL_law 915 = .ok (.iadd, 1) := by decide +kernel
theorem dL_law_916 : decode cL_law 916 = .ok (.iaload, 1) := by decide +kernel
theorem dL_law_917 : decode cL_law 917 = .ok (.invokevirtual 108, 3) := by decide +kernel
theorem dL_law_920 : decode cL_law 920 = .ok (.pop, 1) := by decide +kernel
theorem dL_law_921 : decode cL_law 921 = .ok (.goto 219, 3) := by decide +kernel
theorem dL_law_924 : decode cL_law 924 = .ok (.aload_n 1, 1) := by decide +kernel
theorem dL_law_925 : decode cL_law 925 = .ok (.aload_n 0, 1) := by decide +kernel
theorem dL_law_926 : decode cL_law 926 = .ok (.iload 4, 2) := by decide +kernel
theorem dL_law_928 : decode cL_law 928 = .ok (.iconst 1, 1) := by decide +kernel
theorem dL_law_929 : decode cL_law 929 = .ok (.iadd, 1) := by decide +kernel
theorem dL_law_930 : decode cL_law 930 = .ok (.iaload, 1) := by decide +kernel
theorem dL_law_931 : decode cL_law 931 = .ok (.aload_n 0, 1) := by decide +kernel
theorem dL_law_932 : decode cL_law 932 = .ok (.iload 4, 2) := by decide +kernel
theorem dL_law_934 : decode cL_law 934 = .ok (.iconst 2, 1) := by decide +kernel
theorem dL_law_935 : decode cL_law 935 = .ok (.iadd, 1) := by decide +kernel
theorem dL_law_936 : decode cL_law 936 = .ok (.iaload, 1) := by decide +kernel
theorem dL_law_937 : decode cL_law 937 = .ok (.invokevirtual 109, 3) := by decide +kernel
theorem dL_law_940 : decode cL_law 940 = .ok (.pop, 1) := by decide +kernel
theorem dL_law_941 : decode cL_law 941 = .ok (.aload_n 2, 1) := by decide +kernel
theorem dL_law_942 : decode cL_law 942 = .ok (.aload_n 0, 1) := by decide +kernel
theorem dL_law_943 : decode cL_law 943 = .ok (.iload 4, 2) := by decide +kernel
theorem dL_law_945 : decode cL_law 945 = .ok (.iconst 1, 1) := by decide +kernel
theorem dL_law_946 : decode cL_law 946 = .ok (.iadd, 1) := by decide +kernel
theorem dL_law_947 : decode cL_law 947 = .ok (.iaload, 1) := by decide +kernel
theorem dL_law_948 : decode cL_law 948 = .ok (.aload_n 0, 1) := by decide +kernel
theorem dL_law_949 : decode cL_law 949 = .ok (.iload 4, 2) := by decide +kernel
theorem dL_law_951 : decode cL_law 951 = .ok (.iconst 2, 1) := by decide +kernel
theorem dL_law_952 : decode cL_law 952 = .ok (.iadd, 1) := by decide +kernel
theorem dL_law_953 : decode cL_law 953 = .ok (.iaload, 1) := by decide +kernel
theorem dL_law_954 : decode cL_law 954 = .ok (.invokevirtual 112, 3) := by decide +kernel
theorem dL_law_957 : decode cL_law 957 = .ok (.pop, 1) := by decide +kernel
theorem dL_law_958 : decode cL_law 958 = .ok (.goto 182, 3) := by decide +kernel
theorem dL_law_961 : decode cL_law 961 = .ok (.aload_n 1, 1) := by decide +kernel
theorem dL_law_962 : decode cL_law 962 = .ok (.aload_n 0, 1) := by decide +kernel
theorem dL_law_963 : decode cL_law 963 = .ok (.iload 4, 2) := by decide +kernel
theorem dL_law_965 : decode cL_law 965 = .ok (.iconst 1, 1) := by decide +kernel
theorem dL_law_966 : decode cL_law 966 = .ok (.iadd, 1) := by decide +kernel
theorem dL_law_967 : decode cL_law 967 = .ok (.iaload, 1) := by decide +kernel
theorem dL_law_968 : decode cL_law 968 = .ok (.aload_n 0, 1) := by decide +kernel
theorem dL_law_969 : decode cL_law 969 = .ok (.iload 4, 2) := by decide +kernel
theorem dL_law_971 : decode cL_law 971 = .ok (.iconst 2, 1) := by decide +kernel
theorem dL_law_972 : decode cL_law 972 = .ok (.iadd, 1) := by decide +kernel
theorem dL_law_973 : decode cL_law 973 = .ok (.iaload, 1) := by decide +kernel
theorem dL_law_974 : decode cL_law 974 = .ok (.aload_n 0, 1) := by decide +kernel
theorem dL_law_975 : decode cL_law 975 = .ok (.iload 4, 2) := by decide +kernel
theorem dL_law_977 : decode cL_law 977 = .ok (.iconst 3, 1) := by decide +kernel
theorem dL_law_978 : decode cL_law 978 = .ok (.iadd, 1) := by decide +kernel
theorem dL_law_979 : decode cL_law 979 = .ok (.iaload, 1) := by decide +kernel
theorem dL_law_980 : decode cL_law 980 = .ok (.aload_n 3, 1) := by decide +kernel
theorem dL_law_981 : decode cL_law 981 = .ok (.invokestatic 113, 3) := by decide +kernel
theorem dL_law_984 : decode cL_law 984 = .ok (.istore 5, 2) := by decide +kernel
theorem dL_law_986 : decode cL_law 986 = .ok (.aload_n 2, 1) := by decide +kernel
theorem dL_law_987 : decode cL_law 987 = .ok (.aload_n 0, 1) := by decide +kernel
theorem dL_law_988 : decode cL_law 988 = .ok (.iload 4, 2) := by decide +kernel
theorem dL_law_990 : decode cL_law 990 = .ok (.iconst 1, 1) := by decide +kernel
theorem dL_law_991 : decode cL_law 991 = .ok (.iadd, 1) := by decide +kernel
theorem dL_law_992 : decode cL_law 992 = .ok (.iaload, 1) := by decide +kernel
theorem dL_law_993 : decode cL_law 993 = .ok (.aload_n 0, 1) := by decide +kernel
theorem dL_law_994 : decode cL_law 994 = .ok (.iload 4, 2) := by decide +kernel
theorem dL_law_996 : decode cL_law 996 = .ok (.iconst 2, 1) := by decide +kernel
theorem dL_law_997 : decode cL_law 997 = .ok (.iadd, 1) := by decide +kernel
theorem dL_law_998 : decode cL_law 998 = .ok (.iaload, 1) := by decide +kernel
theorem dL_law_999 : decode cL_law 999 = .ok (.aload_n 0, 1) := by decide +kernel
theorem dL_law_1000 : decode cL_law 1000 = .ok (.iload 4, 2) := by decide +kernel
theorem dL_law_1002 : decode cL_law 1002 = .ok (.iconst 3, 1) := by decide +kernel
theorem dL_law_1003 : decode cL_law 1003 = .ok (.iadd, 1) := by decide +kernel
theorem dL_law_1004 : decode cL_law 1004 = .ok (.iaload, 1) := by decide +kernel
theorem dL_law_1005 : decode cL_law 1005 = .ok (.invokevirtual 118, 3) := by decide +kernel
theorem dL_law_1008 : decode cL_law 1008 = .ok (.istore 6, 2) := by decide +kernel
theorem dL_law_1010 : decode cL_law 1010 = .ok (.goto 130, 3) := by decide +kernel
theorem dL_law_1013 : decode cL_law 1013 = .ok (.aload_n 1, 1) := by decide +kernel
theorem dL_law_1014 : decode cL_law 1014 = .ok (.aload_n 0, 1) := by decide +kernel
theorem dL_law_1015 : decode cL_law 1015 = .ok (.iload 4, 2) := by decide +kernel
theorem dL_law_1017 : decode cL_law 1017 = .ok (.iconst 1, 1) := by decide +kernel
theorem dL_law_1018 : decode cL_law 1018 = .ok (.iadd, 1) := by decide +kernel
theorem dL_law_1019 : decode cL_law 1019 = .ok (.iaload, 1) := by decide +kernel
theorem dL_law_1020 : decode cL_law 1020 = .ok (.aload_n 0, 1) := by decide +kernel
theorem dL_law_1021 : decode cL_law 1021 = .ok (.iload 4, 2) := by decide +kernel
theorem dL_law_1023 : decode cL_law 1023 = .ok (.iconst 2, 1) := by decide +kernel
theorem dL_law_1024 : decode cL_law 1024 = .ok (.iadd, 1) := by decide +kernel
theorem dL_law_1025 : decode cL_law 1025 = .ok (.iaload, 1) := by decide +kernel
theorem dL_law_1026 : decode cL_law 1026 = .ok (.aload_n 0, 1) := by decide +kernel
theorem dL_law_1027 : decode cL_law 1027 = .ok (.iload 4, 2) := by decide +kernel
theorem dL_law_1029 : decode cL_law 1029 = .ok (.iconst 3, 1) := by decide +kernel
theorem dL_law_1030 : decode cL_law 1030 = .ok (.iadd, 1) := by decide +kernel
theorem dL_law_1031 : decode cL_law 1031 = .ok (.iaload, 1) := by decide +kernel
theorem dL_law_1032 : decode cL_law 1032 = .ok (.aload_n 3, 1) := by decide +kernel
theorem dL_law_1033 : decode cL_law 1033 = .ok (.invokestatic 119, 3) := by decide +kernel
theorem dL_law_1036 : decode cL_law 1036 = .ok (.istore 5, 2) := by decide +kernel
theorem dL_law_1038 : decode cL_law 1038 = .ok (.aload_n 2, 1) := by decide +kernel
theorem dL_law_1039 : decode cL_law 1039 = .ok (.aload_n 0, 1) := by decide +kernel
theorem dL_law_1040 : decode cL_law 1040 = .ok (.iload 4, 2) := by decide +kernel
theorem dL_law_1042 : decode cL_law 1042 = .ok (.iconst 1, 1) := by decide +kernel
theorem dL_law_1043 : decode cL_law 1043 = .ok (.iadd, 1) := by decide +kernel
theorem dL_law_1044 : decode cL_law 1044 = .ok (.iaload, 1) := by decide +kernel
theorem dL_law_1045 : decode cL_law 1045 = .ok (.aload_n 0, 1) := by decide +kernel
theorem dL_law_1046 : decode cL_law 1046 = .ok (.iload 4, 2) := by decide +kernel
theorem dL_law_1048 : decode cL_law 1048 = .ok (.iconst 2, 1) := by decide +kernel
theorem dL_law_1049 : decode cL_law 1049 = .ok (.iadd, 1) := by decide +kernel
theorem dL_law_1050 : decode cL_law 1050 = .ok (.iaload, 1) := by decide +kernel
theorem dL_law_1051 : decode cL_law 1051 = .ok (.aload_n 0, 1) := by decide +kernel
theorem dL_law_1052 : decode cL_law 1052 = .ok (.iload 4, 2) := by decide +kernel
theorem dL_law_1054 : decode cL_law 1054 = .ok (.iconst 3, 1) := by decide +kernel
theorem dL_law_1055 : decode cL_law 1055 = .ok (.iadd, 1) := by decide +kernel
theorem dL_law_1056 : decode cL_law 1056 = .ok (.iaload, 1) := by decide +kernel
theorem dL_law_1057 : decode cL_law 1057 = .ok (.invokevirtual 121, 3) := by decide +kernel
theorem dL_law_1060 : decode cL_law 1060 = .ok (.istore 6, 2) := by decide +kernel
theorem dL_law_1062 : decode cL_law 1062 = .ok (.goto 78, 3) := by decide +kernel
theorem dL_law_1065 : decode cL_law 1065 = .ok (.aload_n 1, 1) := by decide +kernel
theorem dL_law_1066 : decode cL_law 1066 = .ok (.aload_n 0, 1) := by decide +kernel
theorem dL_law_1067 : decode cL_law 1067 = .ok (.iload 4, 2) := by decide +kernel
theorem dL_law_1069 : decode cL_law 1069 = .ok (.iconst 1, 1) := by decide +kernel
theorem dL_law_1070 : decode cL_law 1070 = .ok (.iadd, 1) := by decide +kernel
theorem dL_law_1071 : decode cL_law 1071 = .ok (.iaload, 1) := by decide +kernel
theorem dL_law_1072 : decode cL_law 1072 = .ok (.aload_n 0, 1) := by decide +kernel
theorem dL_law_1073 : decode cL_law 1073 = .ok (.iload 4, 2) := by decide +kernel
theorem dL_law_1075 : decode cL_law 1075 = .ok (.iconst 2, 1) := by decide +kernel
theorem dL_law_1076 : decode cL_law 1076 = .ok (.iadd, 1) := by decide +kernel
theorem dL_law_1077 : decode cL_law 1077 = .ok (.iaload, 1) := by decide +kernel
theorem dL_law_1078 : decode cL_law 1078 = .ok (.invokevirtual 122, 3) := by decide +kernel
theorem dL_law_1081 : decode cL_law 1081 = .ok (.pop, 1) := by decide +kernel
theorem dL_law_1082 : decode cL_law 1082 = .ok (.aload_n 2, 1) := by decide +kernel
theorem dL_law_1083 : decode cL_law 1083 = .ok (.aload_n 0, 1) := by decide +kernel
theorem dL_law_1084 : decode cL_law 1084 = .ok (.iload 4, 2) := by decide +kernel
theorem dL_law_1086 : decode cL_law 1086 = .ok (.iconst 1, 1) := by decide +kernel
theorem dL_law_1087 : decode cL_law 1087 = .ok (.iadd, 1) := by decide +kernel
theorem dL_law_1088 : decode cL_law 1088 = .ok (.iaload, 1) := by decide +kernel
theorem dL_law_1089 : decode cL_law 1089 = .ok (.aload_n 0, 1) := by decide +kernel
theorem dL_law_1090 : decode cL_law 1090 = .ok (.iload 4, 2) := by decide +kernel
theorem dL_law_1092 : decode cL_law 1092 = .ok (.iconst 2, 1) := by decide +kernel
theorem dL_law_1093 : decode cL_law 1093 = .ok (.iadd, 1) := by decide +kernel
theorem dL_law_1094 : decode cL_law 1094 = .ok (.iaload, 1) := by decide +kernel
theorem dL_law_1095 : decode cL_law 1095 = .ok (.invokevirtual 125, 3) := by decide +kernel
theorem dL_law_1098 : decode cL_law 1098 = .ok (.pop, 1) := by decide +kernel
theorem dL_law_1099 : decode cL_law 1099 = .ok (.goto 41, 3) := by decide +kernel
theorem dL_law_1102 : decode cL_law 1102 = .ok (.aload_n 1, 1) := by decide +kernel
theorem dL_law_1103 : decode cL_law 1103 = .ok (.invokevirtual 126, 3) := by decide +kernel
theorem dL_law_1106 : decode cL_law 1106 = .ok (.pop, 1) := by decide +kernel
theorem dL_law_1107 : decode cL_law 1107 = .ok (.aload_n 2, 1) := by decide +kernel
theorem dL_law_1108 : decode cL_law 1108 = .ok (.invokevirtual 130, 3) := by decide +kernel
theorem dL_law_1111 : decode cL_law 1111 = .ok (.pop, 1) := by decide +kernel
theorem dL_law_1112 : decode cL_law 1112 = .ok (.goto 28, 3) := by decide +kernel
theorem dL_law_1115 : decode cL_law 1115 = .ok (.aload_n 1, 1) := by decide +kernel
theorem dL_law_1116 : decode cL_law 1116 = .ok (.aload_n 0, 1) := by decide +kernel
theorem dL_law_1117 : decode cL_law 1117 = .ok (.iload 4, 2) := by decide +kernel
theorem dL_law_1119 : decode cL_law 1119 = .ok (.iconst 1, 1) := by decide +kernel
theorem dL_law_1120 : decode cL_law 1120 = .ok (.iadd, 1) := by decide +kernel
theorem dL_law_1121 : decode cL_law 1121 = .ok (.iaload, 1) := by decide +kernel
theorem dL_law_1122 : decode cL_law 1122 = .ok (.invokevirtual 131, 3) := by decide +kernel
theorem dL_law_1125 : decode cL_law 1125 = .ok (.pop, 1) := by decide +kernel
