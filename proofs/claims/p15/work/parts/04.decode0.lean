theorem dX0_init_0 : decode cX0_init 0 = .ok (.aload_n 0, 1) := by decide +kernel
theorem dX0_init_1 : decode cX0_init 1 = .ok (.invokespecial 3, 3) := by decide +kernel
theorem dX0_init_4 : decode cX0_init 4 = .ok (.aload_n 0, 1) := by decide +kernel
theorem dX0_init_5 : decode cX0_init 5 = .ok (.aload_n 1, 1) := by decide +kernel
theorem dX0_init_6 : decode cX0_init 6 = .ok (.putfield 9, 3) := by decide +kernel
theorem dX0_init_9 : decode cX0_init 9 = .ok (.aload_n 0, 1) := by decide +kernel
theorem dX0_init_10 : decode cX0_init 10 = .ok (.aload_n 2, 1) := by decide +kernel
theorem dX0_init_11 : decode cX0_init 11 = .ok (.putfield 15, 3) := by decide +kernel
theorem dX0_init_14 : decode cX0_init 14 = .ok (.return_, 1) := by decide +kernel
theorem dX0_listen_0 : decode cX0_listen 0 = .ok (.aload_n 0, 1) := by decide +kernel
theorem dX0_listen_1 : decode cX0_listen 1 = .ok (.iconst 0, 1) := by decide +kernel
theorem dX0_listen_2 : decode cX0_listen 2 = .ok (.putfield 19, 3) := by decide +kernel
theorem dX0_listen_5 : decode cX0_listen 5 = .ok (.aload_n 0, 1) := by decide +kernel
theorem dX0_listen_6 : decode cX0_listen 6 = .ok (.iconst 0, 1) := by decide +kernel
theorem dX0_listen_7 : decode cX0_listen 7 = .ok (.putfield 23, 3) := by decide +kernel
theorem dX0_listen_10 : decode cX0_listen 10 = .ok (.aload_n 0, 1) := by decide +kernel
theorem dX0_listen_11 : decode cX0_listen 11 = .ok (.iconst 0, 1) := by decide +kernel
theorem dX0_listen_12 : decode cX0_listen 12 = .ok (.putfield 26, 3) := by decide +kernel
theorem dX0_listen_15 : decode cX0_listen 15 = .ok (.aload_n 1, 1) := by decide +kernel
theorem dX0_listen_16 : decode cX0_listen 16 = .ok (.iload_n 2, 1) := by decide +kernel
theorem dX0_listen_17 : decode cX0_listen 17 = .ok (.iload_n 3, 1) := by decide +kernel
theorem dX0_listen_18 : decode cX0_listen 18 = .ok (.iadd, 1) := by decide +kernel
theorem dX0_listen_19 : decode cX0_listen 19 = .ok (.iaload, 1) := by decide +kernel
theorem dX0_listen_20 : decode cX0_listen 20 = .ok (.istore 4, 2) := by decide +kernel
theorem dX0_listen_22 : decode cX0_listen 22 = .ok (.iload 4, 2) := by decide +kernel
theorem dX0_listen_24 : decode cX0_listen 24 = .ok (.invokestatic 29, 3) := by decide +kernel
theorem dX0_listen_27 : decode cX0_listen 27 = .ok (.istore 5, 2) := by decide +kernel
theorem dX0_listen_29 : decode cX0_listen 29 = .ok (.aload_n 0, 1) := by decide +kernel
theorem dX0_listen_30 : decode cX0_listen 30 = .ok (.getfield 15, 3) := by decide +kernel
theorem dX0_listen_33 : decode cX0_listen 33 = .ok (.getfield 35, 3) := by decide +kernel
theorem dX0_listen_36 : decode cX0_listen 36 = .ok (.iload_n 3, 1) := by decide +kernel
theorem dX0_listen_37 : decode cX0_listen 37 = .ok (.iaload, 1) := by decide +kernel
theorem dX0_listen_38 : decode cX0_listen 38 = .ok (.ifCond .ne 17, 3) := by decide +kernel
theorem dX0_listen_41 : decode cX0_listen 41 = .ok (.iload 4, 2) := by decide +kernel
theorem dX0_listen_43 : decode cX0_listen 43 = .ok (.invokestatic 39, 3) := by decide +kernel
theorem dX0_listen_46 : decode cX0_listen 46 = .ok (.ifCond .ne 9, 3) := by decide +kernel
theorem dX0_listen_49 : decode cX0_listen 49 = .ok (.iload 5, 2) := by decide +kernel
theorem dX0_listen_51 : decode cX0_listen 51 = .ok (.iconst (-1), 1) := by decide +kernel
theorem dX0_listen_52 : decode cX0_listen 52 = .ok (.if_icmp .ne 5, 3) := by decide +kernel
theorem dX0_listen_55 : decode cX0_listen 55 = .ok (.iconst 0, 1) := by decide +kernel
theorem dX0_listen_56 : decode cX0_listen 56 = .ok (.ireturn, 1) := by decide +kernel
theorem dX0_listen_57 : decode cX0_listen 57 = .ok (.iconst 0, 1) := by decide +kernel
theorem dX0_listen_58 : decode cX0_listen 58 = .ok (.istore 6, 2) := by decide +kernel
theorem dX0_listen_60 : decode cX0_listen 60 = .ok (.iload 6, 2) := by decide +kernel
theorem dX0_listen_62 : decode cX0_listen 62 = .ok (.aload_n 0, 1) := by decide +kernel
theorem dX0_listen_63 : decode cX0_listen 63 = .ok (.getfield 9, 3) := by decide +kernel
theorem dX0_listen_66 : decode cX0_listen 66 = .ok (.getfield 43, 3) := by decide +kernel
theorem dX0_listen_69 : decode cX0_listen 69 = .ok (.if_icmp .ge 45, 3) := by decide +kernel
theorem dX0_listen_72 : decode cX0_listen 72 = .ok (.iload 6, 2) := by decide +kernel
theorem dX0_listen_74 : decode cX0_listen 74 = .ok (.iload_n 3, 1) := by decide +kernel
theorem dX0_listen_75 : decode cX0_listen 75 = .ok (.if_icmp .eq 33, 3) := by decide +kernel
theorem dX0_listen_78 : decode cX0_listen 78 = .ok (.aload_n 0, 1) := by decide +kernel
theorem dX0_listen_79 : decode cX0_listen 79 = .ok (.getfield 15, 3) := by decide +kernel
theorem dX0_listen_82 : decode cX0_listen 82 = .ok (.iload_n 3, 1) := by decide +kernel
theorem dX0_listen_83 : decode cX0_listen 83 = .ok (.iload 6, 2) := by decide +kernel
theorem dX0_listen_85 : decode cX0_listen 85 = .ok (.invokevirtual 48, 3) := by decide +kernel
theorem dX0_listen_88 : decode cX0_listen 88 = .ok (.ifCond .eq 20, 3) := by decide +kernel
theorem dX0_listen_91 : decode cX0_listen 91 = .ok (.aload_n 0, 1) := by decide +kernel
theorem dX0_listen_92 : decode cX0_listen 92 = .ok (.iload 6, 2) := by decide +kernel
theorem dX0_listen_94 : decode cX0_listen 94 = .ok (.aload_n 1, 1) := by decide +kernel
theorem dX0_listen_95 : decode cX0_listen 95 = .ok (.iload_n 2, 1) := by decide +kernel
theorem dX0_listen_96 : decode cX0_listen 96 = .ok (.iload 6, 2) := by decide +kernel
theorem dX0_listen_98 : decode cX0_listen 98 = .ok (.iadd, 1) := by decide +kernel
theorem dX0_listen_99 : decode cX0_listen 99 = .ok (.iaload, 1) := by decide +kernel
theorem dX0_listen_100 : decode cX0_listen 100 = .ok (.invokestatic 29, 3) := by decide +kernel
theorem dX0_listen_103 : decode cX0_listen 103 = .ok (.iload 5, 2) := by decide +kernel
theorem dX0_listen_105 : decode cX0_listen 105 = .ok (.invokevirtual 52, 3) := by decide +kernel
theorem dX0_listen_108 : decode cX0_listen 108 = .ok (.iinc 6 1, 3) := by decide +kernel
theorem dX0_listen_111 : decode cX0_listen 111 = .ok (.goto (-51), 3) := by decide +kernel
theorem dX0_listen_114 : decode cX0_listen 114 = .ok (.iconst 1, 1) := by decide +kernel
theorem dX0_listen_115 : decode cX0_listen 115 = .ok (.ireturn, 1) := by decide +kernel
theorem dX0_hear_0 : decode cX0_hear 0 = .ok (.aload_n 0, 1) := by decide +kernel
theorem dX0_hear_1 : decode cX0_hear 1 = .ok (.getfield 15, 3) := by decide +kernel
theorem dX0_hear_4 : decode cX0_hear 4 = .ok (.getfield 35, 3) := by decide +kernel
theorem dX0_hear_7 : decode cX0_hear 7 = .ok (.iload_n 1, 1) := by decide +kernel
theorem dX0_hear_8 : decode cX0_hear 8 = .ok (.iaload, 1) := by decide +kernel
theorem dX0_hear_9 : decode cX0_hear 9 = .ok (.istore 4, 2) := by decide +kernel
theorem dX0_hear_11 : decode cX0_hear 11 = .ok (.iload 4, 2) := by decide +kernel
theorem dX0_hear_13 : decode cX0_hear 13 = .ok (.ifCond .ne 20, 3) := by decide +kernel
theorem dX0_hear_16 : decode cX0_hear 16 = .ok (.iload_n 2, 1) := by decide +kernel
theorem dX0_hear_17 : decode cX0_hear 17 = .ok (.iconst (-1), 1) := by decide +kernel
theorem dX0_hear_18 : decode cX0_hear 18 = .ok (.if_icmp .ne 15, 3) := by decide +kernel
theorem dX0_hear_21 : decode cX0_hear 21 = .ok (.aload_n 0, 1) := by decide +kernel
theorem dX0_hear_22 : decode cX0_hear 22 = .ok (.dup, 1) := by decide +kernel
theorem dX0_hear_23 : decode cX0_hear 23 = .ok (.getfield 26, 3) := by decide +kernel
theorem dX0_hear_26 : decode cX0_hear 26 = .ok (.iconst 1, 1) := by decide +kernel
theorem dX0_hear_27 : decode cX0_hear 27 = .ok (.iload_n 1, 1) := by decide +kernel
theorem dX0_hear_28 : decode cX0_hear 28 = .ok (.ishl, 1) := by decide +kernel
theorem dX0_hear_29 : decode cX0_hear 29 = .ok (.ior, 1) := by decide +kernel
theorem dX0_hear_30 : decode cX0_hear 30 = .ok (.putfield 26, 3) := by decide +kernel
theorem dX0_hear_33 : decode cX0_hear 33 = .ok (.iload 4, 2) := by decide +kernel
theorem dX0_hear_35 : decode cX0_hear 35 = .ok (.iload_n 2, 1) := by decide +kernel
theorem dX0_hear_36 : decode cX0_hear 36 = .ok (.iload_n 3, 1) := by decide +kernel
theorem dX0_hear_37 : decode cX0_hear 37 = .ok (.invokestatic 56, 3) := by decide +kernel
theorem dX0_hear_40 : decode cX0_hear 40 = .ok (.istore 5, 2) := by decide +kernel
theorem dX0_hear_42 : decode cX0_hear 42 = .ok (.iload 5, 2) := by decide +kernel
theorem dX0_hear_44 : decode cX0_hear 44 = .ok (.ifCond .ne 18, 3) := by decide +kernel
theorem dX0_hear_47 : decode cX0_hear 47 = .ok (.aload_n 0, 1) := by decide +kernel
theorem dX0_hear_48 : decode cX0_hear 48 = .ok (.dup, 1) := by decide +kernel
theorem dX0_hear_49 : decode cX0_hear 49 = .ok (.getfield 19, 3) := by decide +kernel
theorem dX0_hear_52 : decode cX0_hear 52 = .ok (.iconst 1, 1) := by decide +kernel
theorem dX0_hear_53 : decode cX0_hear 53 = .ok (.iload_n 1, 1) := by decide +kernel
theorem dX0_hear_54 : decode cX0_hear 54 = .ok (.ishl, 1) := by decide +kernel
theorem dX0_hear_55 : decode cX0_hear 55 = .ok (.ior, 1) := by decide +kernel
theorem dX0_hear_56 : decode cX0_hear 56 = .ok (.putfield 19, 3) := by decide +kernel
theorem dX0_hear_59 : decode cX0_hear 59 = .ok (.goto 21, 3) := by decide +kernel
theorem dX0_hear_62 : decode cX0_hear 62 = .ok (.iload 5, 2) := by decide +kernel
theorem dX0_hear_64 : decode cX0_hear 64 = .ok (.iconst 1, 1) := by decide +kernel
theorem dX0_hear_65 : decode cX0_hear 65 = .ok (.if_icmp .ne 15, 3) := by decide +kernel
theorem dX0_hear_68 : decode cX0_hear 68 = .ok (.aload_n 0, 1) := by decide +kernel
theorem dX0_hear_69 : decode cX0_hear 69 = .ok (.dup, 1) := by decide +kernel
theorem dX0_hear_70 : decode cX0_hear 70 = .ok (.getfield 23, 3) := by decide +kernel
theorem dX0_hear_73 : decode cX0_hear 73 = .ok (.iconst 1, 1) := by decide +kernel
theorem dX0_hear_74 : decode cX0_hear 74 = .ok (.iload_n 1, 1) := by decide +kernel
theorem dX0_hear_75 : decode cX0_hear 75 = .ok (.ishl, 1) := by decide +kernel
theorem dX0_hear_76 : decode cX0_hear 76 = .ok (.ior, 1) := by decide +kernel
theorem dX0_hear_77 : decode cX0_hear 77 = .ok (.putfield 23, 3) := by decide +kernel
theorem dX0_hear_80 : decode cX0_hear 80 = .ok (.return_, 1) := by decide +kernel
theorem dX0_saying_0 : decode cX0_saying 0 = .ok (.iload_n 0, 1) := by decide +kernel
theorem dX0_saying_1 : decode cX0_saying 1 = .ok (.tableswitch 50 0 3 #[31, 42, 44, 46], 31) := by decide +kernel
theorem dX0_saying_32 : decode cX0_saying 32 = .ok (.iload_n 1, 1) := by decide +kernel
theorem dX0_saying_33 : decode cX0_saying 33 = .ok (.iconst (-1), 1) := by decide +kernel
theorem dX0_saying_34 : decode cX0_saying 34 = .ok (.if_icmp .ne 7, 3) := by decide +kernel
theorem dX0_saying_37 : decode cX0_saying 37 = .ok (.iload_n 2, 1) := by decide +kernel
theorem dX0_saying_38 : decode cX0_saying 38 = .ok (.goto 4, 3) := by decide +kernel
theorem dX0_saying_41 : decode cX0_saying 41 = .ok (.iload_n 1, 1) := by decide +kernel
theorem dX0_saying_42 : decode cX0_saying 42 = .ok (.ireturn, 1) := by decide +kernel
theorem dX0_saying_43 : decode cX0_saying 43 = .ok (.iconst 0, 1) := by decide +kernel
theorem dX0_saying_44 : decode cX0_saying 44 = .ok (.ireturn, 1) := by decide +kernel
theorem dX0_saying_45 : decode cX0_saying 45 = .ok (.iconst 1, 1) := by decide +kernel
theorem dX0_saying_46 : decode cX0_saying 46 = .ok (.ireturn, 1) := by decide +kernel
theorem dX0_saying_47 : decode cX0_saying 47 = .ok (.iconst 1, 1) := by decide +kernel
theorem dX0_saying_48 : decode cX0_saying 48 = .ok (.iload_n 2, 1) := by decide +kernel
theorem dX0_saying_49 : decode cX0_saying 49 = .ok (.isub, 1) := by decide +kernel
theorem dX0_saying_50 : decode cX0_saying 50 = .ok (.ireturn, 1) := by decide +kernel
theorem dX0_saying_51 : decode cX0_saying 51 = .ok (.iconst (-1), 1) := by decide +kernel
theorem dX0_saying_52 : decode cX0_saying 52 = .ok (.ireturn, 1) := by decide +kernel
theorem dX0_winner_0 : decode cX0_winner 0 = .ok (.iload_n 1, 1) := by decide +kernel
theorem dX0_winner_1 : decode cX0_winner 1 = .ok (.aload_n 0, 1) := by decide +kernel
theorem dX0_winner_2 : decode cX0_winner 2 = .ok (.getfield 23, 3) := by decide +kernel
theorem dX0_winner_5 : decode cX0_winner 5 = .ok (.iand, 1) := by decide +kernel
theorem dX0_winner_6 : decode cX0_winner 6 = .ok (.invokestatic 60, 3) := by decide +kernel
theorem dX0_winner_9 : decode cX0_winner 9 = .ok (.aload_n 0, 1) := by decide +kernel
theorem dX0_winner_10 : decode cX0_winner 10 = .ok (.getfield 9, 3) := by decide +kernel
theorem dX0_winner_13 : decode cX0_winner 13 = .ok (.getfield 65, 3) := by decide +kernel
theorem dX0_winner_16 : decode cX0_winner 16 = .ok (.if_icmp .lt 5, 3) := by decide +kernel
theorem dX0_winner_19 : decode cX0_winner 19 = .ok (.iconst 1, 1) := by decide +kernel
theorem dX0_winner_20 : decode cX0_winner 20 = .ok (.ireturn, 1) := by decide +kernel
theorem dX0_winner_21 : decode cX0_winner 21 = .ok (.iload_n 1, 1) := by decide +kernel
theorem dX0_winner_22 : decode cX0_winner 22 = .ok (.aload_n 0, 1) := by decide +kernel
theorem dX0_winner_23 : decode cX0_winner 23 = .ok (.getfield 19, 3) := by decide +kernel
theorem dX0_winner_26 : decode cX0_winner 26 = .ok (.iand, 1) := by decide +kernel
theorem dX0_winner_27 : decode cX0_winner 27 = .ok (.invokestatic 60, 3) := by decide +kernel
theorem dX0_winner_30 : decode cX0_winner 30 = .ok (.aload_n 0, 1) := by decide +kernel
theorem dX0_winner_31 : decode cX0_winner 31 = .ok (.getfield 9, 3) := by decide +kernel
theorem dX0_winner_34 : decode cX0_winner 34 = .ok (.getfield 65, 3) := by decide +kernel
theorem dX0_winner_37 : decode cX0_winner 37 = .ok (.if_icmp .lt 7, 3) := by decide +kernel
theorem dX0_winner_40 : decode cX0_winner 40 = .ok (.iconst 0, 1) := by decide +kernel
theorem dX0_winner_41 : decode cX0_winner 41 = .ok (.goto 4, 3) := by decide +kernel
theorem dX0_winner_44 : decode cX0_winner 44 = .ok (.iconst (-1), 1) := by decide +kernel
theorem dX0_winner_45 : decode cX0_winner 45 = .ok (.ireturn, 1) := by decide +kernel
theorem dX0_settle_0 : decode cX0_settle 0 = .ok (.aload_n 1, 1) := by decide +kernel
theorem dX0_settle_1 : decode cX0_settle 1 = .ok (.iload_n 2, 1) := by decide +kernel
theorem dX0_settle_2 : decode cX0_settle 2 = .ok (.iaload, 1) := by decide +kernel
theorem dX0_settle_3 : decode cX0_settle 3 = .ok (.istore 5, 2) := by decide +kernel
theorem dX0_settle_5 : decode cX0_settle 5 = .ok (.aload_n 0, 1) := by decide +kernel
theorem dX0_settle_6 : decode cX0_settle 6 = .ok (.aload_n 1, 1) := by decide +kernel
theorem dX0_settle_7 : decode cX0_settle 7 = .ok (.aload_n 0, 1) := by decide +kernel
theorem dX0_settle_8 : decode cX0_settle 8 = .ok (.getfield 26, 3) := by decide +kernel
theorem dX0_settle_11 : decode cX0_settle 11 = .ok (.iload 4, 2) := by decide +kernel
theorem dX0_settle_13 : decode cX0_settle 13 = .ok (.iand, 1) := by decide +kernel
theorem dX0_settle_14 : decode cX0_settle 14 = .ok (.iload 5, 2) := by decide +kernel
theorem dX0_settle_16 : decode cX0_settle 16 = .ok (.invokestatic 29, 3) := by decide +kernel
theorem dX0_settle_19 : decode cX0_settle 19 = .ok (.invokevirtual 68, 3) := by decide +kernel
theorem dX0_settle_22 : decode cX0_settle 22 = .ok (.aload_n 0, 1) := by decide +kernel
theorem dX0_settle_23 : decode cX0_settle 23 = .ok (.getfield 9, 3) := by decide +kernel
theorem dX0_settle_26 : decode cX0_settle 26 = .ok (.getfield 72, 3) := by decide +kernel
theorem dX0_settle_29 : decode cX0_settle 29 = .ok (.ifCond .ne 25, 3) := by decide +kernel
theorem dX0_settle_32 : decode cX0_settle 32 = .ok (.aload_n 1, 1) := by decide +kernel
theorem dX0_settle_33 : decode cX0_settle 33 = .ok (.iload_n 2, 1) := by decide +kernel
theorem dX0_settle_34 : decode cX0_settle 34 = .ok (.iload_n 3, 1) := by decide +kernel
theorem dX0_settle_35 : decode cX0_settle 35 = .ok (.iconst (-1), 1) := by decide +kernel
theorem dX0_settle_36 : decode cX0_settle 36 = .ok (.if_icmp .ne 8, 3) := by decide +kernel
theorem dX0_settle_39 : decode cX0_settle 39 = .ok (.iload 5, 2) := by decide +kernel
theorem dX0_settle_41 : decode cX0_settle 41 = .ok (.goto 9, 3) := by decide +kernel
theorem dX0_settle_44 : decode cX0_settle 44 = .ok (.iload 5, 2) := by decide +kernel
theorem dX0_settle_46 : decode cX0_settle 46 = .ok (.iload_n 3, 1) := by decide +kernel
theorem dX0_settle_47 : decode cX0_settle 47 = .ok (.invokestatic 75, 3) := by decide +kernel
theorem dX0_settle_50 : decode cX0_settle 50 = .ok (.iastore, 1) := by decide +kernel
theorem dX0_settle_51 : decode cX0_settle 51 = .ok (.goto 76, 3) := by decide +kernel
theorem dX0_settle_54 : decode cX0_settle 54 = .ok (.iload_n 3, 1) := by decide +kernel
theorem dX0_settle_55 : decode cX0_settle 55 = .ok (.iconst (-1), 1) := by decide +kernel
theorem dX0_settle_56 : decode cX0_settle 56 = .ok (.if_icmp .ne 15, 3) := by decide +kernel
theorem dX0_settle_59 : decode cX0_settle 59 = .ok (.aload_n 1, 1) := by decide +kernel
theorem dX0_settle_60 : decode cX0_settle 60 = .ok (.iload_n 2, 1) := by decide +kernel
theorem dX0_settle_61 : decode cX0_settle 61 = .ok (.iload 5, 2) := by decide +kernel
theorem dX0_settle_63 : decode cX0_settle 63 = .ok (.iconst 0, 1) := by decide +kernel
theorem dX0_settle_64 : decode cX0_settle 64 = .ok (.invokestatic 79, 3) := by decide +kernel
theorem dX0_settle_67 : decode cX0_settle 67 = .ok (.iastore, 1) := by decide +kernel
theorem dX0_settle_68 : decode cX0_settle 68 = .ok (.goto 59, 3) := by decide +kernel
theorem dX0_settle_71 : decode cX0_settle 71 = .ok (.aload_n 0, 1) := by decide +kernel
theorem dX0_settle_72 : decode cX0_settle 72 = .ok (.getfield 9, 3) := by decide +kernel
theorem dX0_settle_75 : decode cX0_settle 75 = .ok (.getfield 72, 3) := by decide +kernel
theorem dX0_settle_78 : decode cX0_settle 78 = .ok (.iconst 1, 1) := by decide +kernel
theorem dX0_settle_79 : decode cX0_settle 79 = .ok (.if_icmp .ne 12, 3) := by decide +kernel
theorem dX0_settle_82 : decode cX0_settle 82 = .ok (.iload 5, 2) := by decide +kernel
theorem dX0_settle_84 : decode cX0_settle 84 = .ok (.iload_n 3, 1) := by decide +kernel
theorem dX0_settle_85 : decode cX0_settle 85 = .ok (.invokestatic 82, 3) := by decide +kernel
theorem dX0_settle_88 : decode cX0_settle 88 = .ok (.goto 9, 3) := by decide +kernel
theorem dX0_settle_91 : decode cX0_settle 91 = .ok (.iload 5, 2) := by decide +kernel
theorem dX0_settle_93 : decode cX0_settle 93 = .ok (.iload_n 3, 1) := by decide +kernel
theorem dX0_settle_94 : decode cX0_settle 94 = .ok (.invokestatic 85, 3) := by decide +kernel
theorem dX0_settle_97 : decode cX0_settle 97 = .ok (.istore 6, 2) := by decide +kernel
theorem dX0_settle_99 : decode cX0_settle 99 = .ok (.aload_n 1, 1) := by decide +kernel
theorem dX0_settle_100 : decode cX0_settle 100 = .ok (.iload_n 2, 1) := by decide +kernel
theorem dX0_settle_101 : decode cX0_settle 101 = .ok (.iload 6, 2) := by decide +kernel
theorem dX0_settle_103 : decode cX0_settle 103 = .ok (.invokestatic 88, 3) := by decide +kernel
theorem dX0_settle_106 : decode cX0_settle 106 = .ok (.aload_n 0, 1) := by decide +kernel
theorem dX0_settle_107 : decode cX0_settle 107 = .ok (.getfield 9, 3) := by decide +kernel
theorem dX0_settle_110 : decode cX0_settle 110 = .ok (.getfield 91, 3) := by decide +kernel
theorem dX0_settle_113 : decode cX0_settle 113 = .ok (.if_icmp .lt 11, 3) := by decide +kernel
theorem dX0_settle_116 : decode cX0_settle 116 = .ok (.iload 6, 2) := by decide +kernel
theorem dX0_settle_118 : decode cX0_settle 118 = .ok (.invokestatic 94, 3) := by decide +kernel
theorem dX0_settle_121 : decode cX0_settle 121 = .ok (.goto 5, 3) := by decide +kernel
theorem dX0_settle_124 : decode cX0_settle 124 = .ok (.iload 6, 2) := by decide +kernel
theorem dX0_settle_126 : decode cX0_settle 126 = .ok (.iastore, 1) := by decide +kernel
theorem dX0_settle_127 : decode cX0_settle 127 = .ok (.return_, 1) := by decide +kernel
theorem dX0_giveColour_0 : decode cX0_giveColour 0 = .ok (.iconst 0, 1) := by decide +kernel
theorem dX0_giveColour_1 : decode cX0_giveColour 1 = .ok (.istore 4, 2) := by decide +kernel
theorem dX0_giveColour_3 : decode cX0_giveColour 3 = .ok (.iload_n 2, 1) := by decide +kernel
theorem dX0_giveColour_4 : decode cX0_giveColour 4 = .ok (.ifCond .eq 43, 3) := by decide +kernel
theorem dX0_giveColour_7 : decode cX0_giveColour 7 = .ok (.iload 4, 2) := by decide +kernel
theorem dX0_giveColour_9 : decode cX0_giveColour 9 = .ok (.aload_n 0, 1) := by decide +kernel
theorem dX0_giveColour_10 : decode cX0_giveColour 10 = .ok (.getfield 9, 3) := by decide +kernel
theorem dX0_giveColour_13 : decode cX0_giveColour 13 = .ok (.getfield 43, 3) := by decide +kernel
theorem dX0_giveColour_16 : decode cX0_giveColour 16 = .ok (.if_icmp .ge 31, 3) := by decide +kernel
theorem dX0_giveColour_19 : decode cX0_giveColour 19 = .ok (.iload_n 2, 1) := by decide +kernel
theorem dX0_giveColour_20 : decode cX0_giveColour 20 = .ok (.iload 4, 2) := by decide +kernel
theorem dX0_giveColour_22 : decode cX0_giveColour 22 = .ok (.ishr, 1) := by decide +kernel
theorem dX0_giveColour_23 : decode cX0_giveColour 23 = .ok (.iconst 1, 1) := by decide +kernel
theorem dX0_giveColour_24 : decode cX0_giveColour 24 = .ok (.iand, 1) := by decide +kernel
theorem dX0_giveColour_25 : decode cX0_giveColour 25 = .ok (.iconst 1, 1) := by decide +kernel
theorem dX0_giveColour_26 : decode cX0_giveColour 26 = .ok (.if_icmp .ne 15, 3) := by decide +kernel
theorem dX0_giveColour_29 : decode cX0_giveColour 29 = .ok (.aload_n 1, 1) := by decide +kernel
theorem dX0_giveColour_30 : decode cX0_giveColour 30 = .ok (.iload 4, 2) := by decide +kernel
theorem dX0_giveColour_32 : decode cX0_giveColour 32 = .ok (.aload_n 1, 1) := by decide +kernel
theorem dX0_giveColour_33 : decode cX0_giveColour 33 = .ok (.iload 4, 2) := by decide +kernel
theorem dX0_giveColour_35 : decode cX0_giveColour 35 = .ok (.iaload, 1) := by decide +kernel
theorem dX0_giveColour_36 : decode cX0_giveColour 36 = .ok (.iload_n 3, 1) := by decide +kernel
theorem dX0_giveColour_37 : decode cX0_giveColour 37 = .ok (.invokestatic 75, 3) := by decide +kernel
theorem dX0_giveColour_40 : decode cX0_giveColour 40 = .ok (.iastore, 1) := by decide +kernel
theorem dX0_giveColour_41 : decode cX0_giveColour 41 = .ok (.iinc 4 1, 3) := by decide +kernel
theorem dX0_giveColour_44 : decode cX0_giveColour 44 = .ok (.goto (-41), 3) := by decide +kernel
theorem dX0_giveColour_47 : decode cX0_giveColour 47 = .ok (.return_, 1) := by decide +kernel
theorem dX0_byFlake_0 : decode cX0_byFlake 0 = .ok (.iload_n 1, 1) := by decide +kernel
theorem dX0_byFlake_1 : decode cX0_byFlake 1 = .ok (.iload_n 0, 1) := by decide +kernel
theorem dX0_byFlake_2 : decode cX0_byFlake 2 = .ok (.invokestatic 29, 3) := by decide +kernel
theorem dX0_byFlake_5 : decode cX0_byFlake 5 = .ok (.if_icmp .eq 13, 3) := by decide +kernel
theorem dX0_byFlake_8 : decode cX0_byFlake 8 = .ok (.iload_n 0, 1) := by decide +kernel
theorem dX0_byFlake_9 : decode cX0_byFlake 9 = .ok (.iload_n 1, 1) := by decide +kernel
theorem dX0_byFlake_10 : decode cX0_byFlake 10 = .ok (.invokestatic 75, 3) := by decide +kernel
theorem dX0_byFlake_13 : decode cX0_byFlake 13 = .ok (.iconst 1, 1) := by decide +kernel
theorem dX0_byFlake_14 : decode cX0_byFlake 14 = .ok (.invokestatic 79, 3) := by decide +kernel
theorem dX0_byFlake_17 : decode cX0_byFlake 17 = .ok (.ireturn, 1) := by decide +kernel
theorem dX0_byFlake_18 : decode cX0_byFlake 18 = .ok (.iload_n 0, 1) := by decide +kernel
theorem dX0_byFlake_19 : decode cX0_byFlake 19 = .ok (.iload_n 0, 1) := by decide +kernel
theorem dX0_byFlake_20 : decode cX0_byFlake 20 = .ok (.invokestatic 88, 3) := by decide +kernel
theorem dX0_byFlake_23 : decode cX0_byFlake 23 = .ok (.iconst 1, 1) := by decide +kernel
theorem dX0_byFlake_24 : decode cX0_byFlake 24 = .ok (.iadd, 1) := by decide +kernel
theorem dX0_byFlake_25 : decode cX0_byFlake 25 = .ok (.invokestatic 79, 3) := by decide +kernel
theorem dX0_byFlake_28 : decode cX0_byFlake 28 = .ok (.ireturn, 1) := by decide +kernel
theorem dX0_byBall_0 : decode cX0_byBall 0 = .ok (.iload_n 0, 1) := by decide +kernel
theorem dX0_byBall_1 : decode cX0_byBall 1 = .ok (.iload_n 1, 1) := by decide +kernel
theorem dX0_byBall_2 : decode cX0_byBall 2 = .ok (.invokestatic 97, 3) := by decide +kernel
theorem dX0_byBall_5 : decode cX0_byBall 5 = .ok (.iconst 1, 1) := by decide +kernel
theorem dX0_byBall_6 : decode cX0_byBall 6 = .ok (.iadd, 1) := by decide +kernel
theorem dX0_byBall_7 : decode cX0_byBall 7 = .ok (.sipush 999, 3) := by decide +kernel
theorem dX0_byBall_10 : decode cX0_byBall 10 = .ok (.invokestatic 100, 3) := by decide +kernel
theorem dX0_byBall_13 : decode cX0_byBall 13 = .ok (.istore_n 2, 1) := by decide +kernel
theorem dX0_byBall_14 : decode cX0_byBall 14 = .ok (.iload_n 0, 1) := by decide +kernel
theorem dX0_byBall_15 : decode cX0_byBall 15 = .ok (.iload_n 1, 1) := by decide +kernel
theorem dX0_byBall_16 : decode cX0_byBall 16 = .ok (.iload_n 2, 1) := by decide +kernel
theorem dX0_byBall_17 : decode cX0_byBall 17 = .ok (.invokestatic 105, 3) := by decide +kernel
theorem dX0_byBall_20 : decode cX0_byBall 20 = .ok (.istore_n 3, 1) := by decide +kernel
theorem dX0_byBall_21 : decode cX0_byBall 21 = .ok (.iload_n 2, 1) := by decide +kernel
theorem dX0_byBall_22 : decode cX0_byBall 22 = .ok (.iload_n 3, 1) := by decide +kernel
theorem dX0_byBall_23 : decode cX0_byBall 23 = .ok (.iload_n 3, 1) := by decide +kernel
theorem dX0_byBall_24 : decode cX0_byBall 24 = .ok (.invokestatic 29, 3) := by decide +kernel
theorem dX0_byBall_27 : decode cX0_byBall 27 = .ok (.invokestatic 97, 3) := by decide +kernel
theorem dX0_byBall_30 : decode cX0_byBall 30 = .ok (.if_icmp .le 9, 3) := by decide +kernel
theorem dX0_byBall_33 : decode cX0_byBall 33 = .ok (.iload_n 3, 1) := by decide +kernel
theorem dX0_byBall_34 : decode cX0_byBall 34 = .ok (.iload_n 1, 1) := by decide +kernel
theorem dX0_byBall_35 : decode cX0_byBall 35 = .ok (.invokestatic 75, 3) := by decide +kernel
theorem dX0_byBall_38 : decode cX0_byBall 38 = .ok (.istore_n 3, 1) := by decide +kernel
theorem dX0_byBall_39 : decode cX0_byBall 39 = .ok (.iload_n 1, 1) := by decide +kernel
theorem dX0_byBall_40 : decode cX0_byBall 40 = .ok (.iload_n 3, 1) := by decide +kernel
theorem dX0_byBall_41 : decode cX0_byBall 41 = .ok (.invokestatic 108, 3) := by decide +kernel
theorem dX0_byBall_44 : decode cX0_byBall 44 = .ok (.if_icmp .eq 13, 3) := by decide +kernel
theorem dX0_byBall_47 : decode cX0_byBall 47 = .ok (.iload_n 3, 1) := by decide +kernel
theorem dX0_byBall_48 : decode cX0_byBall 48 = .ok (.iload_n 1, 1) := by decide +kernel
theorem dX0_byBall_49 : decode cX0_byBall 49 = .ok (.invokestatic 111, 3) := by decide +kernel
theorem dX0_byBall_52 : decode cX0_byBall 52 = .ok (.iconst 1, 1) := by decide +kernel
theorem dX0_byBall_53 : decode cX0_byBall 53 = .ok (.invokestatic 79, 3) := by decide +kernel
theorem dX0_byBall_56 : decode cX0_byBall 56 = .ok (.ireturn, 1) := by decide +kernel
theorem dX0_byBall_57 : decode cX0_byBall 57 = .ok (.iload_n 3, 1) := by decide +kernel
theorem dX0_byBall_58 : decode cX0_byBall 58 = .ok (.iload_n 3, 1) := by decide +kernel
theorem dX0_byBall_59 : decode cX0_byBall 59 = .ok (.invokestatic 88, 3) := by decide +kernel
theorem dX0_byBall_62 : decode cX0_byBall 62 = .ok (.iconst 1, 1) := by decide +kernel
theorem dX0_byBall_63 : decode cX0_byBall 63 = .ok (.iadd, 1) := by decide +kernel
theorem dX0_byBall_64 : decode cX0_byBall 64 = .ok (.invokestatic 79, 3) := by decide +kernel
theorem dX0_byBall_67 : decode cX0_byBall 67 = .ok (.ireturn, 1) := by decide +kernel
theorem dX0_change_0 : decode cX0_change 0 = .ok (.iload_n 1, 1) := by decide +kernel
theorem dX0_change_1 : decode cX0_change 1 = .ok (.invokestatic 39, 3) := by decide +kernel
theorem dX0_change_4 : decode cX0_change 4 = .ok (.ifCond .eq 5, 3) := by decide +kernel
theorem dX0_change_7 : decode cX0_change 7 = .ok (.iconst 2, 1) := by decide +kernel
theorem dX0_change_8 : decode cX0_change 8 = .ok (.ireturn, 1) := by decide +kernel
theorem dX0_change_9 : decode cX0_change 9 = .ok (.iload_n 0, 1) := by decide +kernel
theorem dX0_change_10 : decode cX0_change 10 = .ok (.invokestatic 29, 3) := by decide +kernel
theorem dX0_change_13 : decode cX0_change 13 = .ok (.iload_n 1, 1) := by decide +kernel
theorem dX0_change_14 : decode cX0_change 14 = .ok (.invokestatic 29, 3) := by decide +kernel
theorem dX0_change_17 : decode cX0_change 17 = .ok (.if_icmp .ne 7, 3) := by decide +kernel
theorem dX0_change_20 : decode cX0_change 20 = .ok (.iconst 0, 1) := by decide +kernel
theorem dX0_change_21 : decode cX0_change 21 = .ok (.goto 4, 3) := by decide +kernel
theorem dX0_change_24 : decode cX0_change 24 = .ok (.iconst 1, 1) := by decide +kernel
theorem dX0_change_25 : decode cX0_change 25 = .ok (.ireturn, 1) := by decide +kernel
theorem dX0_isSplit_0 : decode cX0_isSplit 0 = .ok (.aload_n 0, 1) := by decide +kernel
theorem dX0_isSplit_1 : decode cX0_isSplit 1 = .ok (.aload_n 1, 1) := by decide +kernel
theorem dX0_isSplit_2 : decode cX0_isSplit 2 = .ok (.iload_n 2, 1) := by decide +kernel
theorem dX0_isSplit_3 : decode cX0_isSplit 3 = .ok (.invokevirtual 114, 3) := by decide +kernel
theorem dX0_isSplit_6 : decode cX0_isSplit 6 = .ok (.iconst 3, 1) := by decide +kernel
theorem dX0_isSplit_7 : decode cX0_isSplit 7 = .ok (.if_icmp .ne 7, 3) := by decide +kernel
theorem dX0_isSplit_10 : decode cX0_isSplit 10 = .ok (.iconst 1, 1) := by decide +kernel
theorem dX0_isSplit_11 : decode cX0_isSplit 11 = .ok (.goto 4, 3) := by decide +kernel
theorem dX0_isSplit_14 : decode cX0_isSplit 14 = .ok (.iconst 0, 1) := by decide +kernel
theorem dX0_isSplit_15 : decode cX0_isSplit 15 = .ok (.ireturn, 1) := by decide +kernel
theorem dX0_isAgreed_0 : decode cX0_isAgreed 0 = .ok (.iconst 0, 1) := by decide +kernel
theorem dX0_isAgreed_1 : decode cX0_isAgreed 1 = .ok (.istore_n 3, 1) := by decide +kernel
theorem dX0_isAgreed_2 : decode cX0_isAgreed 2 = .ok (.iload_n 3, 1) := by decide +kernel
theorem dX0_isAgreed_3 : decode cX0_isAgreed 3 = .ok (.aload_n 0, 1) := by decide +kernel
theorem dX0_isAgreed_4 : decode cX0_isAgreed 4 = .ok (.getfield 9, 3) := by decide +kernel
theorem dX0_isAgreed_7 : decode cX0_isAgreed 7 = .ok (.getfield 43, 3) := by decide +kernel
theorem dX0_isAgreed_10 : decode cX0_isAgreed 10 = .ok (.if_icmp .ge 34, 3) := by decide +kernel
theorem dX0_isAgreed_13 : decode cX0_isAgreed 13 = .ok (.aload_n 0, 1) := by decide +kernel
theorem dX0_isAgreed_14 : decode cX0_isAgreed 14 = .ok (.getfield 15, 3) := by decide +kernel
theorem dX0_isAgreed_17 : decode cX0_isAgreed 17 = .ok (.getfield 35, 3) := by decide +kernel
theorem dX0_isAgreed_20 : decode cX0_isAgreed 20 = .ok (.iload_n 3, 1) := by decide +kernel
theorem dX0_isAgreed_21 : decode cX0_isAgreed 21 = .ok (.iaload, 1) := by decide +kernel
theorem dX0_isAgreed_22 : decode cX0_isAgreed 22 = .ok (.ifCond .ne 16, 3) := by decide +kernel
theorem dX0_isAgreed_25 : decode cX0_isAgreed 25 = .ok (.aload_n 1, 1) := by decide +kernel
theorem dX0_isAgreed_26 : decode cX0_isAgreed 26 = .ok (.iload_n 2, 1) := by decide +kernel
theorem dX0_isAgreed_27 : decode cX0_isAgreed 27 = .ok (.iload_n 3, 1) := by decide +kernel
theorem dX0_isAgreed_28 : decode cX0_isAgreed 28 = .ok (.iadd, 1) := by decide +kernel
theorem dX0_isAgreed_29 : decode cX0_isAgreed 29 = .ok (.iaload, 1) := by decide +kernel
theorem dX0_isAgreed_30 : decode cX0_isAgreed 30 = .ok (.invokestatic 39, 3) := by decide +kernel
theorem dX0_isAgreed_33 : decode cX0_isAgreed 33 = .ok (.ifCond .ne 5, 3) := by decide +kernel
theorem dX0_isAgreed_36 : decode cX0_isAgreed 36 = .ok (.iconst 0, 1) := by decide +kernel
theorem dX0_isAgreed_37 : decode cX0_isAgreed 37 = .ok (.ireturn, 1) := by decide +kernel
theorem dX0_isAgreed_38 : decode cX0_isAgreed 38 = .ok (.iinc 3 1, 3) := by decide +kernel
theorem dX0_isAgreed_41 : decode cX0_isAgreed 41 = .ok (.goto (-39), 3) := by decide +kernel
theorem dX0_isAgreed_44 : decode cX0_isAgreed 44 = .ok (.aload_n 0, 1) := by decide +kernel
theorem dX0_isAgreed_45 : decode cX0_isAgreed 45 = .ok (.aload_n 1, 1) := by decide +kernel
theorem dX0_isAgreed_46 : decode cX0_isAgreed 46 = .ok (.iload_n 2, 1) := by decide +kernel
theorem dX0_isAgreed_47 : decode cX0_isAgreed 47 = .ok (.invokevirtual 114, 3) := by decide +kernel
theorem dX0_isAgreed_50 : decode cX0_isAgreed 50 = .ok (.istore_n 3, 1) := by decide +kernel
theorem dX0_isAgreed_51 : decode cX0_isAgreed 51 = .ok (.iload_n 3, 1) := by decide +kernel
theorem dX0_isAgreed_52 : decode cX0_isAgreed 52 = .ok (.iconst 1, 1) := by decide +kernel
theorem dX0_isAgreed_53 : decode cX0_isAgreed 53 = .ok (.if_icmp .eq 8, 3) := by decide +kernel
theorem dX0_isAgreed_56 : decode cX0_isAgreed 56 = .ok (.iload_n 3, 1) := by decide +kernel
theorem dX0_isAgreed_57 : decode cX0_isAgreed 57 = .ok (.iconst 2, 1) := by decide +kernel
theorem dX0_isAgreed_58 : decode cX0_isAgreed 58 = .ok (.if_icmp .ne 7, 3) := by decide +kernel
theorem dX0_isAgreed_61 : decode cX0_isAgreed 61 = .ok (.iconst 1, 1) := by decide +kernel
theorem dX0_isAgreed_62 : decode cX0_isAgreed 62 = .ok (.goto 4, 3) := by decide +kernel
theorem dX0_isAgreed_65 : decode cX0_isAgreed 65 = .ok (.iconst 0, 1) := by decide +kernel
theorem dX0_isAgreed_66 : decode cX0_isAgreed 66 = .ok (.ireturn, 1) := by decide +kernel
theorem dX0_decisions_0 : decode cX0_decisions 0 = .ok (.iconst 0, 1) := by decide +kernel
theorem dX0_decisions_1 : decode cX0_decisions 1 = .ok (.istore_n 3, 1) := by decide +kernel
theorem dX0_decisions_2 : decode cX0_decisions 2 = .ok (.iconst 0, 1) := by decide +kernel
theorem dX0_decisions_3 : decode cX0_decisions 3 = .ok (.istore 4, 2) := by decide +kernel
theorem dX0_decisions_5 : decode cX0_decisions 5 = .ok (.iload 4, 2) := by decide +kernel
theorem dX0_decisions_7 : decode cX0_decisions 7 = .ok (.aload_n 0, 1) := by decide +kernel
theorem dX0_decisions_8 : decode cX0_decisions 8 = .ok (.getfield 9, 3) := by decide +kernel
theorem dX0_decisions_11 : decode cX0_decisions 11 = .ok (.getfield 43, 3) := by decide +kernel
theorem dX0_decisions_14 : decode cX0_decisions 14 = .ok (.if_icmp .ge 55, 3) := by decide +kernel
theorem dX0_decisions_17 : decode cX0_decisions 17 = .ok (.aload_n 1, 1) := by decide +kernel
theorem dX0_decisions_18 : decode cX0_decisions 18 = .ok (.iload_n 2, 1) := by decide +kernel
theorem dX0_decisions_19 : decode cX0_decisions 19 = .ok (.iload 4, 2) := by decide +kernel
theorem dX0_decisions_21 : decode cX0_decisions 21 = .ok (.iadd, 1) := by decide +kernel
theorem dX0_decisions_22 : decode cX0_decisions 22 = .ok (.iaload, 1) := by decide +kernel
theorem dX0_decisions_23 : decode cX0_decisions 23 = .ok (.istore 5, 2) := by decide +kernel
theorem dX0_decisions_25 : decode cX0_decisions 25 = .ok (.aload_n 0, 1) := by decide +kernel
theorem dX0_decisions_26 : decode cX0_decisions 26 = .ok (.getfield 15, 3) := by decide +kernel
theorem dX0_decisions_29 : decode cX0_decisions 29 = .ok (.getfield 35, 3) := by decide +kernel
theorem dX0_decisions_32 : decode cX0_decisions 32 = .ok (.iload 4, 2) := by decide +kernel
theorem dX0_decisions_34 : decode cX0_decisions 34 = .ok (.iaload, 1) := by decide +kernel
theorem dX0_decisions_35 : decode cX0_decisions 35 = .ok (.ifCond .ne 28, 3) := by decide +kernel
theorem dX0_decisions_38 : decode cX0_decisions 38 = .ok (.iload 5, 2) := by decide +kernel
theorem dX0_decisions_40 : decode cX0_decisions 40 = .ok (.invokestatic 39, 3) := by decide +kernel
theorem dX0_decisions_43 : decode cX0_decisions 43 = .ok (.ifCond .eq 20, 3) := by decide +kernel
theorem dX0_decisions_46 : decode cX0_decisions 46 = .ok (.iload_n 3, 1) := by decide +kernel
theorem dX0_decisions_47 : decode cX0_decisions 47 = .ok (.iload 5, 2) := by decide +kernel
theorem dX0_decisions_49 : decode cX0_decisions 49 = .ok (.invokestatic 29, 3) := by decide +kernel
theorem dX0_decisions_52 : decode cX0_decisions 52 = .ok (.iconst 1, 1) := by decide +kernel
theorem dX0_decisions_53 : decode cX0_decisions 53 = .ok (.if_icmp .ne 7, 3) := by decide +kernel
theorem dX0_decisions_56 : decode cX0_decisions 56 = .ok (.iconst 2, 1) := by decide +kernel
theorem dX0_decisions_57 : decode cX0_decisions 57 = .ok (.goto 4, 3) := by decide +kernel
theorem dX0_decisions_60 : decode cX0_decisions 60 = .ok (.iconst 1, 1) := by decide +kernel
theorem dX0_decisions_61 : decode cX0_decisions 61 = .ok (.ior, 1) := by decide +kernel
theorem dX0_decisions_62 : decode cX0_decisions 62 = .ok (.istore_n 3, 1) := by decide +kernel
theorem dX0_decisions_63 : decode cX0_decisions 63 = .ok (.iinc 4 1, 3) := by decide +kernel
theorem dX0_decisions_66 : decode cX0_decisions 66 = .ok (.goto (-61), 3) := by decide +kernel
theorem dX0_decisions_69 : decode cX0_decisions 69 = .ok (.iload_n 3, 1) := by decide +kernel
theorem dX0_decisions_70 : decode cX0_decisions 70 = .ok (.ireturn, 1) := by decide +kernel
theorem dX0_honestOnes_0 : decode cX0_honestOnes 0 = .ok (.iconst 0, 1) := by decide +kernel
theorem dX0_honestOnes_1 : decode cX0_honestOnes 1 = .ok (.istore_n 3, 1) := by decide +kernel
theorem dX0_honestOnes_2 : decode cX0_honestOnes 2 = .ok (.iconst 0, 1) := by decide +kernel
theorem dX0_honestOnes_3 : decode cX0_honestOnes 3 = .ok (.istore 4, 2) := by decide +kernel
theorem dX0_honestOnes_5 : decode cX0_honestOnes 5 = .ok (.iload 4, 2) := by decide +kernel
theorem dX0_honestOnes_7 : decode cX0_honestOnes 7 = .ok (.aload_n 0, 1) := by decide +kernel
theorem dX0_honestOnes_8 : decode cX0_honestOnes 8 = .ok (.getfield 9, 3) := by decide +kernel
theorem dX0_honestOnes_11 : decode cX0_honestOnes 11 = .ok (.getfield 43, 3) := by decide +kernel
theorem dX0_honestOnes_14 : decode cX0_honestOnes 14 = .ok (.if_icmp .ge 46, 3) := by decide +kernel
theorem dX0_honestOnes_17 : decode cX0_honestOnes 17 = .ok (.iload_n 3, 1) := by decide +kernel
theorem dX0_honestOnes_18 : decode cX0_honestOnes 18 = .ok (.aload_n 0, 1) := by decide +kernel
theorem dX0_honestOnes_19 : decode cX0_honestOnes 19 = .ok (.getfield 15, 3) := by decide +kernel
theorem dX0_honestOnes_22 : decode cX0_honestOnes 22 = .ok (.getfield 35, 3) := by decide +kernel
theorem dX0_honestOnes_25 : decode cX0_honestOnes 25 = .ok (.iload 4, 2) := by decide +kernel
theorem dX0_honestOnes_27 : decode cX0_honestOnes 27 = .ok (.iaload, 1) := by decide +kernel
theorem dX0_honestOnes_28 : decode cX0_honestOnes 28 = .ok (.ifCond .ne 23, 3) := by decide +kernel
theorem dX0_honestOnes_31 : decode cX0_honestOnes 31 = .ok (.aload_n 1, 1) := by decide +kernel
theorem dX0_honestOnes_32 : decode cX0_honestOnes 32 = .ok (.iload_n 2, 1) := by decide +kernel
theorem dX0_honestOnes_33 : decode cX0_honestOnes 33 = .ok (.iload 4, 2) := by decide +kernel
theorem dX0_honestOnes_35 : decode cX0_honestOnes 35 = .ok (.iadd, 1) := by decide +kernel
theorem dX0_honestOnes_36 : decode cX0_honestOnes 36 = .ok (.iaload, 1) := by decide +kernel
theorem dX0_honestOnes_37 : decode cX0_honestOnes 37 = .ok (.invokestatic 29, 3) := by decide +kernel
theorem dX0_honestOnes_40 : decode cX0_honestOnes 40 = .ok (.iconst 1, 1) := by decide +kernel
theorem dX0_honestOnes_41 : decode cX0_honestOnes 41 = .ok (.if_icmp .ne 10, 3) := by decide +kernel
theorem dX0_honestOnes_44 : decode cX0_honestOnes 44 = .ok (.iconst 1, 1) := by decide +kernel
theorem dX0_honestOnes_45 : decode cX0_honestOnes 45 = .ok (.iload 4, 2) := by decide +kernel
theorem dX0_honestOnes_47 : decode cX0_honestOnes 47 = .ok (.ishl, 1) := by decide +kernel
theorem dX0_honestOnes_48 : decode cX0_honestOnes 48 = .ok (.goto 4, 3) := by decide +kernel
theorem dX0_honestOnes_51 : decode cX0_honestOnes 51 = .ok (.iconst 0, 1) := by decide +kernel
theorem dX0_honestOnes_52 : decode cX0_honestOnes 52 = .ok (.ior, 1) := by decide +kernel
theorem dX0_honestOnes_53 : decode cX0_honestOnes 53 = .ok (.istore_n 3, 1) := by decide +kernel
theorem dX0_honestOnes_54 : decode cX0_honestOnes 54 = .ok (.iinc 4 1, 3) := by decide +kernel
theorem dX0_honestOnes_57 : decode cX0_honestOnes 57 = .ok (.goto (-52), 3) := by decide +kernel
theorem dX0_honestOnes_60 : decode cX0_honestOnes 60 = .ok (.iload_n 3, 1) := by decide +kernel
theorem dX0_honestOnes_61 : decode cX0_honestOnes 61 = .ok (.ireturn, 1) := by decide +kernel
theorem dX1_init_0 : decode cX1_init 0 = .ok (.aload_n 0, 1) := by decide +kernel
theorem dX1_init_1 : decode cX1_init 1 = .ok (.invokespecial 3, 3) := by decide +kernel
theorem dX1_init_4 : decode cX1_init 4 = .ok (.aload_n 0, 1) := by decide +kernel
theorem dX1_init_5 : decode cX1_init 5 = .ok (.bipush 9, 2) := by decide +kernel
theorem dX1_init_7 : decode cX1_init 7 = .ok (.anewarray 9, 3) := by decide +kernel
theorem dX1_init_10 : decode cX1_init 10 = .ok (.putfield 11, 3) := by decide +kernel
theorem dX1_init_13 : decode cX1_init 13 = .ok (.aload_n 0, 1) := by decide +kernel
theorem dX1_init_14 : decode cX1_init 14 = .ok (.bipush 9, 2) := by decide +kernel
theorem dX1_init_16 : decode cX1_init 16 = .ok (.anewarray 9, 3) := by decide +kernel
theorem dX1_init_19 : decode cX1_init 19 = .ok (.putfield 17, 3) := by decide +kernel
theorem dX1_init_22 : decode cX1_init 22 = .ok (.aload_n 0, 1) := by decide +kernel
theorem dX1_init_23 : decode cX1_init 23 = .ok (.bipush 9, 2) := by decide +kernel
theorem dX1_init_25 : decode cX1_init 25 = .ok (.anewarray 9, 3) := by decide +kernel
theorem dX1_init_28 : decode cX1_init 28 = .ok (.putfield 20, 3) := by decide +kernel
theorem dX1_init_31 : decode cX1_init 31 = .ok (.aload_n 0, 1) := by decide +kernel
theorem dX1_init_32 : decode cX1_init 32 = .ok (.bipush 9, 2) := by decide +kernel
theorem dX1_init_34 : decode cX1_init 34 = .ok (.anewarray 9, 3) := by decide +kernel
theorem dX1_init_37 : decode cX1_init 37 = .ok (.putfield 23, 3) := by decide +kernel
theorem dX1_init_40 : decode cX1_init 40 = .ok (.aload_n 0, 1) := by decide +kernel
theorem dX1_init_41 : decode cX1_init 41 = .ok (.aload_n 1, 1) := by decide +kernel
theorem dX1_init_42 : decode cX1_init 42 = .ok (.putfield 26, 3) := by decide +kernel
theorem dX1_init_45 : decode cX1_init 45 = .ok (.return_, 1) := by decide +kernel
theorem dX1_forget_0 : decode cX1_forget 0 = .ok (.aload_n 0, 1) := by decide +kernel
theorem dX1_forget_1 : decode cX1_forget 1 = .ok (.iconst 0, 1) := by decide +kernel
theorem dX1_forget_2 : decode cX1_forget 2 = .ok (.putfield 30, 3) := by decide +kernel
theorem dX1_forget_5 : decode cX1_forget 5 = .ok (.return_, 1) := by decide +kernel
theorem dX1_mayStay_0 : decode cX1_mayStay 0 = .ok (.aload_n 0, 1) := by decide +kernel
theorem dX1_mayStay_1 : decode cX1_mayStay 1 = .ok (.iload_n 1, 1) := by decide +kernel
theorem dX1_mayStay_2 : decode cX1_mayStay 2 = .ok (.invokevirtual 34, 3) := by decide +kernel
theorem dX1_mayStay_5 : decode cX1_mayStay 5 = .ok (.ifCond .ne 11, 3) := by decide +kernel
theorem dX1_mayStay_8 : decode cX1_mayStay 8 = .ok (.aload_n 0, 1) := by decide +kernel
theorem dX1_mayStay_9 : decode cX1_mayStay 9 = .ok (.iload_n 1, 1) := by decide +kernel
theorem dX1_mayStay_10 : decode cX1_mayStay 10 = .ok (.invokevirtual 38, 3) := by decide +kernel
theorem dX1_mayStay_13 : decode cX1_mayStay 13 = .ok (.ifCond .eq 7, 3) := by decide +kernel
theorem dX1_mayStay_16 : decode cX1_mayStay 16 = .ok (.iconst 1, 1) := by decide +kernel
theorem dX1_mayStay_17 : decode cX1_mayStay 17 = .ok (.goto 4, 3) := by decide +kernel
theorem dX1_mayStay_20 : decode cX1_mayStay 20 = .ok (.iconst 0, 1) := by decide +kernel
theorem dX1_mayStay_21 : decode cX1_mayStay 21 = .ok (.ireturn, 1) := by decide +kernel
theorem dX1_staysAbove_0 : decode cX1_staysAbove 0 = .ok (.iload_n 1, 1) := by decide +kernel
theorem dX1_staysAbove_1 : decode cX1_staysAbove 1 = .ok (.istore_n 2, 1) := by decide +kernel
theorem dX1_staysAbove_2 : decode cX1_staysAbove 2 = .ok (.iload_n 2, 1) := by decide +kernel
theorem dX1_staysAbove_3 : decode cX1_staysAbove 3 = .ok (.ifCond .le 48, 3) := by decide +kernel
theorem dX1_staysAbove_6 : decode cX1_staysAbove 6 = .ok (.iload_n 2, 1) := by decide +kernel
theorem dX1_staysAbove_7 : decode cX1_staysAbove 7 = .ok (.aload_n 0, 1) := by decide +kernel
theorem dX1_staysAbove_8 : decode cX1_staysAbove 8 = .ok (.getfield 26, 3) := by decide +kernel
theorem dX1_staysAbove_11 : decode cX1_staysAbove 11 = .ok (.getfield 41, 3) := by decide +kernel
theorem dX1_staysAbove_14 : decode cX1_staysAbove 14 = .ok (.if_icmp .ge 37, 3) := by decide +kernel
theorem dX1_staysAbove_17 : decode cX1_staysAbove 17 = .ok (.aload_n 0, 1) := by decide +kernel
theorem dX1_staysAbove_18 : decode cX1_staysAbove 18 = .ok (.getfield 26, 3) := by decide +kernel
theorem dX1_staysAbove_21 : decode cX1_staysAbove 21 = .ok (.iload_n 2, 1) := by decide +kernel
theorem dX1_staysAbove_22 : decode cX1_staysAbove 22 = .ok (.invokevirtual 47, 3) := by decide +kernel
theorem dX1_staysAbove_25 : decode cX1_staysAbove 25 = .ok (.ifCond .ne 20, 3) := by decide +kernel
theorem dX1_staysAbove_28 : decode cX1_staysAbove 28 = .ok (.aload_n 0, 1) := by decide +kernel
theorem dX1_staysAbove_29 : decode cX1_staysAbove 29 = .ok (.getfield 26, 3) := by decide +kernel
theorem dX1_staysAbove_32 : decode cX1_staysAbove 32 = .ok (.iload_n 2, 1) := by decide +kernel
theorem dX1_staysAbove_33 : decode cX1_staysAbove 33 = .ok (.invokevirtual 51, 3) := by decide +kernel
theorem dX1_staysAbove_36 : decode cX1_staysAbove 36 = .ok (.ifCond .ne 7, 3) := by decide +kernel
theorem dX1_staysAbove_39 : decode cX1_staysAbove 39 = .ok (.iconst 1, 1) := by decide +kernel
theorem dX1_staysAbove_40 : decode cX1_staysAbove 40 = .ok (.goto 4, 3) := by decide +kernel
theorem dX1_staysAbove_43 : decode cX1_staysAbove 43 = .ok (.iconst 0, 1) := by decide +kernel
theorem dX1_staysAbove_44 : decode cX1_staysAbove 44 = .ok (.ireturn, 1) := by decide +kernel
theorem dX1_staysAbove_45 : decode cX1_staysAbove 45 = .ok (.iinc 2 1, 3) := by decide +kernel
theorem dX1_staysAbove_48 : decode cX1_staysAbove 48 = .ok (.goto (-46), 3) := by decide +kernel
theorem dX1_staysAbove_51 : decode cX1_staysAbove 51 = .ok (.iconst 0, 1) := by decide +kernel
theorem dX1_staysAbove_52 : decode cX1_staysAbove 52 = .ok (.ireturn, 1) := by decide +kernel
theorem dX1_staysBelow_0 : decode cX1_staysBelow 0 = .ok (.iload_n 1, 1) := by decide +kernel
theorem dX1_staysBelow_1 : decode cX1_staysBelow 1 = .ok (.istore_n 2, 1) := by decide +kernel
theorem dX1_staysBelow_2 : decode cX1_staysBelow 2 = .ok (.iload_n 2, 1) := by decide +kernel
theorem dX1_staysBelow_3 : decode cX1_staysBelow 3 = .ok (.ifCond .le 48, 3) := by decide +kernel
theorem dX1_staysBelow_6 : decode cX1_staysBelow 6 = .ok (.iload_n 2, 1) := by decide +kernel
theorem dX1_staysBelow_7 : decode cX1_staysBelow 7 = .ok (.aload_n 0, 1) := by decide +kernel
theorem dX1_staysBelow_8 : decode cX1_staysBelow 8 = .ok (.getfield 26, 3) := by decide +kernel
theorem dX1_staysBelow_11 : decode cX1_staysBelow 11 = .ok (.getfield 41, 3) := by decide +kernel
theorem dX1_staysBelow_14 : decode cX1_staysBelow 14 = .ok (.if_icmp .ge 37, 3) := by decide +kernel
theorem dX1_staysBelow_17 : decode cX1_staysBelow 17 = .ok (.aload_n 0, 1) := by decide +kernel
theorem dX1_staysBelow_18 : decode cX1_staysBelow 18 = .ok (.getfield 26, 3) := by decide +kernel
theorem dX1_staysBelow_21 : decode cX1_staysBelow 21 = .ok (.iload_n 2, 1) := by decide +kernel
theorem dX1_staysBelow_22 : decode cX1_staysBelow 22 = .ok (.invokevirtual 51, 3) := by decide +kernel
theorem dX1_staysBelow_25 : decode cX1_staysBelow 25 = .ok (.ifCond .ne 20, 3) := by decide +kernel
theorem dX1_staysBelow_28 : decode cX1_staysBelow 28 = .ok (.aload_n 0, 1) := by decide +kernel
theorem dX1_staysBelow_29 : decode cX1_staysBelow 29 = .ok (.getfield 26, 3) := by decide +kernel
theorem dX1_staysBelow_32 : decode cX1_staysBelow 32 = .ok (.iload_n 2, 1) := by decide +kernel
theorem dX1_staysBelow_33 : decode cX1_staysBelow 33 = .ok (.invokevirtual 47, 3) := by decide +kernel
theorem dX1_staysBelow_36 : decode cX1_staysBelow 36 = .ok (.ifCond .ne 7, 3) := by decide +kernel
theorem dX1_staysBelow_39 : decode cX1_staysBelow 39 = .ok (.iconst 1, 1) := by decide +kernel
theorem dX1_staysBelow_40 : decode cX1_staysBelow 40 = .ok (.goto 4, 3) := by decide +kernel
theorem dX1_staysBelow_43 : decode cX1_staysBelow 43 = .ok (.iconst 0, 1) := by decide +kernel
theorem dX1_staysBelow_44 : decode cX1_staysBelow 44 = .ok (.ireturn, 1) := by decide +kernel
theorem dX1_staysBelow_45 : decode cX1_staysBelow 45 = .ok (.iinc 2 (-1), 3) := by decide +kernel
theorem dX1_staysBelow_48 : decode cX1_staysBelow 48 = .ok (.goto (-46), 3) := by decide +kernel
theorem dX1_staysBelow_51 : decode cX1_staysBelow 51 = .ok (.iconst 0, 1) := by decide +kernel
theorem dX1_staysBelow_52 : decode cX1_staysBelow 52 = .ok (.ireturn, 1) := by decide +kernel
theorem dX1_findAll_0 : decode cX1_findAll 0 = .ok (.aload_n 0, 1) := by decide +kernel
theorem dX1_findAll_1 : decode cX1_findAll 1 = .ok (.getfield 30, 3) := by decide +kernel
theorem dX1_findAll_4 : decode cX1_findAll 4 = .ok (.ifCond .eq 4, 3) := by decide +kernel
theorem dX1_findAll_7 : decode cX1_findAll 7 = .ok (.return_, 1) := by decide +kernel
theorem dX1_findAll_8 : decode cX1_findAll 8 = .ok (.aload_n 0, 1) := by decide +kernel
theorem dX1_findAll_9 : decode cX1_findAll 9 = .ok (.iconst 1, 1) := by decide +kernel
theorem dX1_findAll_10 : decode cX1_findAll 10 = .ok (.putfield 30, 3) := by decide +kernel
theorem dX1_findAll_13 : decode cX1_findAll 13 = .ok (.aload_n 0, 1) := by decide +kernel
theorem dX1_findAll_14 : decode cX1_findAll 14 = .ok (.lconst 0, 1) := by decide +kernel
theorem dX1_findAll_15 : decode cX1_findAll 15 = .ok (.invokestatic 54, 3) := by decide +kernel
theorem dX1_findAll_18 : decode cX1_findAll 18 = .ok (.lconst 1, 1) := by decide +kernel
theorem dX1_findAll_19 : decode cX1_findAll 19 = .ok (.invokestatic 54, 3) := by decide +kernel
theorem dX1_findAll_22 : decode cX1_findAll 22 = .ok (.aload_n 0, 1) := by decide +kernel
theorem dX1_findAll_23 : decode cX1_findAll 23 = .ok (.getfield 20, 3) := by decide +kernel
theorem dX1_findAll_26 : decode cX1_findAll 26 = .ok (.invokevirtual 58, 3) := by decide +kernel
theorem dX1_findAll_29 : decode cX1_findAll 29 = .ok (.aload_n 0, 1) := by decide +kernel
theorem dX1_findAll_30 : decode cX1_findAll 30 = .ok (.aload_n 0, 1) := by decide +kernel
theorem dX1_findAll_31 : decode cX1_findAll 31 = .ok (.getfield 26, 3) := by decide +kernel
theorem dX1_findAll_34 : decode cX1_findAll 34 = .ok (.getfield 41, 3) := by decide +kernel
theorem dX1_findAll_37 : decode cX1_findAll 37 = .ok (.i2l, 1) := by decide +kernel
theorem dX1_findAll_38 : decode cX1_findAll 38 = .ok (.aload_n 0, 1) := by decide +kernel
theorem dX1_findAll_39 : decode cX1_findAll 39 = .ok (.getfield 26, 3) := by decide +kernel
theorem dX1_findAll_42 : decode cX1_findAll 42 = .ok (.getfield 62, 3) := by decide +kernel
theorem dX1_findAll_45 : decode cX1_findAll 45 = .ok (.i2l, 1) := by decide +kernel
theorem dX1_findAll_46 : decode cX1_findAll 46 = .ok (.lmul, 1) := by decide +kernel
theorem dX1_findAll_47 : decode cX1_findAll 47 = .ok (.invokestatic 54, 3) := by decide +kernel
theorem dX1_findAll_50 : decode cX1_findAll 50 = .ok (.lconst 0, 1) := by decide +kernel
theorem dX1_findAll_51 : decode cX1_findAll 51 = .ok (.invokestatic 54, 3) := by decide +kernel
theorem dX1_findAll_54 : decode cX1_findAll 54 = .ok (.aload_n 0, 1) := by decide +kernel
theorem dX1_findAll_55 : decode cX1_findAll 55 = .ok (.getfield 23, 3) := by decide +kernel
theorem dX1_findAll_58 : decode cX1_findAll 58 = .ok (.invokevirtual 58, 3) := by decide +kernel
theorem dX1_findAll_61 : decode cX1_findAll 61 = .ok (.return_, 1) := by decide +kernel
theorem dX1_solve_0 : decode cX1_solve 0 = .ok (.aload_n 0, 1) := by decide +kernel
theorem dX1_solve_1 : decode cX1_solve 1 = .ok (.getfield 11, 3) := by decide +kernel
theorem dX1_solve_4 : decode cX1_solve 4 = .ok (.iconst 0, 1) := by decide +kernel
theorem dX1_solve_5 : decode cX1_solve 5 = .ok (.lconst 0, 1) := by decide +kernel
theorem dX1_solve_6 : decode cX1_solve 6 = .ok (.invokestatic 54, 3) := by decide +kernel
theorem dX1_solve_9 : decode cX1_solve 9 = .ok (.aastore, 1) := by decide +kernel
theorem dX1_solve_10 : decode cX1_solve 10 = .ok (.aload_n 0, 1) := by decide +kernel
theorem dX1_solve_11 : decode cX1_solve 11 = .ok (.getfield 17, 3) := by decide +kernel
theorem dX1_solve_14 : decode cX1_solve 14 = .ok (.iconst 0, 1) := by decide +kernel
theorem dX1_solve_15 : decode cX1_solve 15 = .ok (.lconst 0, 1) := by decide +kernel
theorem dX1_solve_16 : decode cX1_solve 16 = .ok (.invokestatic 54, 3) := by decide +kernel
theorem dX1_solve_19 : decode cX1_solve 19 = .ok (.aastore, 1) := by decide +kernel
theorem dX1_solve_20 : decode cX1_solve 20 = .ok (.iconst 1, 1) := by decide +kernel
theorem dX1_solve_21 : decode cX1_solve 21 = .ok (.istore 4, 2) := by decide +kernel
theorem dX1_solve_23 : decode cX1_solve 23 = .ok (.iload 4, 2) := by decide +kernel
theorem dX1_solve_25 : decode cX1_solve 25 = .ok (.aload_n 0, 1) := by decide +kernel
theorem dX1_solve_26 : decode cX1_solve 26 = .ok (.getfield 26, 3) := by decide +kernel
theorem dX1_solve_29 : decode cX1_solve 29 = .ok (.getfield 41, 3) := by decide +kernel
theorem dX1_solve_32 : decode cX1_solve 32 = .ok (.if_icmp .ge 16, 3) := by decide +kernel
theorem dX1_solve_35 : decode cX1_solve 35 = .ok (.aload_n 0, 1) := by decide +kernel
theorem dX1_solve_36 : decode cX1_solve 36 = .ok (.iload 4, 2) := by decide +kernel
theorem dX1_solve_38 : decode cX1_solve 38 = .ok (.aload_n 1, 1) := by decide +kernel
theorem dX1_solve_39 : decode cX1_solve 39 = .ok (.invokevirtual 65, 3) := by decide +kernel
theorem dX1_solve_42 : decode cX1_solve 42 = .ok (.iinc 4 1, 3) := by decide +kernel
theorem dX1_solve_45 : decode cX1_solve 45 = .ok (.goto (-22), 3) := by decide +kernel
theorem dX1_solve_48 : decode cX1_solve 48 = .ok (.aload_n 3, 1) := by decide +kernel
theorem dX1_solve_49 : decode cX1_solve 49 = .ok (.aload_n 0, 1) := by decide +kernel
theorem dX1_solve_50 : decode cX1_solve 50 = .ok (.getfield 26, 3) := by decide +kernel
theorem dX1_solve_53 : decode cX1_solve 53 = .ok (.getfield 41, 3) := by decide +kernel
theorem dX1_solve_56 : decode cX1_solve 56 = .ok (.aload_n 2, 1) := by decide +kernel
theorem dX1_solve_57 : decode cX1_solve 57 = .ok (.aastore, 1) := by decide +kernel
theorem dX1_solve_58 : decode cX1_solve 58 = .ok (.aload_n 0, 1) := by decide +kernel
theorem dX1_solve_59 : decode cX1_solve 59 = .ok (.getfield 26, 3) := by decide +kernel
theorem dX1_solve_62 : decode cX1_solve 62 = .ok (.getfield 41, 3) := by decide +kernel
theorem dX1_solve_65 : decode cX1_solve 65 = .ok (.iconst 1, 1) := by decide +kernel
theorem dX1_solve_66 : decode cX1_solve 66 = .ok (.isub, 1) := by decide +kernel
theorem dX1_solve_67 : decode cX1_solve 67 = .ok (.istore 4, 2) := by decide +kernel
theorem dX1_solve_69 : decode cX1_solve 69 = .ok (.iload 4, 2) := by decide +kernel
theorem dX1_solve_71 : decode cX1_solve 71 = .ok (.ifCond .lt 39, 3) := by decide +kernel
theorem dX1_solve_74 : decode cX1_solve 74 = .ok (.aload_n 3, 1) := by decide +kernel
theorem dX1_solve_75 : decode cX1_solve 75 = .ok (.iload 4, 2) := by decide +kernel
theorem dX1_solve_77 : decode cX1_solve 77 = .ok (.aload_n 0, 1) := by decide +kernel
theorem dX1_solve_78 : decode cX1_solve 78 = .ok (.getfield 11, 3) := by decide +kernel
theorem dX1_solve_81 : decode cX1_solve 81 = .ok (.iload 4, 2) := by decide +kernel
theorem dX1_solve_83 : decode cX1_solve 83 = .ok (.aaload, 1) := by decide +kernel
theorem dX1_solve_84 : decode cX1_solve 84 = .ok (.aload_n 3, 1) := by decide +kernel
theorem dX1_solve_85 : decode cX1_solve 85 = .ok (.iload 4, 2) := by decide +kernel
theorem dX1_solve_87 : decode cX1_solve 87 = .ok (.iconst 1, 1) := by decide +kernel
theorem dX1_solve_88 : decode cX1_solve 88 = .ok (.iadd, 1) := by decide +kernel
theorem dX1_solve_89 : decode cX1_solve 89 = .ok (.aaload, 1) := by decide +kernel
theorem dX1_solve_90 : decode cX1_solve 90 = .ok (.invokevirtual 69, 3) := by decide +kernel
theorem dX1_solve_93 : decode cX1_solve 93 = .ok (.aload_n 0, 1) := by decide +kernel
theorem dX1_solve_94 : decode cX1_solve 94 = .ok (.getfield 17, 3) := by decide +kernel
theorem dX1_solve_97 : decode cX1_solve 97 = .ok (.iload 4, 2) := by decide +kernel
theorem dX1_solve_99 : decode cX1_solve 99 = .ok (.aaload, 1) := by decide +kernel
theorem dX1_solve_100 : decode cX1_solve 100 = .ok (.invokevirtual 73, 3) := by decide +kernel
theorem dX1_solve_103 : decode cX1_solve 103 = .ok (.aastore, 1) := by decide +kernel
theorem dX1_solve_104 : decode cX1_solve 104 = .ok (.iinc 4 (-1), 3) := by decide +kernel
theorem dX1_solve_107 : decode cX1_solve 107 = .ok (.goto (-38), 3) := by decide +kernel
theorem dX1_solve_110 : decode cX1_solve 110 = .ok (.return_, 1) := by decide +kernel
theorem dX1_eliminate_0 : decode cX1_eliminate 0 = .ok (.aload_n 0, 1) := by decide +kernel
theorem dX1_eliminate_1 : decode cX1_eliminate 1 = .ok (.getfield 26, 3) := by decide +kernel
theorem dX1_eliminate_4 : decode cX1_eliminate 4 = .ok (.iload_n 1, 1) := by decide +kernel
theorem dX1_eliminate_5 : decode cX1_eliminate 5 = .ok (.invokevirtual 47, 3) := by decide +kernel
theorem dX1_eliminate_8 : decode cX1_eliminate 8 = .ok (.i2l, 1) := by decide +kernel
theorem dX1_eliminate_9 : decode cX1_eliminate 9 = .ok (.invokestatic 54, 3) := by decide +kernel
theorem dX1_eliminate_12 : decode cX1_eliminate 12 = .ok (.astore_n 3, 1) := by decide +kernel
theorem dX1_eliminate_13 : decode cX1_eliminate 13 = .ok (.aload_n 0, 1) := by decide +kernel
theorem dX1_eliminate_14 : decode cX1_eliminate 14 = .ok (.getfield 26, 3) := by decide +kernel
theorem dX1_eliminate_17 : decode cX1_eliminate 17 = .ok (.iload_n 1, 1) := by decide +kernel
theorem dX1_eliminate_18 : decode cX1_eliminate 18 = .ok (.invokevirtual 51, 3) := by decide +kernel
theorem dX1_eliminate_21 : decode cX1_eliminate 21 = .ok (.i2l, 1) := by decide +kernel
theorem dX1_eliminate_22 : decode cX1_eliminate 22 = .ok (.invokestatic 54, 3) := by decide +kernel
theorem dX1_eliminate_25 : decode cX1_eliminate 25 = .ok (.astore 4, 2) := by decide +kernel
theorem dX1_eliminate_27 : decode cX1_eliminate 27 = .ok (.aload_n 3, 1) := by decide +kernel
theorem dX1_eliminate_28 : decode cX1_eliminate 28 = .ok (.aload 4, 2) := by decide +kernel
theorem dX1_eliminate_30 : decode cX1_eliminate 30 = .ok (.invokevirtual 73, 3) := by decide +kernel
theorem dX1_eliminate_33 : decode cX1_eliminate 33 = .ok (.aload 4, 2) := by decide +kernel
theorem dX1_eliminate_35 : decode cX1_eliminate 35 = .ok (.aload_n 0, 1) := by decide +kernel
theorem dX1_eliminate_36 : decode cX1_eliminate 36 = .ok (.getfield 11, 3) := by decide +kernel
theorem dX1_eliminate_39 : decode cX1_eliminate 39 = .ok (.iload_n 1, 1) := by decide +kernel
theorem dX1_eliminate_40 : decode cX1_eliminate 40 = .ok (.iconst 1, 1) := by decide +kernel
theorem dX1_eliminate_41 : decode cX1_eliminate 41 = .ok (.isub, 1) := by decide +kernel
theorem dX1_eliminate_42 : decode cX1_eliminate 42 = .ok (.aaload, 1) := by decide +kernel
theorem dX1_eliminate_43 : decode cX1_eliminate 43 = .ok (.invokevirtual 69, 3) := by decide +kernel
theorem dX1_eliminate_46 : decode cX1_eliminate 46 = .ok (.invokevirtual 76, 3) := by decide +kernel
theorem dX1_eliminate_49 : decode cX1_eliminate 49 = .ok (.astore 5, 2) := by decide +kernel
theorem dX1_eliminate_51 : decode cX1_eliminate 51 = .ok (.aload 5, 2) := by decide +kernel
theorem dX1_eliminate_53 : decode cX1_eliminate 53 = .ok (.invokevirtual 79, 3) := by decide +kernel
theorem dX1_eliminate_56 : decode cX1_eliminate 56 = .ok (.ifCond .eq 26, 3) := by decide +kernel
theorem dX1_eliminate_59 : decode cX1_eliminate 59 = .ok (.aload_n 0, 1) := by decide +kernel
theorem dX1_eliminate_60 : decode cX1_eliminate 60 = .ok (.getfield 11, 3) := by decide +kernel
theorem dX1_eliminate_63 : decode cX1_eliminate 63 = .ok (.iload_n 1, 1) := by decide +kernel
theorem dX1_eliminate_64 : decode cX1_eliminate 64 = .ok (.lconst 0, 1) := by decide +kernel
theorem dX1_eliminate_65 : decode cX1_eliminate 65 = .ok (.invokestatic 54, 3) := by decide +kernel
theorem dX1_eliminate_68 : decode cX1_eliminate 68 = .ok (.aastore, 1) := by decide +kernel
theorem dX1_eliminate_69 : decode cX1_eliminate 69 = .ok (.aload_n 0, 1) := by decide +kernel
theorem dX1_eliminate_70 : decode cX1_eliminate 70 = .ok (.getfield 17, 3) := by decide +kernel
theorem dX1_eliminate_73 : decode cX1_eliminate 73 = .ok (.iload_n 1, 1) := by decide +kernel
theorem dX1_eliminate_74 : decode cX1_eliminate 74 = .ok (.lconst 0, 1) := by decide +kernel
theorem dX1_eliminate_75 : decode cX1_eliminate 75 = .ok (.invokestatic 54, 3) := by decide +kernel
theorem dX1_eliminate_78 : decode cX1_eliminate 78 = .ok (.aastore, 1) := by decide +kernel
theorem dX1_eliminate_79 : decode cX1_eliminate 79 = .ok (.goto 43, 3) := by decide +kernel
theorem dX1_eliminate_82 : decode cX1_eliminate 82 = .ok (.aload_n 0, 1) := by decide +kernel
theorem dX1_eliminate_83 : decode cX1_eliminate 83 = .ok (.getfield 11, 3) := by decide +kernel
theorem dX1_eliminate_86 : decode cX1_eliminate 86 = .ok (.iload_n 1, 1) := by decide +kernel
theorem dX1_eliminate_87 : decode cX1_eliminate 87 = .ok (.aload_n 3, 1) := by decide +kernel
theorem dX1_eliminate_88 : decode cX1_eliminate 88 = .ok (.aload 5, 2) := by decide +kernel
theorem dX1_eliminate_90 : decode cX1_eliminate 90 = .ok (.invokevirtual 83, 3) := by decide +kernel
theorem dX1_eliminate_93 : decode cX1_eliminate 93 = .ok (.aastore, 1) := by decide +kernel
theorem dX1_eliminate_94 : decode cX1_eliminate 94 = .ok (.aload_n 0, 1) := by decide +kernel
theorem dX1_eliminate_95 : decode cX1_eliminate 95 = .ok (.getfield 17, 3) := by decide +kernel
theorem dX1_eliminate_98 : decode cX1_eliminate 98 = .ok (.iload_n 1, 1) := by decide +kernel
theorem dX1_eliminate_99 : decode cX1_eliminate 99 = .ok (.aload_n 2, 1) := by decide +kernel
theorem dX1_eliminate_100 : decode cX1_eliminate 100 = .ok (.aload 4, 2) := by decide +kernel
theorem dX1_eliminate_102 : decode cX1_eliminate 102 = .ok (.aload_n 0, 1) := by decide +kernel
theorem dX1_eliminate_103 : decode cX1_eliminate 103 = .ok (.getfield 17, 3) := by decide +kernel
theorem dX1_eliminate_106 : decode cX1_eliminate 106 = .ok (.iload_n 1, 1) := by decide +kernel
theorem dX1_eliminate_107 : decode cX1_eliminate 107 = .ok (.iconst 1, 1) := by decide +kernel
theorem dX1_eliminate_108 : decode cX1_eliminate 108 = .ok (.isub, 1) := by decide +kernel
theorem dX1_eliminate_109 : decode cX1_eliminate 109 = .ok (.aaload, 1) := by decide +kernel
theorem dX1_eliminate_110 : decode cX1_eliminate 110 = .ok (.invokevirtual 69, 3) := by decide +kernel
theorem dX1_eliminate_113 : decode cX1_eliminate 113 = .ok (.invokevirtual 73, 3) := by decide +kernel
theorem dX1_eliminate_116 : decode cX1_eliminate 116 = .ok (.aload 5, 2) := by decide +kernel
theorem dX1_eliminate_118 : decode cX1_eliminate 118 = .ok (.invokevirtual 83, 3) := by decide +kernel
theorem dX1_eliminate_121 : decode cX1_eliminate 121 = .ok (.aastore, 1) := by decide +kernel
theorem dX1_eliminate_122 : decode cX1_eliminate 122 = .ok (.return_, 1) := by decide +kernel
theorem dX2_init_0 : decode cX2_init 0 = .ok (.aload_n 0, 1) := by decide +kernel
theorem dX2_init_1 : decode cX2_init 1 = .ok (.invokespecial 3, 3) := by decide +kernel
theorem dX2_init_4 : decode cX2_init 4 = .ok (.aload_n 0, 1) := by decide +kernel
theorem dX2_init_5 : decode cX2_init 5 = .ok (.lload_n 1, 1) := by decide +kernel
theorem dX2_init_6 : decode cX2_init 6 = .ok (.putfield 9, 3) := by decide +kernel
theorem dX2_init_9 : decode cX2_init 9 = .ok (.aload_n 0, 1) := by decide +kernel
theorem dX2_init_10 : decode cX2_init 10 = .ok (.lload_n 3, 1) := by decide +kernel
theorem dX2_init_11 : decode cX2_init 11 = .ok (.putfield 15, 3) := by decide +kernel
theorem dX2_init_14 : decode cX2_init 14 = .ok (.return_, 1) := by decide +kernel
theorem dX2_whole_0 : decode cX2_whole 0 = .ok (.new 10, 3) := by decide +kernel
theorem dX2_whole_3 : decode cX2_whole 3 = .ok (.dup, 1) := by decide +kernel
theorem dX2_whole_4 : decode cX2_whole 4 = .ok (.lload_n 0, 1) := by decide +kernel
theorem dX2_whole_5 : decode cX2_whole 5 = .ok (.lconst 1, 1) := by decide +kernel
theorem dX2_whole_6 : decode cX2_whole 6 = .ok (.invokespecial 18, 3) := by decide +kernel
theorem dX2_whole_9 : decode cX2_whole 9 = .ok (.areturn, 1) := by decide +kernel
theorem dX2_least_0 : decode cX2_least 0 = .ok (.lload_n 0, 1) := by decide +kernel
theorem dX2_least_1 : decode cX2_least 1 = .ok (.lconst 0, 1) := by decide +kernel
theorem dX2_least_2 : decode cX2_least 2 = .ok (.lcmp, 1) := by decide +kernel
theorem dX2_least_3 : decode cX2_least 3 = .ok (.ifCond .lt 9, 3) := by decide +kernel
theorem dX2_least_6 : decode cX2_least 6 = .ok (.lload_n 2, 1) := by decide +kernel
theorem dX2_least_7 : decode cX2_least 7 = .ok (.lconst 0, 1) := by decide +kernel
theorem dX2_least_8 : decode cX2_least 8 = .ok (.lcmp, 1) := by decide +kernel
theorem dX2_least_9 : decode cX2_least 9 = .ok (.ifCond .gt 13, 3) := by decide +kernel
theorem dX2_least_12 : decode cX2_least 12 = .ok (.new 10, 3) := by decide +kernel
theorem dX2_least_15 : decode cX2_least 15 = .ok (.dup, 1) := by decide +kernel
theorem dX2_least_16 : decode cX2_least 16 = .ok (.lconst 0, 1) := by decide +kernel
theorem dX2_least_17 : decode cX2_least 17 = .ok (.lconst 0, 1) := by decide +kernel
theorem dX2_least_18 : decode cX2_least 18 = .ok (.invokespecial 18, 3) := by decide +kernel
theorem dX2_least_21 : decode cX2_least 21 = .ok (.areturn, 1) := by decide +kernel
theorem dX2_least_22 : decode cX2_least 22 = .ok (.lload_n 0, 1) := by decide +kernel
theorem dX2_least_23 : decode cX2_least 23 = .ok (.lload_n 2, 1) := by decide +kernel
theorem dX2_least_24 : decode cX2_least 24 = .ok (.invokestatic 21, 3) := by decide +kernel
theorem dX2_least_27 : decode cX2_least 27 = .ok (.lstore 4, 2) := by decide +kernel
theorem dX2_least_29 : decode cX2_least 29 = .ok (.lload 4, 2) := by decide +kernel
theorem dX2_least_31 : decode cX2_least 31 = .ok (.lconst 0, 1) := by decide +kernel
theorem dX2_least_32 : decode cX2_least 32 = .ok (.lcmp, 1) := by decide +kernel
theorem dX2_least_33 : decode cX2_least 33 = .ok (.ifCond .ne 15, 3) := by decide +kernel
theorem dX2_least_36 : decode cX2_least 36 = .ok (.new 10, 3) := by decide +kernel
theorem dX2_least_39 : decode cX2_least 39 = .ok (.dup, 1) := by decide +kernel
theorem dX2_least_40 : decode cX2_least 40 = .ok (.lconst 0, 1) := by decide +kernel
theorem dX2_least_41 : decode cX2_least 41 = .ok (.lconst 0, 1) := by decide +kernel
theorem dX2_least_42 : decode cX2_least 42 = .ok (.invokespecial 18, 3) := by decide +kernel
theorem dX2_least_45 : decode cX2_least 45 = .ok (.goto 18, 3) := by decide +kernel
theorem dX2_least_48 : decode cX2_least 48 = .ok (.new 10, 3) := by decide +kernel
theorem dX2_least_51 : decode cX2_least 51 = .ok (.dup, 1) := by decide +kernel
theorem dX2_least_52 : decode cX2_least 52 = .ok (.lload_n 0, 1) := by decide +kernel
theorem dX2_least_53 : decode cX2_least 53 = .ok (.lload 4, 2) := by decide +kernel
theorem dX2_least_55 : decode cX2_least 55 = .ok (.ldiv, 1) := by decide +kernel
theorem dX2_least_56 : decode cX2_least 56 = .ok (.lload_n 2, 1) := by decide +kernel
theorem dX2_least_57 : decode cX2_least 57 = .ok (.lload 4, 2) := by decide +kernel
theorem dX2_least_59 : decode cX2_least 59 = .ok (.ldiv, 1) := by decide +kernel
theorem dX2_least_60 : decode cX2_least 60 = .ok (.invokespecial 18, 3) := by decide +kernel
theorem dX2_least_63 : decode cX2_least 63 = .ok (.areturn, 1) := by decide +kernel
theorem dX2_common_0 : decode cX2_common 0 = .ok (.lload_n 0, 1) := by decide +kernel
theorem dX2_common_1 : decode cX2_common 1 = .ok (.lstore 4, 2) := by decide +kernel
theorem dX2_common_3 : decode cX2_common 3 = .ok (.lload_n 2, 1) := by decide +kernel
theorem dX2_common_4 : decode cX2_common 4 = .ok (.lstore 6, 2) := by decide +kernel
theorem dX2_common_6 : decode cX2_common 6 = .ok (.iconst 0, 1) := by decide +kernel
theorem dX2_common_7 : decode cX2_common 7 = .ok (.istore 8, 2) := by decide +kernel
theorem dX2_common_9 : decode cX2_common 9 = .ok (.iload 8, 2) := by decide +kernel
theorem dX2_common_11 : decode cX2_common 11 = .ok (.sipush 200, 3) := by decide +kernel
theorem dX2_common_14 : decode cX2_common 14 = .ok (.if_icmp .ge 31, 3) := by decide +kernel
theorem dX2_common_17 : decode cX2_common 17 = .ok (.lload 6, 2) := by decide +kernel
theorem dX2_common_19 : decode cX2_common 19 = .ok (.lconst 0, 1) := by decide +kernel
theorem dX2_common_20 : decode cX2_common 20 = .ok (.lcmp, 1) := by decide +kernel
theorem dX2_common_21 : decode cX2_common 21 = .ok (.ifCond .eq 24, 3) := by decide +kernel
theorem dX2_common_24 : decode cX2_common 24 = .ok (.lload 4, 2) := by decide +kernel
theorem dX2_common_26 : decode cX2_common 26 = .ok (.lload 6, 2) := by decide +kernel
theorem dX2_common_28 : decode cX2_common 28 = .ok (.lrem, 1) := by decide +kernel
theorem dX2_common_29 : decode cX2_common 29 = .ok (.lstore 9, 2) := by decide +kernel
theorem dX2_common_31 : decode cX2_common 31 = .ok (.lload 6, 2) := by decide +kernel
theorem dX2_common_33 : decode cX2_common 33 = .ok (.lstore 4, 2) := by decide +kernel
theorem dX2_common_35 : decode cX2_common 35 = .ok (.lload 9, 2) := by decide +kernel
theorem dX2_common_37 : decode cX2_common 37 = .ok (.lstore 6, 2) := by decide +kernel
theorem dX2_common_39 : decode cX2_common 39 = .ok (.iinc 8 1, 3) := by decide +kernel
theorem dX2_common_42 : decode cX2_common 42 = .ok (.goto (-33), 3) := by decide +kernel
theorem dX2_common_45 : decode cX2_common 45 = .ok (.lload 4, 2) := by decide +kernel
theorem dX2_common_47 : decode cX2_common 47 = .ok (.lreturn, 1) := by decide +kernel
theorem dX2_product_0 : decode cX2_product 0 = .ok (.lload_n 0, 1) := by decide +kernel
theorem dX2_product_1 : decode cX2_product 1 = .ok (.lconst 0, 1) := by decide +kernel
theorem dX2_product_2 : decode cX2_product 2 = .ok (.lcmp, 1) := by decide +kernel
theorem dX2_product_3 : decode cX2_product 3 = .ok (.ifCond .lt 9, 3) := by decide +kernel
theorem dX2_product_6 : decode cX2_product 6 = .ok (.lload_n 2, 1) := by decide +kernel
theorem dX2_product_7 : decode cX2_product 7 = .ok (.lconst 0, 1) := by decide +kernel
theorem dX2_product_8 : decode cX2_product 8 = .ok (.lcmp, 1) := by decide +kernel
theorem dX2_product_9 : decode cX2_product 9 = .ok (.ifCond .ge 7, 3) := by decide +kernel
theorem dX2_product_12 : decode cX2_product 12 = .ok (.ldc2_w 25, 3) := by decide +kernel
theorem dX2_product_15 : decode cX2_product 15 = .ok (.lreturn, 1) := by decide +kernel
theorem dX2_product_16 : decode cX2_product 16 = .ok (.lload_n 0, 1) := by decide +kernel
theorem dX2_product_17 : decode cX2_product 17 = .ok (.lconst 0, 1) := by decide +kernel
theorem dX2_product_18 : decode cX2_product 18 = .ok (.lcmp, 1) := by decide +kernel
theorem dX2_product_19 : decode cX2_product 19 = .ok (.ifCond .eq 19, 3) := by decide +kernel
theorem dX2_product_22 : decode cX2_product 22 = .ok (.lload_n 2, 1) := by decide +kernel
theorem dX2_product_23 : decode cX2_product 23 = .ok (.ldc2_w 27, 3) := by decide +kernel
theorem dX2_product_26 : decode cX2_product 26 = .ok (.lload_n 0, 1) := by decide +kernel
theorem dX2_product_27 : decode cX2_product 27 = .ok (.ldiv, 1) := by decide +kernel
theorem dX2_product_28 : decode cX2_product 28 = .ok (.lcmp, 1) := by decide +kernel
theorem dX2_product_29 : decode cX2_product 29 = .ok (.ifCond .le 9, 3) := by decide +kernel
theorem dX2_product_32 : decode cX2_product 32 = .ok (.ldc2_w 25, 3) := by decide +kernel
theorem dX2_product_35 : decode cX2_product 35 = .ok (.goto 6, 3) := by decide +kernel
theorem dX2_product_38 : decode cX2_product 38 = .ok (.lload_n 0, 1) := by decide +kernel
theorem dX2_product_39 : decode cX2_product 39 = .ok (.lload_n 2, 1) := by decide +kernel
theorem dX2_product_40 : decode cX2_product 40 = .ok (.lmul, 1) := by decide +kernel
theorem dX2_product_41 : decode cX2_product 41 = .ok (.lreturn, 1) := by decide +kernel
theorem dX2_sum_0 : decode cX2_sum 0 = .ok (.lload_n 0, 1) := by decide +kernel
theorem dX2_sum_1 : decode cX2_sum 1 = .ok (.lconst 0, 1) := by decide +kernel
theorem dX2_sum_2 : decode cX2_sum 2 = .ok (.lcmp, 1) := by decide +kernel
theorem dX2_sum_3 : decode cX2_sum 3 = .ok (.ifCond .lt 19, 3) := by decide +kernel
theorem dX2_sum_6 : decode cX2_sum 6 = .ok (.lload_n 2, 1) := by decide +kernel
theorem dX2_sum_7 : decode cX2_sum 7 = .ok (.lconst 0, 1) := by decide +kernel
theorem dX2_sum_8 : decode cX2_sum 8 = .ok (.lcmp, 1) := by decide +kernel
theorem dX2_sum_9 : decode cX2_sum 9 = .ok (.ifCond .lt 13, 3) := by decide +kernel
theorem dX2_sum_12 : decode cX2_sum 12 = .ok (.lload_n 0, 1) := by decide +kernel
theorem dX2_sum_13 : decode cX2_sum 13 = .ok (.ldc2_w 27, 3) := by decide +kernel
theorem dX2_sum_16 : decode cX2_sum 16 = .ok (.lload_n 2, 1) := by decide +kernel
theorem dX2_sum_17 : decode cX2_sum 17 = .ok (.lsub, 1) := by decide +kernel
theorem dX2_sum_18 : decode cX2_sum 18 = .ok (.lcmp, 1) := by decide +kernel
theorem dX2_sum_19 : decode cX2_sum 19 = .ok (.ifCond .le 9, 3) := by decide +kernel
theorem dX2_sum_22 : decode cX2_sum 22 = .ok (.ldc2_w 25, 3) := by decide +kernel
theorem dX2_sum_25 : decode cX2_sum 25 = .ok (.goto 6, 3) := by decide +kernel
theorem dX2_sum_28 : decode cX2_sum 28 = .ok (.lload_n 0, 1) := by decide +kernel
theorem dX2_sum_29 : decode cX2_sum 29 = .ok (.lload_n 2, 1) := by decide +kernel
theorem dX2_sum_30 : decode cX2_sum 30 = .ok (.ladd, 1) := by decide +kernel
theorem dX2_sum_31 : decode cX2_sum 31 = .ok (.lreturn, 1) := by decide +kernel
theorem dX2_difference_0 : decode cX2_difference 0 = .ok (.lload_n 0, 1) := by decide +kernel
theorem dX2_difference_1 : decode cX2_difference 1 = .ok (.lconst 0, 1) := by decide +kernel
theorem dX2_difference_2 : decode cX2_difference 2 = .ok (.lcmp, 1) := by decide +kernel
theorem dX2_difference_3 : decode cX2_difference 3 = .ok (.ifCond .lt 9, 3) := by decide +kernel
theorem dX2_difference_6 : decode cX2_difference 6 = .ok (.lload_n 2, 1) := by decide +kernel
theorem dX2_difference_7 : decode cX2_difference 7 = .ok (.lconst 0, 1) := by decide +kernel
theorem dX2_difference_8 : decode cX2_difference 8 = .ok (.lcmp, 1) := by decide +kernel
theorem dX2_difference_9 : decode cX2_difference 9 = .ok (.ifCond .ge 9, 3) := by decide +kernel
theorem dX2_difference_12 : decode cX2_difference 12 = .ok (.ldc2_w 25, 3) := by decide +kernel
theorem dX2_difference_15 : decode cX2_difference 15 = .ok (.goto 6, 3) := by decide +kernel
theorem dX2_difference_18 : decode cX2_difference 18 = .ok (.lload_n 0, 1) := by decide +kernel
theorem dX2_difference_19 : decode cX2_difference 19 = .ok (.lload_n 2, 1) := by decide +kernel
theorem dX2_difference_20 : decode cX2_difference 20 = .ok (.lsub, 1) := by decide +kernel
theorem dX2_difference_21 : decode cX2_difference 21 = .ok (.lreturn, 1) := by decide +kernel
theorem dX2_isTooGreat_0 : decode cX2_isTooGreat 0 = .ok (.aload_n 0, 1) := by decide +kernel
theorem dX2_isTooGreat_1 : decode cX2_isTooGreat 1 = .ok (.getfield 15, 3) := by decide +kernel
theorem dX2_isTooGreat_4 : decode cX2_isTooGreat 4 = .ok (.lconst 0, 1) := by decide +kernel
theorem dX2_isTooGreat_5 : decode cX2_isTooGreat 5 = .ok (.lcmp, 1) := by decide +kernel
theorem dX2_isTooGreat_6 : decode cX2_isTooGreat 6 = .ok (.ifCond .ne 7, 3) := by decide +kernel
theorem dX2_isTooGreat_9 : decode cX2_isTooGreat 9 = .ok (.iconst 1, 1) := by decide +kernel
theorem dX2_isTooGreat_10 : decode cX2_isTooGreat 10 = .ok (.goto 4, 3) := by decide +kernel
theorem dX2_isTooGreat_13 : decode cX2_isTooGreat 13 = .ok (.iconst 0, 1) := by decide +kernel
theorem dX2_isTooGreat_14 : decode cX2_isTooGreat 14 = .ok (.ireturn, 1) := by decide +kernel
theorem dX2_isZero_0 : decode cX2_isZero 0 = .ok (.aload_n 0, 1) := by decide +kernel
theorem dX2_isZero_1 : decode cX2_isZero 1 = .ok (.getfield 9, 3) := by decide +kernel
theorem dX2_isZero_4 : decode cX2_isZero 4 = .ok (.lconst 0, 1) := by decide +kernel
theorem dX2_isZero_5 : decode cX2_isZero 5 = .ok (.lcmp, 1) := by decide +kernel
theorem dX2_isZero_6 : decode cX2_isZero 6 = .ok (.ifCond .ne 16, 3) := by decide +kernel
theorem dX2_isZero_9 : decode cX2_isZero 9 = .ok (.aload_n 0, 1) := by decide +kernel
theorem dX2_isZero_10 : decode cX2_isZero 10 = .ok (.getfield 15, 3) := by decide +kernel
theorem dX2_isZero_13 : decode cX2_isZero 13 = .ok (.lconst 0, 1) := by decide +kernel
theorem dX2_isZero_14 : decode cX2_isZero 14 = .ok (.lcmp, 1) := by decide +kernel
theorem dX2_isZero_15 : decode cX2_isZero 15 = .ok (.ifCond .eq 7, 3) := by decide +kernel
theorem dX2_isZero_18 : decode cX2_isZero 18 = .ok (.iconst 1, 1) := by decide +kernel
theorem dX2_isZero_19 : decode cX2_isZero 19 = .ok (.goto 4, 3) := by decide +kernel
theorem dX2_isZero_22 : decode cX2_isZero 22 = .ok (.iconst 0, 1) := by decide +kernel
theorem dX2_isZero_23 : decode cX2_isZero 23 = .ok (.ireturn, 1) := by decide +kernel
theorem dX2_plus_0 : decode cX2_plus 0 = .ok (.aload_n 0, 1) := by decide +kernel
theorem dX2_plus_1 : decode cX2_plus 1 = .ok (.getfield 9, 3) := by decide +kernel
theorem dX2_plus_4 : decode cX2_plus 4 = .ok (.aload_n 1, 1) := by decide +kernel
theorem dX2_plus_5 : decode cX2_plus 5 = .ok (.getfield 15, 3) := by decide +kernel
theorem dX2_plus_8 : decode cX2_plus 8 = .ok (.invokestatic 29, 3) := by decide +kernel
theorem dX2_plus_11 : decode cX2_plus 11 = .ok (.aload_n 1, 1) := by decide +kernel
theorem dX2_plus_12 : decode cX2_plus 12 = .ok (.getfield 9, 3) := by decide +kernel
theorem dX2_plus_15 : decode cX2_plus 15 = .ok (.aload_n 0, 1) := by decide +kernel
theorem dX2_plus_16 : decode cX2_plus 16 = .ok (.getfield 15, 3) := by decide +kernel
theorem dX2_plus_19 : decode cX2_plus 19 = .ok (.invokestatic 29, 3) := by decide +kernel
theorem dX2_plus_22 : decode cX2_plus 22 = .ok (.invokestatic 32, 3) := by decide +kernel
theorem dX2_plus_25 : decode cX2_plus 25 = .ok (.aload_n 0, 1) := by decide +kernel
theorem dX2_plus_26 : decode cX2_plus 26 = .ok (.getfield 15, 3) := by decide +kernel
theorem dX2_plus_29 : decode cX2_plus 29 = .ok (.aload_n 1, 1) := by decide +kernel
theorem dX2_plus_30 : decode cX2_plus 30 = .ok (.getfield 15, 3) := by decide +kernel
theorem dX2_plus_33 : decode cX2_plus 33 = .ok (.invokestatic 29, 3) := by decide +kernel
theorem dX2_plus_36 : decode cX2_plus 36 = .ok (.invokestatic 35, 3) := by decide +kernel
theorem dX2_plus_39 : decode cX2_plus 39 = .ok (.areturn, 1) := by decide +kernel
theorem dX2_less_0 : decode cX2_less 0 = .ok (.aload_n 0, 1) := by decide +kernel
theorem dX2_less_1 : decode cX2_less 1 = .ok (.getfield 9, 3) := by decide +kernel
theorem dX2_less_4 : decode cX2_less 4 = .ok (.aload_n 1, 1) := by decide +kernel
theorem dX2_less_5 : decode cX2_less 5 = .ok (.getfield 15, 3) := by decide +kernel
theorem dX2_less_8 : decode cX2_less 8 = .ok (.invokestatic 29, 3) := by decide +kernel
theorem dX2_less_11 : decode cX2_less 11 = .ok (.aload_n 1, 1) := by decide +kernel
theorem dX2_less_12 : decode cX2_less 12 = .ok (.getfield 9, 3) := by decide +kernel
theorem dX2_less_15 : decode cX2_less 15 = .ok (.aload_n 0, 1) := by decide +kernel
theorem dX2_less_16 : decode cX2_less 16 = .ok (.getfield 15, 3) := by decide +kernel
theorem dX2_less_19 : decode cX2_less 19 = .ok (.invokestatic 29, 3) := by decide +kernel
theorem dX2_less_22 : decode cX2_less 22 = .ok (.invokestatic 39, 3) := by decide +kernel
theorem dX2_less_25 : decode cX2_less 25 = .ok (.aload_n 0, 1) := by decide +kernel
theorem dX2_less_26 : decode cX2_less 26 = .ok (.getfield 15, 3) := by decide +kernel
theorem dX2_less_29 : decode cX2_less 29 = .ok (.aload_n 1, 1) := by decide +kernel
theorem dX2_less_30 : decode cX2_less 30 = .ok (.getfield 15, 3) := by decide +kernel
theorem dX2_less_33 : decode cX2_less 33 = .ok (.invokestatic 29, 3) := by decide +kernel
theorem dX2_less_36 : decode cX2_less 36 = .ok (.invokestatic 35, 3) := by decide +kernel
theorem dX2_less_39 : decode cX2_less 39 = .ok (.areturn, 1) := by decide +kernel
theorem dX2_times_0 : decode cX2_times 0 = .ok (.aload_n 0, 1) := by decide +kernel
theorem dX2_times_1 : decode cX2_times 1 = .ok (.getfield 9, 3) := by decide +kernel
theorem dX2_times_4 : decode cX2_times 4 = .ok (.aload_n 1, 1) := by decide +kernel
theorem dX2_times_5 : decode cX2_times 5 = .ok (.getfield 9, 3) := by decide +kernel
theorem dX2_times_8 : decode cX2_times 8 = .ok (.invokestatic 29, 3) := by decide +kernel
theorem dX2_times_11 : decode cX2_times 11 = .ok (.aload_n 0, 1) := by decide +kernel
theorem dX2_times_12 : decode cX2_times 12 = .ok (.getfield 15, 3) := by decide +kernel
theorem dX2_times_15 : decode cX2_times 15 = .ok (.aload_n 1, 1) := by decide +kernel
theorem dX2_times_16 : decode cX2_times 16 = .ok (.getfield 15, 3) := by decide +kernel
theorem dX2_times_19 : decode cX2_times 19 = .ok (.invokestatic 29, 3) := by decide +kernel
theorem dX2_times_22 : decode cX2_times 22 = .ok (.invokestatic 35, 3) := by decide +kernel
theorem dX2_times_25 : decode cX2_times 25 = .ok (.areturn, 1) := by decide +kernel
theorem dX2_by_0 : decode cX2_by 0 = .ok (.aload_n 0, 1) := by decide +kernel
theorem dX2_by_1 : decode cX2_by 1 = .ok (.getfield 9, 3) := by decide +kernel
theorem dX2_by_4 : decode cX2_by 4 = .ok (.aload_n 1, 1) := by decide +kernel
theorem dX2_by_5 : decode cX2_by 5 = .ok (.getfield 15, 3) := by decide +kernel
theorem dX2_by_8 : decode cX2_by 8 = .ok (.invokestatic 29, 3) := by decide +kernel
theorem dX2_by_11 : decode cX2_by 11 = .ok (.aload_n 0, 1) := by decide +kernel
theorem dX2_by_12 : decode cX2_by 12 = .ok (.getfield 15, 3) := by decide +kernel
theorem dX2_by_15 : decode cX2_by 15 = .ok (.aload_n 1, 1) := by decide +kernel
theorem dX2_by_16 : decode cX2_by 16 = .ok (.getfield 9, 3) := by decide +kernel
theorem dX2_by_19 : decode cX2_by 19 = .ok (.invokestatic 29, 3) := by decide +kernel
theorem dX2_by_22 : decode cX2_by 22 = .ok (.invokestatic 35, 3) := by decide +kernel
theorem dX2_by_25 : decode cX2_by 25 = .ok (.areturn, 1) := by decide +kernel
theorem dX3_init_0 : decode cX3_init 0 = .ok (.aload_n 0, 1) := by decide +kernel
theorem dX3_init_1 : decode cX3_init 1 = .ok (.invokespecial 3, 3) := by decide +kernel
theorem dX3_init_4 : decode cX3_init 4 = .ok (.aload_n 0, 1) := by decide +kernel
theorem dX3_init_5 : decode cX3_init 5 = .ok (.bipush 16, 2) := by decide +kernel
theorem dX3_init_7 : decode cX3_init 7 = .ok (.newarray .int, 2) := by decide +kernel
theorem dX3_init_9 : decode cX3_init 9 = .ok (.putfield 9, 3) := by decide +kernel
theorem dX3_init_12 : decode cX3_init 12 = .ok (.aload_n 0, 1) := by decide +kernel
theorem dX3_init_13 : decode cX3_init 13 = .ok (.bipush 16, 2) := by decide +kernel
theorem dX3_init_15 : decode cX3_init 15 = .ok (.newarray .int, 2) := by decide +kernel
theorem dX3_init_17 : decode cX3_init 17 = .ok (.putfield 15, 3) := by decide +kernel
theorem dX3_init_20 : decode cX3_init 20 = .ok (.aload_n 0, 1) := by decide +kernel
theorem dX3_init_21 : decode cX3_init 21 = .ok (.bipush 16, 2) := by decide +kernel
theorem dX3_init_23 : decode cX3_init 23 = .ok (.newarray .int, 2) := by decide +kernel
theorem dX3_init_25 : decode cX3_init 25 = .ok (.putfield 18, 3) := by decide +kernel
theorem dX3_init_28 : decode cX3_init 28 = .ok (.aload_n 0, 1) := by decide +kernel
theorem dX3_init_29 : decode cX3_init 29 = .ok (.bipush 16, 2) := by decide +kernel
theorem dX3_init_31 : decode cX3_init 31 = .ok (.newarray .int, 2) := by decide +kernel
theorem dX3_init_33 : decode cX3_init 33 = .ok (.putfield 21, 3) := by decide +kernel
theorem dX3_init_36 : decode cX3_init 36 = .ok (.aload_n 0, 1) := by decide +kernel
theorem dX3_init_37 : decode cX3_init 37 = .ok (.bipush 16, 2) := by decide +kernel
theorem dX3_init_39 : decode cX3_init 39 = .ok (.newarray .int, 2) := by decide +kernel
theorem dX3_init_41 : decode cX3_init 41 = .ok (.putfield 24, 3) := by decide +kernel
theorem dX3_init_44 : decode cX3_init 44 = .ok (.aload_n 0, 1) := by decide +kernel
theorem dX3_init_45 : decode cX3_init 45 = .ok (.bipush 16, 2) := by decide +kernel
theorem dX3_init_47 : decode cX3_init 47 = .ok (.newarray .int, 2) := by decide +kernel
theorem dX3_init_49 : decode cX3_init 49 = .ok (.putfield 27, 3) := by decide +kernel
theorem dX3_init_52 : decode cX3_init 52 = .ok (.aload_n 0, 1) := by decide +kernel
theorem dX3_init_53 : decode cX3_init 53 = .ok (.bipush 8, 2) := by decide +kernel
theorem dX3_init_55 : decode cX3_init 55 = .ok (.newarray .int, 2) := by decide +kernel
theorem dX3_init_57 : decode cX3_init 57 = .ok (.putfield 30, 3) := by decide +kernel
theorem dX3_init_60 : decode cX3_init 60 = .ok (.return_, 1) := by decide +kernel
theorem dX3_clear_0 : decode cX3_clear 0 = .ok (.aload_n 0, 1) := by decide +kernel
theorem dX3_clear_1 : decode cX3_clear 1 = .ok (.iconst 0, 1) := by decide +kernel
theorem dX3_clear_2 : decode cX3_clear 2 = .ok (.putfield 33, 3) := by decide +kernel
theorem dX3_clear_5 : decode cX3_clear 5 = .ok (.aload_n 0, 1) := by decide +kernel
theorem dX3_clear_6 : decode cX3_clear 6 = .ok (.getfield 30, 3) := by decide +kernel
theorem dX3_clear_9 : decode cX3_clear 9 = .ok (.iconst 0, 1) := by decide +kernel
theorem dX3_clear_10 : decode cX3_clear 10 = .ok (.invokestatic 37, 3) := by decide +kernel
theorem dX3_clear_13 : decode cX3_clear 13 = .ok (.return_, 1) := by decide +kernel
theorem dX3_isEntry_0 : decode cX3_isEntry 0 = .ok (.iload_n 1, 1) := by decide +kernel
theorem dX3_isEntry_1 : decode cX3_isEntry 1 = .ok (.ifCond .lt 15, 3) := by decide +kernel
theorem dX3_isEntry_4 : decode cX3_isEntry 4 = .ok (.iload_n 1, 1) := by decide +kernel
theorem dX3_isEntry_5 : decode cX3_isEntry 5 = .ok (.aload_n 0, 1) := by decide +kernel
theorem dX3_isEntry_6 : decode cX3_isEntry 6 = .ok (.getfield 33, 3) := by decide +kernel
theorem dX3_isEntry_9 : decode cX3_isEntry 9 = .ok (.if_icmp .ge 7, 3) := by decide +kernel
theorem dX3_isEntry_12 : decode cX3_isEntry 12 = .ok (.iconst 1, 1) := by decide +kernel
theorem dX3_isEntry_13 : decode cX3_isEntry 13 = .ok (.goto 4, 3) := by decide +kernel
theorem dX3_isEntry_16 : decode cX3_isEntry 16 = .ok (.iconst 0, 1) := by decide +kernel
theorem dX3_isEntry_17 : decode cX3_isEntry 17 = .ok (.ireturn, 1) := by decide +kernel
theorem dX3_isParent_0 : decode cX3_isParent 0 = .ok (.iload_n 1, 1) := by decide +kernel
theorem dX3_isParent_1 : decode cX3_isParent 1 = .ok (.iconst (-1), 1) := by decide +kernel
theorem dX3_isParent_2 : decode cX3_isParent 2 = .ok (.if_icmp .eq 11, 3) := by decide +kernel
theorem dX3_isParent_5 : decode cX3_isParent 5 = .ok (.aload_n 0, 1) := by decide +kernel
theorem dX3_isParent_6 : decode cX3_isParent 6 = .ok (.iload_n 1, 1) := by decide +kernel
theorem dX3_isParent_7 : decode cX3_isParent 7 = .ok (.invokevirtual 43, 3) := by decide +kernel
theorem dX3_isParent_10 : decode cX3_isParent 10 = .ok (.ifCond .eq 7, 3) := by decide +kernel
theorem dX3_isParent_13 : decode cX3_isParent 13 = .ok (.iconst 1, 1) := by decide +kernel
theorem dX3_isParent_14 : decode cX3_isParent 14 = .ok (.goto 4, 3) := by decide +kernel
theorem dX3_isParent_17 : decode cX3_isParent 17 = .ok (.iconst 0, 1) := by decide +kernel
theorem dX3_isParent_18 : decode cX3_isParent 18 = .ok (.ireturn, 1) := by decide +kernel
theorem dX3_add_0 : decode cX3_add 0 = .ok (.aload_n 0, 1) := by decide +kernel
theorem dX3_add_1 : decode cX3_add 1 = .ok (.getfield 33, 3) := by decide +kernel
theorem dX3_add_4 : decode cX3_add 4 = .ok (.istore 4, 2) := by decide +kernel
theorem dX3_add_6 : decode cX3_add 6 = .ok (.aload_n 0, 1) := by decide +kernel
theorem dX3_add_7 : decode cX3_add 7 = .ok (.dup, 1) := by decide +kernel
theorem dX3_add_8 : decode cX3_add 8 = .ok (.getfield 33, 3) := by decide +kernel
theorem dX3_add_11 : decode cX3_add 11 = .ok (.iconst 1, 1) := by decide +kernel
theorem dX3_add_12 : decode cX3_add 12 = .ok (.iadd, 1) := by decide +kernel
theorem dX3_add_13 : decode cX3_add 13 = .ok (.putfield 33, 3) := by decide +kernel
theorem dX3_add_16 : decode cX3_add 16 = .ok (.aload_n 0, 1) := by decide +kernel
theorem dX3_add_17 : decode cX3_add 17 = .ok (.getfield 9, 3) := by decide +kernel
theorem dX3_add_20 : decode cX3_add 20 = .ok (.iload 4, 2) := by decide +kernel
theorem dX3_add_22 : decode cX3_add 22 = .ok (.iload_n 1, 1) := by decide +kernel
theorem dX3_add_23 : decode cX3_add 23 = .ok (.iastore, 1) := by decide +kernel
theorem dX3_add_24 : decode cX3_add 24 = .ok (.aload_n 0, 1) := by decide +kernel
theorem dX3_add_25 : decode cX3_add 25 = .ok (.getfield 15, 3) := by decide +kernel
theorem dX3_add_28 : decode cX3_add 28 = .ok (.iload 4, 2) := by decide +kernel
theorem dX3_add_30 : decode cX3_add 30 = .ok (.iload_n 2, 1) := by decide +kernel
theorem dX3_add_31 : decode cX3_add 31 = .ok (.iastore, 1) := by decide +kernel
theorem dX3_add_32 : decode cX3_add 32 = .ok (.aload_n 0, 1) := by decide +kernel
theorem dX3_add_33 : decode cX3_add 33 = .ok (.getfield 18, 3) := by decide +kernel
theorem dX3_add_36 : decode cX3_add 36 = .ok (.iload 4, 2) := by decide +kernel
theorem dX3_add_38 : decode cX3_add 38 = .ok (.iload_n 3, 1) := by decide +kernel
theorem dX3_add_39 : decode cX3_add 39 = .ok (.iastore, 1) := by decide +kernel
theorem dX3_add_40 : decode cX3_add 40 = .ok (.aload_n 0, 1) := by decide +kernel
theorem dX3_add_41 : decode cX3_add 41 = .ok (.getfield 21, 3) := by decide +kernel
theorem dX3_add_44 : decode cX3_add 44 = .ok (.iload 4, 2) := by decide +kernel
theorem dX3_add_46 : decode cX3_add 46 = .ok (.aload_n 0, 1) := by decide +kernel
theorem dX3_add_47 : decode cX3_add 47 = .ok (.iload_n 2, 1) := by decide +kernel
theorem dX3_add_48 : decode cX3_add 48 = .ok (.invokevirtual 47, 3) := by decide +kernel
theorem dX3_add_51 : decode cX3_add 51 = .ok (.aload_n 0, 1) := by decide +kernel
theorem dX3_add_52 : decode cX3_add 52 = .ok (.iload_n 3, 1) := by decide +kernel
theorem dX3_add_53 : decode cX3_add 53 = .ok (.invokevirtual 47, 3) := by decide +kernel
theorem dX3_add_56 : decode cX3_add 56 = .ok (.ior, 1) := by decide +kernel
theorem dX3_add_57 : decode cX3_add 57 = .ok (.iastore, 1) := by decide +kernel
theorem dX3_add_58 : decode cX3_add 58 = .ok (.aload_n 0, 1) := by decide +kernel
theorem dX3_add_59 : decode cX3_add 59 = .ok (.getfield 24, 3) := by decide +kernel
theorem dX3_add_62 : decode cX3_add 62 = .ok (.iload 4, 2) := by decide +kernel
theorem dX3_add_64 : decode cX3_add 64 = .ok (.iconst 0, 1) := by decide +kernel
theorem dX3_add_65 : decode cX3_add 65 = .ok (.iastore, 1) := by decide +kernel
theorem dX3_add_66 : decode cX3_add 66 = .ok (.aload_n 0, 1) := by decide +kernel
theorem dX3_add_67 : decode cX3_add 67 = .ok (.getfield 27, 3) := by decide +kernel
theorem dX3_add_70 : decode cX3_add 70 = .ok (.iload 4, 2) := by decide +kernel
theorem dX3_add_72 : decode cX3_add 72 = .ok (.aload_n 0, 1) := by decide +kernel
theorem dX3_add_73 : decode cX3_add 73 = .ok (.iload_n 2, 1) := by decide +kernel
theorem dX3_add_74 : decode cX3_add 74 = .ok (.invokevirtual 51, 3) := by decide +kernel
theorem dX3_add_77 : decode cX3_add 77 = .ok (.aload_n 0, 1) := by decide +kernel
theorem dX3_add_78 : decode cX3_add 78 = .ok (.iload_n 3, 1) := by decide +kernel
theorem dX3_add_79 : decode cX3_add 79 = .ok (.invokevirtual 51, 3) := by decide +kernel
theorem dX3_add_82 : decode cX3_add 82 = .ok (.invokestatic 54, 3) := by decide +kernel
theorem dX3_add_85 : decode cX3_add 85 = .ok (.iastore, 1) := by decide +kernel
theorem dX3_add_86 : decode cX3_add 86 = .ok (.aload_n 0, 1) := by decide +kernel
theorem dX3_add_87 : decode cX3_add 87 = .ok (.getfield 30, 3) := by decide +kernel
theorem dX3_add_90 : decode cX3_add 90 = .ok (.iload_n 1, 1) := by decide +kernel
theorem dX3_add_91 : decode cX3_add 91 = .ok (.dup2, 1) := by decide +kernel
theorem dX3_add_92 : decode cX3_add 92 = .ok (.iaload, 1) := by decide +kernel
theorem dX3_add_93 : decode cX3_add 93 = .ok (.iconst 1, 1) := by decide +kernel
theorem dX3_add_94 : decode cX3_add 94 = .ok (.iload 4, 2) := by decide +kernel
theorem dX3_add_96 : decode cX3_add 96 = .ok (.ishl, 1) := by decide +kernel
theorem dX3_add_97 : decode cX3_add 97 = .ok (.ior, 1) := by decide +kernel
theorem dX3_add_98 : decode cX3_add 98 = .ok (.iastore, 1) := by decide +kernel
theorem dX3_add_99 : decode cX3_add 99 = .ok (.iconst 0, 1) := by decide +kernel
theorem dX3_add_100 : decode cX3_add 100 = .ok (.istore 5, 2) := by decide +kernel
theorem dX3_add_102 : decode cX3_add 102 = .ok (.iload 5, 2) := by decide +kernel
theorem dX3_add_104 : decode cX3_add 104 = .ok (.iload 4, 2) := by decide +kernel
theorem dX3_add_106 : decode cX3_add 106 = .ok (.if_icmp .ge 34, 3) := by decide +kernel
theorem dX3_add_109 : decode cX3_add 109 = .ok (.aload_n 0, 1) := by decide +kernel
theorem dX3_add_110 : decode cX3_add 110 = .ok (.getfield 24, 3) := by decide +kernel
theorem dX3_add_113 : decode cX3_add 113 = .ok (.iload 5, 2) := by decide +kernel
theorem dX3_add_115 : decode cX3_add 115 = .ok (.dup2, 1) := by decide +kernel
theorem dX3_add_116 : decode cX3_add 116 = .ok (.iaload, 1) := by decide +kernel
theorem dX3_add_117 : decode cX3_add 117 = .ok (.aload_n 0, 1) := by decide +kernel
theorem dX3_add_118 : decode cX3_add 118 = .ok (.getfield 21, 3) := by decide +kernel
theorem dX3_add_121 : decode cX3_add 121 = .ok (.iload 4, 2) := by decide +kernel
theorem dX3_add_123 : decode cX3_add 123 = .ok (.iaload, 1) := by decide +kernel
theorem dX3_add_124 : decode cX3_add 124 = .ok (.iload 5, 2) := by decide +kernel
theorem dX3_add_126 : decode cX3_add 126 = .ok (.ishr, 1) := by decide +kernel
theorem dX3_add_127 : decode cX3_add 127 = .ok (.iconst 1, 1) := by decide +kernel
theorem dX3_add_128 : decode cX3_add 128 = .ok (.iand, 1) := by decide +kernel
theorem dX3_add_129 : decode cX3_add 129 = .ok (.iload 4, 2) := by decide +kernel
theorem dX3_add_131 : decode cX3_add 131 = .ok (.ishl, 1) := by decide +kernel
theorem dX3_add_132 : decode cX3_add 132 = .ok (.ior, 1) := by decide +kernel
theorem dX3_add_133 : decode cX3_add 133 = .ok (.iastore, 1) := by decide +kernel
theorem dX3_add_134 : decode cX3_add 134 = .ok (.iinc 5 1, 3) := by decide +kernel
theorem dX3_add_137 : decode cX3_add 137 = .ok (.goto (-35), 3) := by decide +kernel
theorem dX3_add_140 : decode cX3_add 140 = .ok (.iload 4, 2) := by decide +kernel
theorem dX3_add_142 : decode cX3_add 142 = .ok (.ireturn, 1) := by decide +kernel
theorem dX3_lineOf_0 : decode cX3_lineOf 0 = .ok (.aload_n 0, 1) := by decide +kernel
theorem dX3_lineOf_1 : decode cX3_lineOf 1 = .ok (.iload_n 1, 1) := by decide +kernel
theorem dX3_lineOf_2 : decode cX3_lineOf 2 = .ok (.invokevirtual 43, 3) := by decide +kernel
theorem dX3_lineOf_5 : decode cX3_lineOf 5 = .ok (.ifCond .eq 16, 3) := by decide +kernel
theorem dX3_lineOf_8 : decode cX3_lineOf 8 = .ok (.aload_n 0, 1) := by decide +kernel
theorem dX3_lineOf_9 : decode cX3_lineOf 9 = .ok (.getfield 21, 3) := by decide +kernel
theorem dX3_lineOf_12 : decode cX3_lineOf 12 = .ok (.iload_n 1, 1) := by decide +kernel
theorem dX3_lineOf_13 : decode cX3_lineOf 13 = .ok (.iaload, 1) := by decide +kernel
theorem dX3_lineOf_14 : decode cX3_lineOf 14 = .ok (.iconst 1, 1) := by decide +kernel
theorem dX3_lineOf_15 : decode cX3_lineOf 15 = .ok (.iload_n 1, 1) := by decide +kernel
theorem dX3_lineOf_16 : decode cX3_lineOf 16 = .ok (.ishl, 1) := by decide +kernel
theorem dX3_lineOf_17 : decode cX3_lineOf 17 = .ok (.ior, 1) := by decide +kernel
theorem dX3_lineOf_18 : decode cX3_lineOf 18 = .ok (.goto 4, 3) := by decide +kernel
theorem dX3_lineOf_21 : decode cX3_lineOf 21 = .ok (.iconst 0, 1) := by decide +kernel
theorem dX3_lineOf_22 : decode cX3_lineOf 22 = .ok (.ireturn, 1) := by decide +kernel
theorem dX3_depthBelow_0 : decode cX3_depthBelow 0 = .ok (.aload_n 0, 1) := by decide +kernel
theorem dX3_depthBelow_1 : decode cX3_depthBelow 1 = .ok (.iload_n 1, 1) := by decide +kernel
theorem dX3_depthBelow_2 : decode cX3_depthBelow 2 = .ok (.invokevirtual 43, 3) := by decide +kernel
theorem dX3_depthBelow_5 : decode cX3_depthBelow 5 = .ok (.ifCond .eq 14, 3) := by decide +kernel
theorem dX3_depthBelow_8 : decode cX3_depthBelow 8 = .ok (.aload_n 0, 1) := by decide +kernel
theorem dX3_depthBelow_9 : decode cX3_depthBelow 9 = .ok (.getfield 27, 3) := by decide +kernel
theorem dX3_depthBelow_12 : decode cX3_depthBelow 12 = .ok (.iload_n 1, 1) := by decide +kernel
theorem dX3_depthBelow_13 : decode cX3_depthBelow 13 = .ok (.iaload, 1) := by decide +kernel
theorem dX3_depthBelow_14 : decode cX3_depthBelow 14 = .ok (.iconst 1, 1) := by decide +kernel
theorem dX3_depthBelow_15 : decode cX3_depthBelow 15 = .ok (.iadd, 1) := by decide +kernel
theorem dX3_depthBelow_16 : decode cX3_depthBelow 16 = .ok (.goto 4, 3) := by decide +kernel
theorem dX3_depthBelow_19 : decode cX3_depthBelow 19 = .ok (.iconst 0, 1) := by decide +kernel
theorem dX3_depthBelow_20 : decode cX3_depthBelow 20 = .ok (.ireturn, 1) := by decide +kernel
theorem dX3_isAlone_0 : decode cX3_isAlone 0 = .ok (.aload_n 0, 1) := by decide +kernel
theorem dX3_isAlone_1 : decode cX3_isAlone 1 = .ok (.getfield 30, 3) := by decide +kernel
theorem dX3_isAlone_4 : decode cX3_isAlone 4 = .ok (.aload_n 0, 1) := by decide +kernel
theorem dX3_isAlone_5 : decode cX3_isAlone 5 = .ok (.getfield 9, 3) := by decide +kernel
theorem dX3_isAlone_8 : decode cX3_isAlone 8 = .ok (.iload_n 1, 1) := by decide +kernel
theorem dX3_isAlone_9 : decode cX3_isAlone 9 = .ok (.iaload, 1) := by decide +kernel
theorem dX3_isAlone_10 : decode cX3_isAlone 10 = .ok (.iaload, 1) := by decide +kernel
theorem dX3_isAlone_11 : decode cX3_isAlone 11 = .ok (.iconst 1, 1) := by decide +kernel
theorem dX3_isAlone_12 : decode cX3_isAlone 12 = .ok (.iload_n 1, 1) := by decide +kernel
theorem dX3_isAlone_13 : decode cX3_isAlone 13 = .ok (.ishl, 1) := by decide +kernel
theorem dX3_isAlone_14 : decode cX3_isAlone 14 = .ok (.if_icmp .ne 7, 3) := by decide +kernel
theorem dX3_isAlone_17 : decode cX3_isAlone 17 = .ok (.iconst 1, 1) := by decide +kernel
theorem dX3_isAlone_18 : decode cX3_isAlone 18 = .ok (.goto 4, 3) := by decide +kernel
theorem dX3_isAlone_21 : decode cX3_isAlone 21 = .ok (.iconst 0, 1) := by decide +kernel
theorem dX3_isAlone_22 : decode cX3_isAlone 22 = .ok (.ireturn, 1) := by decide +kernel
theorem dX3_parentBits_0 : decode cX3_parentBits 0 = .ok (.aload_n 0, 1) := by decide +kernel
theorem dX3_parentBits_1 : decode cX3_parentBits 1 = .ok (.getfield 15, 3) := by decide +kernel
theorem dX3_parentBits_4 : decode cX3_parentBits 4 = .ok (.iload_n 1, 1) := by decide +kernel
theorem dX3_parentBits_5 : decode cX3_parentBits 5 = .ok (.iaload, 1) := by decide +kernel
theorem dX3_parentBits_6 : decode cX3_parentBits 6 = .ok (.iconst (-1), 1) := by decide +kernel
theorem dX3_parentBits_7 : decode cX3_parentBits 7 = .ok (.if_icmp .ne 7, 3) := by decide +kernel
theorem dX3_parentBits_10 : decode cX3_parentBits 10 = .ok (.iconst 0, 1) := by decide +kernel
theorem dX3_parentBits_11 : decode cX3_parentBits 11 = .ok (.goto 11, 3) := by decide +kernel
theorem dX3_parentBits_14 : decode cX3_parentBits 14 = .ok (.iconst 1, 1) := by decide +kernel
theorem dX3_parentBits_15 : decode cX3_parentBits 15 = .ok (.aload_n 0, 1) := by decide +kernel
theorem dX3_parentBits_16 : decode cX3_parentBits 16 = .ok (.getfield 15, 3) := by decide +kernel
theorem dX3_parentBits_19 : decode cX3_parentBits 19 = .ok (.iload_n 1, 1) := by decide +kernel
theorem dX3_parentBits_20 : decode cX3_parentBits 20 = .ok (.iaload, 1) := by decide +kernel
theorem dX3_parentBits_21 : decode cX3_parentBits 21 = .ok (.ishl, 1) := by decide +kernel
theorem dX3_parentBits_22 : decode cX3_parentBits 22 = .ok (.aload_n 0, 1) := by decide +kernel
theorem dX3_parentBits_23 : decode cX3_parentBits 23 = .ok (.getfield 18, 3) := by decide +kernel
theorem dX3_parentBits_26 : decode cX3_parentBits 26 = .ok (.iload_n 1, 1) := by decide +kernel
theorem dX3_parentBits_27 : decode cX3_parentBits 27 = .ok (.iaload, 1) := by decide +kernel
theorem dX3_parentBits_28 : decode cX3_parentBits 28 = .ok (.iconst (-1), 1) := by decide +kernel
theorem dX3_parentBits_29 : decode cX3_parentBits 29 = .ok (.if_icmp .ne 7, 3) := by decide +kernel
theorem dX3_parentBits_32 : decode cX3_parentBits 32 = .ok (.iconst 0, 1) := by decide +kernel
theorem dX3_parentBits_33 : decode cX3_parentBits 33 = .ok (.goto 11, 3) := by decide +kernel
theorem dX3_parentBits_36 : decode cX3_parentBits 36 = .ok (.iconst 1, 1) := by decide +kernel
theorem dX3_parentBits_37 : decode cX3_parentBits 37 = .ok (.aload_n 0, 1) := by decide +kernel
theorem dX3_parentBits_38 : decode cX3_parentBits 38 = .ok (.getfield 18, 3) := by decide +kernel
theorem dX3_parentBits_41 : decode cX3_parentBits 41 = .ok (.iload_n 1, 1) := by decide +kernel
theorem dX3_parentBits_42 : decode cX3_parentBits 42 = .ok (.iaload, 1) := by decide +kernel
theorem dX3_parentBits_43 : decode cX3_parentBits 43 = .ok (.ishl, 1) := by decide +kernel
theorem dX3_parentBits_44 : decode cX3_parentBits 44 = .ok (.ior, 1) := by decide +kernel
theorem dX3_parentBits_45 : decode cX3_parentBits 45 = .ok (.ireturn, 1) := by decide +kernel
theorem dX3_widest_0 : decode cX3_widest 0 = .ok (.aload_n 0, 1) := by decide +kernel
theorem dX3_widest_1 : decode cX3_widest 1 = .ok (.iconst 1, 1) := by decide +kernel
theorem dX3_widest_2 : decode cX3_widest 2 = .ok (.aload_n 0, 1) := by decide +kernel
theorem dX3_widest_3 : decode cX3_widest 3 = .ok (.getfield 33, 3) := by decide +kernel
theorem dX3_widest_6 : decode cX3_widest 6 = .ok (.ishl, 1) := by decide +kernel
theorem dX3_widest_7 : decode cX3_widest 7 = .ok (.iconst 1, 1) := by decide +kernel
theorem dX3_widest_8 : decode cX3_widest 8 = .ok (.isub, 1) := by decide +kernel
theorem dX3_widest_9 : decode cX3_widest 9 = .ok (.iconst 0, 1) := by decide +kernel
theorem dX3_widest_10 : decode cX3_widest 10 = .ok (.invokestatic 60, 3) := by decide +kernel
theorem dX3_widest_13 : decode cX3_widest 13 = .ok (.ireturn, 1) := by decide +kernel
theorem dX3_widestOf_0 : decode cX3_widestOf 0 = .ok (.iload_n 2, 1) := by decide +kernel
theorem dX3_widestOf_1 : decode cX3_widestOf 1 = .ok (.istore_n 3, 1) := by decide +kernel
theorem dX3_widestOf_2 : decode cX3_widestOf 2 = .ok (.iload_n 3, 1) := by decide +kernel
theorem dX3_widestOf_3 : decode cX3_widestOf 3 = .ok (.aload_n 0, 1) := by decide +kernel
theorem dX3_widestOf_4 : decode cX3_widestOf 4 = .ok (.getfield 33, 3) := by decide +kernel
theorem dX3_widestOf_7 : decode cX3_widestOf 7 = .ok (.if_icmp .ge 87, 3) := by decide +kernel
theorem dX3_widestOf_10 : decode cX3_widestOf 10 = .ok (.iload_n 1, 1) := by decide +kernel
theorem dX3_widestOf_11 : decode cX3_widestOf 11 = .ok (.iload_n 3, 1) := by decide +kernel
theorem dX3_widestOf_12 : decode cX3_widestOf 12 = .ok (.ishr, 1) := by decide +kernel
theorem dX3_widestOf_13 : decode cX3_widestOf 13 = .ok (.iconst 1, 1) := by decide +kernel
theorem dX3_widestOf_14 : decode cX3_widestOf 14 = .ok (.iand, 1) := by decide +kernel
theorem dX3_widestOf_15 : decode cX3_widestOf 15 = .ok (.iconst 1, 1) := by decide +kernel
theorem dX3_widestOf_16 : decode cX3_widestOf 16 = .ok (.if_icmp .ne 72, 3) := by decide +kernel
theorem dX3_widestOf_19 : decode cX3_widestOf 19 = .ok (.iload_n 1, 1) := by decide +kernel
theorem dX3_widestOf_20 : decode cX3_widestOf 20 = .ok (.iconst 1, 1) := by decide +kernel
theorem dX3_widestOf_21 : decode cX3_widestOf 21 = .ok (.iload_n 3, 1) := by decide +kernel
theorem dX3_widestOf_22 : decode cX3_widestOf 22 = .ok (.ishl, 1) := by decide +kernel
theorem dX3_widestOf_23 : decode cX3_widestOf 23 = .ok (.iconst (-1), 1) := by decide +kernel
theorem dX3_widestOf_24 : decode cX3_widestOf 24 = .ok (.ixor, 1) := by decide +kernel
theorem dX3_widestOf_25 : decode cX3_widestOf 25 = .ok (.iand, 1) := by decide +kernel
theorem dX3_widestOf_26 : decode cX3_widestOf 26 = .ok (.istore 4, 2) := by decide +kernel
theorem dX3_widestOf_28 : decode cX3_widestOf 28 = .ok (.iload 4, 2) := by decide +kernel
theorem dX3_widestOf_30 : decode cX3_widestOf 30 = .ok (.aload_n 0, 1) := by decide +kernel
theorem dX3_widestOf_31 : decode cX3_widestOf 31 = .ok (.getfield 21, 3) := by decide +kernel
theorem dX3_widestOf_34 : decode cX3_widestOf 34 = .ok (.iload_n 3, 1) := by decide +kernel
theorem dX3_widestOf_35 : decode cX3_widestOf 35 = .ok (.iaload, 1) := by decide +kernel
theorem dX3_widestOf_36 : decode cX3_widestOf 36 = .ok (.aload_n 0, 1) := by decide +kernel
theorem dX3_widestOf_37 : decode cX3_widestOf 37 = .ok (.getfield 24, 3) := by decide +kernel
theorem dX3_widestOf_40 : decode cX3_widestOf 40 = .ok (.iload_n 3, 1) := by decide +kernel
theorem dX3_widestOf_41 : decode cX3_widestOf 41 = .ok (.iaload, 1) := by decide +kernel
theorem dX3_widestOf_42 : decode cX3_widestOf 42 = .ok (.ior, 1) := by decide +kernel
theorem dX3_widestOf_43 : decode cX3_widestOf 43 = .ok (.iconst (-1), 1) := by decide +kernel
theorem dX3_widestOf_44 : decode cX3_widestOf 44 = .ok (.ixor, 1) := by decide +kernel
theorem dX3_widestOf_45 : decode cX3_widestOf 45 = .ok (.iand, 1) := by decide +kernel
theorem dX3_widestOf_46 : decode cX3_widestOf 46 = .ok (.istore 5, 2) := by decide +kernel
theorem dX3_widestOf_48 : decode cX3_widestOf 48 = .ok (.iconst 1, 1) := by decide +kernel
theorem dX3_widestOf_49 : decode cX3_widestOf 49 = .ok (.aload_n 0, 1) := by decide +kernel
theorem dX3_widestOf_50 : decode cX3_widestOf 50 = .ok (.iload 5, 2) := by decide +kernel
theorem dX3_widestOf_52 : decode cX3_widestOf 52 = .ok (.iload_n 3, 1) := by decide +kernel
theorem dX3_widestOf_53 : decode cX3_widestOf 53 = .ok (.iconst 1, 1) := by decide +kernel
theorem dX3_widestOf_54 : decode cX3_widestOf 54 = .ok (.iadd, 1) := by decide +kernel
theorem dX3_widestOf_55 : decode cX3_widestOf 55 = .ok (.invokestatic 60, 3) := by decide +kernel
theorem dX3_widestOf_58 : decode cX3_widestOf 58 = .ok (.iadd, 1) := by decide +kernel
theorem dX3_widestOf_59 : decode cX3_widestOf 59 = .ok (.istore 6, 2) := by decide +kernel
theorem dX3_widestOf_61 : decode cX3_widestOf 61 = .ok (.iload 5, 2) := by decide +kernel
theorem dX3_widestOf_63 : decode cX3_widestOf 63 = .ok (.iload 4, 2) := by decide +kernel
theorem dX3_widestOf_65 : decode cX3_widestOf 65 = .ok (.if_icmp .ne 8, 3) := by decide +kernel
theorem dX3_widestOf_68 : decode cX3_widestOf 68 = .ok (.iload 6, 2) := by decide +kernel
theorem dX3_widestOf_70 : decode cX3_widestOf 70 = .ok (.goto 17, 3) := by decide +kernel
theorem dX3_widestOf_73 : decode cX3_widestOf 73 = .ok (.iload 6, 2) := by decide +kernel
theorem dX3_widestOf_75 : decode cX3_widestOf 75 = .ok (.aload_n 0, 1) := by decide +kernel
theorem dX3_widestOf_76 : decode cX3_widestOf 76 = .ok (.iload 4, 2) := by decide +kernel
theorem dX3_widestOf_78 : decode cX3_widestOf 78 = .ok (.iload_n 3, 1) := by decide +kernel
theorem dX3_widestOf_79 : decode cX3_widestOf 79 = .ok (.iconst 1, 1) := by decide +kernel
theorem dX3_widestOf_80 : decode cX3_widestOf 80 = .ok (.iadd, 1) := by decide +kernel
theorem dX3_widestOf_81 : decode cX3_widestOf 81 = .ok (.invokestatic 60, 3) := by decide +kernel
theorem dX3_widestOf_84 : decode cX3_widestOf 84 = .ok (.invokestatic 54, 3) := by decide +kernel
theorem dX3_widestOf_87 : decode cX3_widestOf 87 = .ok (.ireturn, 1) := by decide +kernel
theorem dX3_widestOf_88 : decode cX3_widestOf 88 = .ok (.iinc 3 1, 3) := by decide +kernel
theorem dX3_widestOf_91 : decode cX3_widestOf 91 = .ok (.goto (-89), 3) := by decide +kernel
theorem dX3_widestOf_94 : decode cX3_widestOf 94 = .ok (.iconst 0, 1) := by decide +kernel
theorem dX3_widestOf_95 : decode cX3_widestOf 95 = .ok (.ireturn, 1) := by decide +kernel
theorem dX4_init_0 : decode cX4_init 0 = .ok (.aload_n 0, 1) := by decide +kernel
theorem dX4_init_1 : decode cX4_init 1 = .ok (.invokespecial 3, 3) := by decide +kernel
theorem dX4_init_4 : decode cX4_init 4 = .ok (.aload_n 0, 1) := by decide +kernel
theorem dX4_init_5 : decode cX4_init 5 = .ok (.bipush 8, 2) := by decide +kernel
theorem dX4_init_7 : decode cX4_init 7 = .ok (.newarray .int, 2) := by decide +kernel
theorem dX4_init_9 : decode cX4_init 9 = .ok (.putfield 9, 3) := by decide +kernel
theorem dX4_init_12 : decode cX4_init 12 = .ok (.aload_n 0, 1) := by decide +kernel
theorem dX4_init_13 : decode cX4_init 13 = .ok (.bipush 8, 2) := by decide +kernel
theorem dX4_init_15 : decode cX4_init 15 = .ok (.newarray .int, 2) := by decide +kernel
theorem dX4_init_17 : decode cX4_init 17 = .ok (.putfield 15, 3) := by decide +kernel
theorem dX4_init_20 : decode cX4_init 20 = .ok (.aload_n 0, 1) := by decide +kernel
theorem dX4_init_21 : decode cX4_init 21 = .ok (.bipush 8, 2) := by decide +kernel
theorem dX4_init_23 : decode cX4_init 23 = .ok (.newarray .int, 2) := by decide +kernel
theorem dX4_init_25 : decode cX4_init 25 = .ok (.putfield 18, 3) := by decide +kernel
theorem dX4_init_28 : decode cX4_init 28 = .ok (.aload_n 0, 1) := by decide +kernel
theorem dX4_init_29 : decode cX4_init 29 = .ok (.bipush 8, 2) := by decide +kernel
theorem dX4_init_31 : decode cX4_init 31 = .ok (.anewarray 21, 3) := by decide +kernel
theorem dX4_init_34 : decode cX4_init 34 = .ok (.putfield 23, 3) := by decide +kernel
theorem dX4_init_37 : decode cX4_init 37 = .ok (.iconst 0, 1) := by decide +kernel
theorem dX4_init_38 : decode cX4_init 38 = .ok (.istore_n 1, 1) := by decide +kernel
theorem dX4_init_39 : decode cX4_init 39 = .ok (.iload_n 1, 1) := by decide +kernel
theorem dX4_init_40 : decode cX4_init 40 = .ok (.bipush 8, 2) := by decide +kernel
theorem dX4_init_42 : decode cX4_init 42 = .ok (.if_icmp .ge 22, 3) := by decide +kernel
theorem dX4_init_45 : decode cX4_init 45 = .ok (.aload_n 0, 1) := by decide +kernel
theorem dX4_init_46 : decode cX4_init 46 = .ok (.getfield 23, 3) := by decide +kernel
theorem dX4_init_49 : decode cX4_init 49 = .ok (.iload_n 1, 1) := by decide +kernel
theorem dX4_init_50 : decode cX4_init 50 = .ok (.new 21, 3) := by decide +kernel
theorem dX4_init_53 : decode cX4_init 53 = .ok (.dup, 1) := by decide +kernel
theorem dX4_init_54 : decode cX4_init 54 = .ok (.invokespecial 27, 3) := by decide +kernel
theorem dX4_init_57 : decode cX4_init 57 = .ok (.aastore, 1) := by decide +kernel
theorem dX4_init_58 : decode cX4_init 58 = .ok (.iinc 1 1, 3) := by decide +kernel
theorem dX4_init_61 : decode cX4_init 61 = .ok (.goto (-22), 3) := by decide +kernel
theorem dX4_init_64 : decode cX4_init 64 = .ok (.aload_n 0, 1) := by decide +kernel
theorem dX4_init_65 : decode cX4_init 65 = .ok (.invokevirtual 28, 3) := by decide +kernel
theorem dX4_init_68 : decode cX4_init 68 = .ok (.return_, 1) := by decide +kernel
theorem dX4_begin_0 : decode cX4_begin 0 = .ok (.aload_n 0, 1) := by decide +kernel
theorem dX4_begin_1 : decode cX4_begin 1 = .ok (.getfield 9, 3) := by decide +kernel
theorem dX4_begin_4 : decode cX4_begin 4 = .ok (.iconst 0, 1) := by decide +kernel
theorem dX4_begin_5 : decode cX4_begin 5 = .ok (.invokestatic 31, 3) := by decide +kernel
theorem dX4_begin_8 : decode cX4_begin 8 = .ok (.aload_n 0, 1) := by decide +kernel
theorem dX4_begin_9 : decode cX4_begin 9 = .ok (.getfield 15, 3) := by decide +kernel
theorem dX4_begin_12 : decode cX4_begin 12 = .ok (.iconst 0, 1) := by decide +kernel
theorem dX4_begin_13 : decode cX4_begin 13 = .ok (.invokestatic 31, 3) := by decide +kernel
theorem dX4_begin_16 : decode cX4_begin 16 = .ok (.aload_n 0, 1) := by decide +kernel
theorem dX4_begin_17 : decode cX4_begin 17 = .ok (.getfield 18, 3) := by decide +kernel
theorem dX4_begin_20 : decode cX4_begin 20 = .ok (.iconst (-1), 1) := by decide +kernel
theorem dX4_begin_21 : decode cX4_begin 21 = .ok (.invokestatic 31, 3) := by decide +kernel
theorem dX4_begin_24 : decode cX4_begin 24 = .ok (.iconst 0, 1) := by decide +kernel
theorem dX4_begin_25 : decode cX4_begin 25 = .ok (.istore_n 1, 1) := by decide +kernel
theorem dX4_begin_26 : decode cX4_begin 26 = .ok (.iload_n 1, 1) := by decide +kernel
theorem dX4_begin_27 : decode cX4_begin 27 = .ok (.bipush 8, 2) := by decide +kernel
theorem dX4_begin_29 : decode cX4_begin 29 = .ok (.if_icmp .ge 18, 3) := by decide +kernel
theorem dX4_begin_32 : decode cX4_begin 32 = .ok (.aload_n 0, 1) := by decide +kernel
theorem dX4_begin_33 : decode cX4_begin 33 = .ok (.getfield 23, 3) := by decide +kernel
theorem dX4_begin_36 : decode cX4_begin 36 = .ok (.iload_n 1, 1) := by decide +kernel
theorem dX4_begin_37 : decode cX4_begin 37 = .ok (.aaload, 1) := by decide +kernel
theorem dX4_begin_38 : decode cX4_begin 38 = .ok (.invokevirtual 37, 3) := by decide +kernel
theorem dX4_begin_41 : decode cX4_begin 41 = .ok (.iinc 1 1, 3) := by decide +kernel
theorem dX4_begin_44 : decode cX4_begin 44 = .ok (.goto (-18), 3) := by decide +kernel
theorem dX4_begin_47 : decode cX4_begin 47 = .ok (.return_, 1) := by decide +kernel
theorem dX4_takeFrom_0 : decode cX4_takeFrom 0 = .ok (.aload_n 1, 1) := by decide +kernel
theorem dX4_takeFrom_1 : decode cX4_takeFrom 1 = .ok (.getfield 9, 3) := by decide +kernel
theorem dX4_takeFrom_4 : decode cX4_takeFrom 4 = .ok (.iconst 0, 1) := by decide +kernel
theorem dX4_takeFrom_5 : decode cX4_takeFrom 5 = .ok (.aload_n 0, 1) := by decide +kernel
theorem dX4_takeFrom_6 : decode cX4_takeFrom 6 = .ok (.getfield 9, 3) := by decide +kernel
theorem dX4_takeFrom_9 : decode cX4_takeFrom 9 = .ok (.iconst 0, 1) := by decide +kernel
theorem dX4_takeFrom_10 : decode cX4_takeFrom 10 = .ok (.bipush 8, 2) := by decide +kernel
theorem dX4_takeFrom_12 : decode cX4_takeFrom 12 = .ok (.invokestatic 38, 3) := by decide +kernel
theorem dX4_takeFrom_15 : decode cX4_takeFrom 15 = .ok (.aload_n 1, 1) := by decide +kernel
theorem dX4_takeFrom_16 : decode cX4_takeFrom 16 = .ok (.getfield 15, 3) := by decide +kernel
theorem dX4_takeFrom_19 : decode cX4_takeFrom 19 = .ok (.iconst 0, 1) := by decide +kernel
theorem dX4_takeFrom_20 : decode cX4_takeFrom 20 = .ok (.aload_n 0, 1) := by decide +kernel
theorem dX4_takeFrom_21 : decode cX4_takeFrom 21 = .ok (.getfield 15, 3) := by decide +kernel
theorem dX4_takeFrom_24 : decode cX4_takeFrom 24 = .ok (.iconst 0, 1) := by decide +kernel
theorem dX4_takeFrom_25 : decode cX4_takeFrom 25 = .ok (.bipush 8, 2) := by decide +kernel
theorem dX4_takeFrom_27 : decode cX4_takeFrom 27 = .ok (.invokestatic 38, 3) := by decide +kernel
theorem dX4_takeFrom_30 : decode cX4_takeFrom 30 = .ok (.aload_n 1, 1) := by decide +kernel
theorem dX4_takeFrom_31 : decode cX4_takeFrom 31 = .ok (.getfield 18, 3) := by decide +kernel
theorem dX4_takeFrom_34 : decode cX4_takeFrom 34 = .ok (.iconst 0, 1) := by decide +kernel
theorem dX4_takeFrom_35 : decode cX4_takeFrom 35 = .ok (.aload_n 0, 1) := by decide +kernel
theorem dX4_takeFrom_36 : decode cX4_takeFrom 36 = .ok (.getfield 18, 3) := by decide +kernel
theorem dX4_takeFrom_39 : decode cX4_takeFrom 39 = .ok (.iconst 0, 1) := by decide +kernel
theorem dX4_takeFrom_40 : decode cX4_takeFrom 40 = .ok (.bipush 8, 2) := by decide +kernel
theorem dX4_takeFrom_42 : decode cX4_takeFrom 42 = .ok (.invokestatic 38, 3) := by decide +kernel
theorem dX4_takeFrom_45 : decode cX4_takeFrom 45 = .ok (.iconst 0, 1) := by decide +kernel
theorem dX4_takeFrom_46 : decode cX4_takeFrom 46 = .ok (.istore_n 2, 1) := by decide +kernel
theorem dX4_takeFrom_47 : decode cX4_takeFrom 47 = .ok (.iload_n 2, 1) := by decide +kernel
theorem dX4_takeFrom_48 : decode cX4_takeFrom 48 = .ok (.bipush 8, 2) := by decide +kernel
theorem dX4_takeFrom_50 : decode cX4_takeFrom 50 = .ok (.if_icmp .ge 24, 3) := by decide +kernel
theorem dX4_takeFrom_53 : decode cX4_takeFrom 53 = .ok (.aload_n 0, 1) := by decide +kernel
theorem dX4_takeFrom_54 : decode cX4_takeFrom 54 = .ok (.getfield 23, 3) := by decide +kernel
theorem dX4_takeFrom_57 : decode cX4_takeFrom 57 = .ok (.iload_n 2, 1) := by decide +kernel
theorem dX4_takeFrom_58 : decode cX4_takeFrom 58 = .ok (.aaload, 1) := by decide +kernel
theorem dX4_takeFrom_59 : decode cX4_takeFrom 59 = .ok (.aload_n 1, 1) := by decide +kernel
theorem dX4_takeFrom_60 : decode cX4_takeFrom 60 = .ok (.getfield 23, 3) := by decide +kernel
theorem dX4_takeFrom_63 : decode cX4_takeFrom 63 = .ok (.iload_n 2, 1) := by decide +kernel
theorem dX4_takeFrom_64 : decode cX4_takeFrom 64 = .ok (.aaload, 1) := by decide +kernel
theorem dX4_takeFrom_65 : decode cX4_takeFrom 65 = .ok (.invokevirtual 44, 3) := by decide +kernel
theorem dX4_takeFrom_68 : decode cX4_takeFrom 68 = .ok (.iinc 2 1, 3) := by decide +kernel
theorem dX4_takeFrom_71 : decode cX4_takeFrom 71 = .ok (.goto (-24), 3) := by decide +kernel
theorem dX4_takeFrom_74 : decode cX4_takeFrom 74 = .ok (.return_, 1) := by decide +kernel
theorem dX4_colourOf_0 : decode cX4_colourOf 0 = .ok (.iload_n 0, 1) := by decide +kernel
theorem dX4_colourOf_1 : decode cX4_colourOf 1 = .ok (.iconst 3, 1) := by decide +kernel
theorem dX4_colourOf_2 : decode cX4_colourOf 2 = .ok (.iand, 1) := by decide +kernel
theorem dX4_colourOf_3 : decode cX4_colourOf 3 = .ok (.iconst 1, 1) := by decide +kernel
theorem dX4_colourOf_4 : decode cX4_colourOf 4 = .ok (.isub, 1) := by decide +kernel
theorem dX4_colourOf_5 : decode cX4_colourOf 5 = .ok (.ireturn, 1) := by decide +kernel
theorem dX4_withColour_0 : decode cX4_withColour 0 = .ok (.iload_n 0, 1) := by decide +kernel
theorem dX4_withColour_1 : decode cX4_withColour 1 = .ok (.bipush (-4), 2) := by decide +kernel
theorem dX4_withColour_3 : decode cX4_withColour 3 = .ok (.iand, 1) := by decide +kernel
theorem dX4_withColour_4 : decode cX4_withColour 4 = .ok (.iload_n 1, 1) := by decide +kernel
theorem dX4_withColour_5 : decode cX4_withColour 5 = .ok (.iconst 1, 1) := by decide +kernel
theorem dX4_withColour_6 : decode cX4_withColour 6 = .ok (.iadd, 1) := by decide +kernel
theorem dX4_withColour_7 : decode cX4_withColour 7 = .ok (.ior, 1) := by decide +kernel
theorem dX4_withColour_8 : decode cX4_withColour 8 = .ok (.ireturn, 1) := by decide +kernel
theorem dX4_lastOf_0 : decode cX4_lastOf 0 = .ok (.iload_n 0, 1) := by decide +kernel
theorem dX4_lastOf_1 : decode cX4_lastOf 1 = .ok (.iconst 2, 1) := by decide +kernel
theorem dX4_lastOf_2 : decode cX4_lastOf 2 = .ok (.iushr, 1) := by decide +kernel
theorem dX4_lastOf_3 : decode cX4_lastOf 3 = .ok (.iconst 3, 1) := by decide +kernel
theorem dX4_lastOf_4 : decode cX4_lastOf 4 = .ok (.iand, 1) := by decide +kernel
theorem dX4_lastOf_5 : decode cX4_lastOf 5 = .ok (.iconst 1, 1) := by decide +kernel
theorem dX4_lastOf_6 : decode cX4_lastOf 6 = .ok (.isub, 1) := by decide +kernel
theorem dX4_lastOf_7 : decode cX4_lastOf 7 = .ok (.ireturn, 1) := by decide +kernel
theorem dX4_withLast_0 : decode cX4_withLast 0 = .ok (.iload_n 0, 1) := by decide +kernel
theorem dX4_withLast_1 : decode cX4_withLast 1 = .ok (.bipush (-13), 2) := by decide +kernel
theorem dX4_withLast_3 : decode cX4_withLast 3 = .ok (.iand, 1) := by decide +kernel
theorem dX4_withLast_4 : decode cX4_withLast 4 = .ok (.iload_n 1, 1) := by decide +kernel
theorem dX4_withLast_5 : decode cX4_withLast 5 = .ok (.iconst 1, 1) := by decide +kernel
theorem dX4_withLast_6 : decode cX4_withLast 6 = .ok (.iadd, 1) := by decide +kernel
theorem dX4_withLast_7 : decode cX4_withLast 7 = .ok (.iconst 2, 1) := by decide +kernel
theorem dX4_withLast_8 : decode cX4_withLast 8 = .ok (.ishl, 1) := by decide +kernel
theorem dX4_withLast_9 : decode cX4_withLast 9 = .ok (.ior, 1) := by decide +kernel
theorem dX4_withLast_10 : decode cX4_withLast 10 = .ok (.ireturn, 1) := by decide +kernel
theorem dX4_counterOf_0 : decode cX4_counterOf 0 = .ok (.iload_n 0, 1) := by decide +kernel
theorem dX4_counterOf_1 : decode cX4_counterOf 1 = .ok (.iconst 4, 1) := by decide +kernel
theorem dX4_counterOf_2 : decode cX4_counterOf 2 = .ok (.iushr, 1) := by decide +kernel
theorem dX4_counterOf_3 : decode cX4_counterOf 3 = .ok (.bipush 15, 2) := by decide +kernel
theorem dX4_counterOf_5 : decode cX4_counterOf 5 = .ok (.iand, 1) := by decide +kernel
theorem dX4_counterOf_6 : decode cX4_counterOf 6 = .ok (.ireturn, 1) := by decide +kernel
theorem dX4_withCounter_0 : decode cX4_withCounter 0 = .ok (.iload_n 0, 1) := by decide +kernel
theorem dX4_withCounter_1 : decode cX4_withCounter 1 = .ok (.sipush (-241), 3) := by decide +kernel
theorem dX4_withCounter_4 : decode cX4_withCounter 4 = .ok (.iand, 1) := by decide +kernel
theorem dX4_withCounter_5 : decode cX4_withCounter 5 = .ok (.iload_n 1, 1) := by decide +kernel
theorem dX4_withCounter_6 : decode cX4_withCounter 6 = .ok (.iconst 4, 1) := by decide +kernel
theorem dX4_withCounter_7 : decode cX4_withCounter 7 = .ok (.ishl, 1) := by decide +kernel
theorem dX4_withCounter_8 : decode cX4_withCounter 8 = .ok (.ior, 1) := by decide +kernel
theorem dX4_withCounter_9 : decode cX4_withCounter 9 = .ok (.ireturn, 1) := by decide +kernel
theorem dX4_confidenceOf_0 : decode cX4_confidenceOf 0 = .ok (.iload_n 0, 1) := by decide +kernel
theorem dX4_confidenceOf_1 : decode cX4_confidenceOf 1 = .ok (.bipush 8, 2) := by decide +kernel
theorem dX4_confidenceOf_3 : decode cX4_confidenceOf 3 = .ok (.iload_n 1, 1) := by decide +kernel
theorem dX4_confidenceOf_4 : decode cX4_confidenceOf 4 = .ok (.bipush 10, 2) := by decide +kernel
theorem dX4_confidenceOf_6 : decode cX4_confidenceOf 6 = .ok (.imul, 1) := by decide +kernel
theorem dX4_confidenceOf_7 : decode cX4_confidenceOf 7 = .ok (.iadd, 1) := by decide +kernel
theorem dX4_confidenceOf_8 : decode cX4_confidenceOf 8 = .ok (.iushr, 1) := by decide +kernel
theorem dX4_confidenceOf_9 : decode cX4_confidenceOf 9 = .ok (.sipush 1023, 3) := by decide +kernel
theorem dX4_confidenceOf_12 : decode cX4_confidenceOf 12 = .ok (.iand, 1) := by decide +kernel
theorem dX4_confidenceOf_13 : decode cX4_confidenceOf 13 = .ok (.ireturn, 1) := by decide +kernel
theorem dX4_withConfidence_0 : decode cX4_withConfidence 0 = .ok (.bipush 8, 2) := by decide +kernel
theorem dX4_withConfidence_2 : decode cX4_withConfidence 2 = .ok (.iload_n 1, 1) := by decide +kernel
theorem dX4_withConfidence_3 : decode cX4_withConfidence 3 = .ok (.bipush 10, 2) := by decide +kernel
theorem dX4_withConfidence_5 : decode cX4_withConfidence 5 = .ok (.imul, 1) := by decide +kernel
theorem dX4_withConfidence_6 : decode cX4_withConfidence 6 = .ok (.iadd, 1) := by decide +kernel
theorem dX4_withConfidence_7 : decode cX4_withConfidence 7 = .ok (.istore_n 3, 1) := by decide +kernel
theorem dX4_withConfidence_8 : decode cX4_withConfidence 8 = .ok (.iload_n 0, 1) := by decide +kernel
theorem dX4_withConfidence_9 : decode cX4_withConfidence 9 = .ok (.sipush 1023, 3) := by decide +kernel
theorem dX4_withConfidence_12 : decode cX4_withConfidence 12 = .ok (.iload_n 3, 1) := by decide +kernel
theorem dX4_withConfidence_13 : decode cX4_withConfidence 13 = .ok (.ishl, 1) := by decide +kernel
theorem dX4_withConfidence_14 : decode cX4_withConfidence 14 = .ok (.iconst (-1), 1) := by decide +kernel
theorem dX4_withConfidence_15 : decode cX4_withConfidence 15 = .ok (.ixor, 1) := by decide +kernel
theorem dX4_withConfidence_16 : decode cX4_withConfidence 16 = .ok (.iand, 1) := by decide +kernel
theorem dX4_withConfidence_17 : decode cX4_withConfidence 17 = .ok (.iload_n 2, 1) := by decide +kernel
theorem dX4_withConfidence_18 : decode cX4_withConfidence 18 = .ok (.iload_n 3, 1) := by decide +kernel
theorem dX4_withConfidence_19 : decode cX4_withConfidence 19 = .ok (.ishl, 1) := by decide +kernel
theorem dX4_withConfidence_20 : decode cX4_withConfidence 20 = .ok (.ior, 1) := by decide +kernel
theorem dX4_withConfidence_21 : decode cX4_withConfidence 21 = .ok (.ireturn, 1) := by decide +kernel
theorem dX4_isDecided_0 : decode cX4_isDecided 0 = .ok (.iload_n 0, 1) := by decide +kernel
theorem dX4_isDecided_1 : decode cX4_isDecided 1 = .ok (.ldc 48, 2) := by decide +kernel
theorem dX4_isDecided_3 : decode cX4_isDecided 3 = .ok (.iand, 1) := by decide +kernel
theorem dX4_isDecided_4 : decode cX4_isDecided 4 = .ok (.ifCond .eq 7, 3) := by decide +kernel
theorem dX4_isDecided_7 : decode cX4_isDecided 7 = .ok (.iconst 1, 1) := by decide +kernel
theorem dX4_isDecided_8 : decode cX4_isDecided 8 = .ok (.goto 4, 3) := by decide +kernel
theorem dX4_isDecided_11 : decode cX4_isDecided 11 = .ok (.iconst 0, 1) := by decide +kernel
theorem dX4_isDecided_12 : decode cX4_isDecided 12 = .ok (.ireturn, 1) := by decide +kernel
theorem dX4_withDecided_0 : decode cX4_withDecided 0 = .ok (.iload_n 0, 1) := by decide +kernel
theorem dX4_withDecided_1 : decode cX4_withDecided 1 = .ok (.ldc 48, 2) := by decide +kernel
theorem dX4_withDecided_3 : decode cX4_withDecided 3 = .ok (.ior, 1) := by decide +kernel
theorem dX4_withDecided_4 : decode cX4_withDecided 4 = .ok (.ireturn, 1) := by decide +kernel
theorem dX4_isLinked_0 : decode cX4_isLinked 0 = .ok (.aload_n 0, 1) := by decide +kernel
theorem dX4_isLinked_1 : decode cX4_isLinked 1 = .ok (.getfield 18, 3) := by decide +kernel
