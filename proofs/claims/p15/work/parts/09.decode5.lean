theorem dX12_plus_23 : decode cX12_plus 23 = .ok (.goto 4, 3) := by decide +kernel
theorem dX12_plus_26 : decode cX12_plus 26 = .ok (.iconst 0, 1) := by decide +kernel
theorem dX12_plus_27 : decode cX12_plus 27 = .ok (.if_icmp .ne 34, 3) := by decide +kernel
theorem dX12_plus_30 : decode cX12_plus 30 = .ok (.lload 5, 2) := by decide +kernel
theorem dX12_plus_32 : decode cX12_plus 32 = .ok (.lconst 0, 1) := by decide +kernel
theorem dX12_plus_33 : decode cX12_plus 33 = .ok (.lcmp, 1) := by decide +kernel
theorem dX12_plus_34 : decode cX12_plus 34 = .ok (.ifCond .ge 7, 3) := by decide +kernel
theorem dX12_plus_37 : decode cX12_plus 37 = .ok (.iconst 1, 1) := by decide +kernel
theorem dX12_plus_38 : decode cX12_plus 38 = .ok (.goto 4, 3) := by decide +kernel
theorem dX12_plus_41 : decode cX12_plus 41 = .ok (.iconst 0, 1) := by decide +kernel
theorem dX12_plus_42 : decode cX12_plus 42 = .ok (.lload_n 1, 1) := by decide +kernel
theorem dX12_plus_43 : decode cX12_plus 43 = .ok (.lconst 0, 1) := by decide +kernel
theorem dX12_plus_44 : decode cX12_plus 44 = .ok (.lcmp, 1) := by decide +kernel
theorem dX12_plus_45 : decode cX12_plus 45 = .ok (.ifCond .ge 7, 3) := by decide +kernel
theorem dX12_plus_48 : decode cX12_plus 48 = .ok (.iconst 1, 1) := by decide +kernel
theorem dX12_plus_49 : decode cX12_plus 49 = .ok (.goto 4, 3) := by decide +kernel
theorem dX12_plus_52 : decode cX12_plus 52 = .ok (.iconst 0, 1) := by decide +kernel
theorem dX12_plus_53 : decode cX12_plus 53 = .ok (.if_icmp .eq 8, 3) := by decide +kernel
theorem dX12_plus_56 : decode cX12_plus 56 = .ok (.aload_n 0, 1) := by decide +kernel
theorem dX12_plus_57 : decode cX12_plus 57 = .ok (.iconst 1, 1) := by decide +kernel
theorem dX12_plus_58 : decode cX12_plus 58 = .ok (.putfield 252, 3) := by decide +kernel
theorem dX12_plus_61 : decode cX12_plus 61 = .ok (.lload 5, 2) := by decide +kernel
theorem dX12_plus_63 : decode cX12_plus 63 = .ok (.lreturn, 1) := by decide +kernel
theorem dX12_settles_0 : decode cX12_settles 0 = .ok (.lload_n 1, 1) := by decide +kernel
theorem dX12_settles_1 : decode cX12_settles 1 = .ok (.lconst 0, 1) := by decide +kernel
theorem dX12_settles_2 : decode cX12_settles 2 = .ok (.lcmp, 1) := by decide +kernel
theorem dX12_settles_3 : decode cX12_settles 3 = .ok (.ifCond .ge 8, 3) := by decide +kernel
theorem dX12_settles_6 : decode cX12_settles 6 = .ok (.lload_n 1, 1) := by decide +kernel
theorem dX12_settles_7 : decode cX12_settles 7 = .ok (.lneg, 1) := by decide +kernel
theorem dX12_settles_8 : decode cX12_settles 8 = .ok (.goto 4, 3) := by decide +kernel
theorem dX12_settles_11 : decode cX12_settles 11 = .ok (.lload_n 1, 1) := by decide +kernel
theorem dX12_settles_12 : decode cX12_settles 12 = .ok (.lstore 5, 2) := by decide +kernel
theorem dX12_settles_14 : decode cX12_settles 14 = .ok (.lload_n 3, 1) := by decide +kernel
theorem dX12_settles_15 : decode cX12_settles 15 = .ok (.lstore 7, 2) := by decide +kernel
theorem dX12_settles_17 : decode cX12_settles 17 = .ok (.lload 7, 2) := by decide +kernel
theorem dX12_settles_19 : decode cX12_settles 19 = .ok (.lconst 0, 1) := by decide +kernel
theorem dX12_settles_20 : decode cX12_settles 20 = .ok (.lcmp, 1) := by decide +kernel
theorem dX12_settles_21 : decode cX12_settles 21 = .ok (.ifCond .eq 28, 3) := by decide +kernel
theorem dX12_settles_24 : decode cX12_settles 24 = .ok (.aload_n 0, 1) := by decide +kernel
theorem dX12_settles_25 : decode cX12_settles 25 = .ok (.getfield 252, 3) := by decide +kernel
theorem dX12_settles_28 : decode cX12_settles 28 = .ok (.ifCond .ne 21, 3) := by decide +kernel
theorem dX12_settles_31 : decode cX12_settles 31 = .ok (.lload 5, 2) := by decide +kernel
theorem dX12_settles_33 : decode cX12_settles 33 = .ok (.lload 7, 2) := by decide +kernel
theorem dX12_settles_35 : decode cX12_settles 35 = .ok (.lrem, 1) := by decide +kernel
theorem dX12_settles_36 : decode cX12_settles 36 = .ok (.lstore 9, 2) := by decide +kernel
theorem dX12_settles_38 : decode cX12_settles 38 = .ok (.lload 7, 2) := by decide +kernel
theorem dX12_settles_40 : decode cX12_settles 40 = .ok (.lstore 5, 2) := by decide +kernel
theorem dX12_settles_42 : decode cX12_settles 42 = .ok (.lload 9, 2) := by decide +kernel
theorem dX12_settles_44 : decode cX12_settles 44 = .ok (.lstore 7, 2) := by decide +kernel
theorem dX12_settles_46 : decode cX12_settles 46 = .ok (.goto (-29), 3) := by decide +kernel
theorem dX12_settles_49 : decode cX12_settles 49 = .ok (.aload_n 0, 1) := by decide +kernel
theorem dX12_settles_50 : decode cX12_settles 50 = .ok (.aload_n 0, 1) := by decide +kernel
theorem dX12_settles_51 : decode cX12_settles 51 = .ok (.getfield 252, 3) := by decide +kernel
theorem dX12_settles_54 : decode cX12_settles 54 = .ok (.ifCond .eq 7, 3) := by decide +kernel
theorem dX12_settles_57 : decode cX12_settles 57 = .ok (.lconst 0, 1) := by decide +kernel
theorem dX12_settles_58 : decode cX12_settles 58 = .ok (.goto 7, 3) := by decide +kernel
theorem dX12_settles_61 : decode cX12_settles 61 = .ok (.lload_n 1, 1) := by decide +kernel
theorem dX12_settles_62 : decode cX12_settles 62 = .ok (.lload 5, 2) := by decide +kernel
theorem dX12_settles_64 : decode cX12_settles 64 = .ok (.ldiv, 1) := by decide +kernel
theorem dX12_settles_65 : decode cX12_settles 65 = .ok (.putfield 256, 3) := by decide +kernel
theorem dX12_settles_68 : decode cX12_settles 68 = .ok (.aload_n 0, 1) := by decide +kernel
theorem dX12_settles_69 : decode cX12_settles 69 = .ok (.aload_n 0, 1) := by decide +kernel
theorem dX12_settles_70 : decode cX12_settles 70 = .ok (.getfield 252, 3) := by decide +kernel
theorem dX12_settles_73 : decode cX12_settles 73 = .ok (.ifCond .eq 7, 3) := by decide +kernel
theorem dX12_settles_76 : decode cX12_settles 76 = .ok (.lconst 1, 1) := by decide +kernel
theorem dX12_settles_77 : decode cX12_settles 77 = .ok (.goto 7, 3) := by decide +kernel
theorem dX12_settles_80 : decode cX12_settles 80 = .ok (.lload_n 3, 1) := by decide +kernel
theorem dX12_settles_81 : decode cX12_settles 81 = .ok (.lload 5, 2) := by decide +kernel
theorem dX12_settles_83 : decode cX12_settles 83 = .ok (.ldiv, 1) := by decide +kernel
theorem dX12_settles_84 : decode cX12_settles 84 = .ok (.putfield 260, 3) := by decide +kernel
theorem dX12_settles_87 : decode cX12_settles 87 = .ok (.return_, 1) := by decide +kernel
theorem dX12_adds_0 : decode cX12_adds 0 = .ok (.aload_n 0, 1) := by decide +kernel
theorem dX12_adds_1 : decode cX12_adds 1 = .ok (.aload_n 0, 1) := by decide +kernel
theorem dX12_adds_2 : decode cX12_adds 2 = .ok (.aload_n 0, 1) := by decide +kernel
theorem dX12_adds_3 : decode cX12_adds 3 = .ok (.lload_n 1, 1) := by decide +kernel
theorem dX12_adds_4 : decode cX12_adds 4 = .ok (.lload 7, 2) := by decide +kernel
theorem dX12_adds_6 : decode cX12_adds 6 = .ok (.invokevirtual 263, 3) := by decide +kernel
theorem dX12_adds_9 : decode cX12_adds 9 = .ok (.aload_n 0, 1) := by decide +kernel
theorem dX12_adds_10 : decode cX12_adds 10 = .ok (.lload 5, 2) := by decide +kernel
theorem dX12_adds_12 : decode cX12_adds 12 = .ok (.lload_n 3, 1) := by decide +kernel
theorem dX12_adds_13 : decode cX12_adds 13 = .ok (.invokevirtual 263, 3) := by decide +kernel
theorem dX12_adds_16 : decode cX12_adds 16 = .ok (.invokevirtual 266, 3) := by decide +kernel
theorem dX12_adds_19 : decode cX12_adds 19 = .ok (.aload_n 0, 1) := by decide +kernel
theorem dX12_adds_20 : decode cX12_adds 20 = .ok (.lload_n 3, 1) := by decide +kernel
theorem dX12_adds_21 : decode cX12_adds 21 = .ok (.lload 7, 2) := by decide +kernel
theorem dX12_adds_23 : decode cX12_adds 23 = .ok (.invokevirtual 263, 3) := by decide +kernel
theorem dX12_adds_26 : decode cX12_adds 26 = .ok (.invokevirtual 269, 3) := by decide +kernel
theorem dX12_adds_29 : decode cX12_adds 29 = .ok (.return_, 1) := by decide +kernel
theorem dX12_lessens_0 : decode cX12_lessens 0 = .ok (.aload_n 0, 1) := by decide +kernel
theorem dX12_lessens_1 : decode cX12_lessens 1 = .ok (.aload_n 0, 1) := by decide +kernel
theorem dX12_lessens_2 : decode cX12_lessens 2 = .ok (.aload_n 0, 1) := by decide +kernel
theorem dX12_lessens_3 : decode cX12_lessens 3 = .ok (.lload_n 1, 1) := by decide +kernel
theorem dX12_lessens_4 : decode cX12_lessens 4 = .ok (.lload 7, 2) := by decide +kernel
theorem dX12_lessens_6 : decode cX12_lessens 6 = .ok (.invokevirtual 263, 3) := by decide +kernel
theorem dX12_lessens_9 : decode cX12_lessens 9 = .ok (.aload_n 0, 1) := by decide +kernel
theorem dX12_lessens_10 : decode cX12_lessens 10 = .ok (.lload 5, 2) := by decide +kernel
theorem dX12_lessens_12 : decode cX12_lessens 12 = .ok (.lload_n 3, 1) := by decide +kernel
theorem dX12_lessens_13 : decode cX12_lessens 13 = .ok (.invokevirtual 263, 3) := by decide +kernel
theorem dX12_lessens_16 : decode cX12_lessens 16 = .ok (.lneg, 1) := by decide +kernel
theorem dX12_lessens_17 : decode cX12_lessens 17 = .ok (.invokevirtual 266, 3) := by decide +kernel
theorem dX12_lessens_20 : decode cX12_lessens 20 = .ok (.aload_n 0, 1) := by decide +kernel
theorem dX12_lessens_21 : decode cX12_lessens 21 = .ok (.lload_n 3, 1) := by decide +kernel
theorem dX12_lessens_22 : decode cX12_lessens 22 = .ok (.lload 7, 2) := by decide +kernel
theorem dX12_lessens_24 : decode cX12_lessens 24 = .ok (.invokevirtual 263, 3) := by decide +kernel
theorem dX12_lessens_27 : decode cX12_lessens 27 = .ok (.invokevirtual 269, 3) := by decide +kernel
theorem dX12_lessens_30 : decode cX12_lessens 30 = .ok (.return_, 1) := by decide +kernel
theorem dX12_multiplies_0 : decode cX12_multiplies 0 = .ok (.aload_n 0, 1) := by decide +kernel
theorem dX12_multiplies_1 : decode cX12_multiplies 1 = .ok (.aload_n 0, 1) := by decide +kernel
theorem dX12_multiplies_2 : decode cX12_multiplies 2 = .ok (.lload_n 1, 1) := by decide +kernel
theorem dX12_multiplies_3 : decode cX12_multiplies 3 = .ok (.lload 5, 2) := by decide +kernel
theorem dX12_multiplies_5 : decode cX12_multiplies 5 = .ok (.invokevirtual 263, 3) := by decide +kernel
theorem dX12_multiplies_8 : decode cX12_multiplies 8 = .ok (.aload_n 0, 1) := by decide +kernel
theorem dX12_multiplies_9 : decode cX12_multiplies 9 = .ok (.lload_n 3, 1) := by decide +kernel
theorem dX12_multiplies_10 : decode cX12_multiplies 10 = .ok (.lload 7, 2) := by decide +kernel
theorem dX12_multiplies_12 : decode cX12_multiplies 12 = .ok (.invokevirtual 263, 3) := by decide +kernel
theorem dX12_multiplies_15 : decode cX12_multiplies 15 = .ok (.invokevirtual 269, 3) := by decide +kernel
theorem dX12_multiplies_18 : decode cX12_multiplies 18 = .ok (.return_, 1) := by decide +kernel
theorem dX12_divides_0 : decode cX12_divides 0 = .ok (.aload_n 0, 1) := by decide +kernel
theorem dX12_divides_1 : decode cX12_divides 1 = .ok (.aload_n 0, 1) := by decide +kernel
theorem dX12_divides_2 : decode cX12_divides 2 = .ok (.lload_n 1, 1) := by decide +kernel
theorem dX12_divides_3 : decode cX12_divides 3 = .ok (.lload 7, 2) := by decide +kernel
theorem dX12_divides_5 : decode cX12_divides 5 = .ok (.invokevirtual 263, 3) := by decide +kernel
theorem dX12_divides_8 : decode cX12_divides 8 = .ok (.aload_n 0, 1) := by decide +kernel
theorem dX12_divides_9 : decode cX12_divides 9 = .ok (.lload_n 3, 1) := by decide +kernel
theorem dX12_divides_10 : decode cX12_divides 10 = .ok (.lload 5, 2) := by decide +kernel
theorem dX12_divides_12 : decode cX12_divides 12 = .ok (.invokevirtual 263, 3) := by decide +kernel
theorem dX12_divides_15 : decode cX12_divides 15 = .ok (.invokevirtual 269, 3) := by decide +kernel
theorem dX12_divides_18 : decode cX12_divides 18 = .ok (.return_, 1) := by decide +kernel
theorem dX12_enough_0 : decode cX12_enough 0 = .ok (.lconst 0, 1) := by decide +kernel
theorem dX12_enough_1 : decode cX12_enough 1 = .ok (.lstore_n 2, 1) := by decide +kernel
theorem dX12_enough_2 : decode cX12_enough 2 = .ok (.aload_n 0, 1) := by decide +kernel
theorem dX12_enough_3 : decode cX12_enough 3 = .ok (.getfield 26, 3) := by decide +kernel
theorem dX12_enough_6 : decode cX12_enough 6 = .ok (.istore 4, 2) := by decide +kernel
theorem dX12_enough_8 : decode cX12_enough 8 = .ok (.iload 4, 2) := by decide +kernel
theorem dX12_enough_10 : decode cX12_enough 10 = .ok (.aload_n 0, 1) := by decide +kernel
theorem dX12_enough_11 : decode cX12_enough 11 = .ok (.getfield 23, 3) := by decide +kernel
theorem dX12_enough_14 : decode cX12_enough 14 = .ok (.if_icmp .gt 37, 3) := by decide +kernel
theorem dX12_enough_17 : decode cX12_enough 17 = .ok (.lload_n 2, 1) := by decide +kernel
theorem dX12_enough_18 : decode cX12_enough 18 = .ok (.iload_n 1, 1) := by decide +kernel
theorem dX12_enough_19 : decode cX12_enough 19 = .ok (.iload 4, 2) := by decide +kernel
theorem dX12_enough_21 : decode cX12_enough 21 = .ok (.invokestatic 176, 3) := by decide +kernel
theorem dX12_enough_24 : decode cX12_enough 24 = .ok (.aload_n 0, 1) := by decide +kernel
theorem dX12_enough_25 : decode cX12_enough 25 = .ok (.getfield 19, 3) := by decide +kernel
theorem dX12_enough_28 : decode cX12_enough 28 = .ok (.iconst 1, 1) := by decide +kernel
theorem dX12_enough_29 : decode cX12_enough 29 = .ok (.isub, 1) := by decide +kernel
theorem dX12_enough_30 : decode cX12_enough 30 = .ok (.iload_n 1, 1) := by decide +kernel
theorem dX12_enough_31 : decode cX12_enough 31 = .ok (.isub, 1) := by decide +kernel
theorem dX12_enough_32 : decode cX12_enough 32 = .ok (.aload_n 0, 1) := by decide +kernel
theorem dX12_enough_33 : decode cX12_enough 33 = .ok (.getfield 23, 3) := by decide +kernel
theorem dX12_enough_36 : decode cX12_enough 36 = .ok (.iload 4, 2) := by decide +kernel
theorem dX12_enough_38 : decode cX12_enough 38 = .ok (.isub, 1) := by decide +kernel
theorem dX12_enough_39 : decode cX12_enough 39 = .ok (.invokestatic 176, 3) := by decide +kernel
theorem dX12_enough_42 : decode cX12_enough 42 = .ok (.lmul, 1) := by decide +kernel
theorem dX12_enough_43 : decode cX12_enough 43 = .ok (.ladd, 1) := by decide +kernel
theorem dX12_enough_44 : decode cX12_enough 44 = .ok (.lstore_n 2, 1) := by decide +kernel
theorem dX12_enough_45 : decode cX12_enough 45 = .ok (.iinc 4 1, 3) := by decide +kernel
theorem dX12_enough_48 : decode cX12_enough 48 = .ok (.goto (-40), 3) := by decide +kernel
theorem dX12_enough_51 : decode cX12_enough 51 = .ok (.lload_n 2, 1) := by decide +kernel
theorem dX12_enough_52 : decode cX12_enough 52 = .ok (.lreturn, 1) := by decide +kernel
theorem dX12_up_0 : decode cX12_up 0 = .ok (.aload_n 0, 1) := by decide +kernel
theorem dX12_up_1 : decode cX12_up 1 = .ok (.getfield 19, 3) := by decide +kernel
theorem dX12_up_4 : decode cX12_up 4 = .ok (.iload_n 1, 1) := by decide +kernel
theorem dX12_up_5 : decode cX12_up 5 = .ok (.isub, 1) := by decide +kernel
theorem dX12_up_6 : decode cX12_up 6 = .ok (.i2l, 1) := by decide +kernel
theorem dX12_up_7 : decode cX12_up 7 = .ok (.aload_n 0, 1) := by decide +kernel
theorem dX12_up_8 : decode cX12_up 8 = .ok (.iload_n 1, 1) := by decide +kernel
theorem dX12_up_9 : decode cX12_up 9 = .ok (.invokevirtual 273, 3) := by decide +kernel
theorem dX12_up_12 : decode cX12_up 12 = .ok (.lmul, 1) := by decide +kernel
theorem dX12_up_13 : decode cX12_up 13 = .ok (.lreturn, 1) := by decide +kernel
theorem dX12_down_0 : decode cX12_down 0 = .ok (.iload_n 1, 1) := by decide +kernel
theorem dX12_down_1 : decode cX12_down 1 = .ok (.i2l, 1) := by decide +kernel
theorem dX12_down_2 : decode cX12_down 2 = .ok (.aload_n 0, 1) := by decide +kernel
theorem dX12_down_3 : decode cX12_down 3 = .ok (.aload_n 0, 1) := by decide +kernel
theorem dX12_down_4 : decode cX12_down 4 = .ok (.getfield 19, 3) := by decide +kernel
theorem dX12_down_7 : decode cX12_down 7 = .ok (.iload_n 1, 1) := by decide +kernel
theorem dX12_down_8 : decode cX12_down 8 = .ok (.isub, 1) := by decide +kernel
theorem dX12_down_9 : decode cX12_down 9 = .ok (.invokevirtual 273, 3) := by decide +kernel
theorem dX12_down_12 : decode cX12_down 12 = .ok (.lmul, 1) := by decide +kernel
theorem dX12_down_13 : decode cX12_down 13 = .ok (.lreturn, 1) := by decide +kernel
theorem dX12_laysSteps_0 : decode cX12_laysSteps 0 = .ok (.aload_n 0, 1) := by decide +kernel
theorem dX12_laysSteps_1 : decode cX12_laysSteps 1 = .ok (.getfield 82, 3) := by decide +kernel
theorem dX12_laysSteps_4 : decode cX12_laysSteps 4 = .ok (.iconst 0, 1) := by decide +kernel
theorem dX12_laysSteps_5 : decode cX12_laysSteps 5 = .ok (.lconst 0, 1) := by decide +kernel
theorem dX12_laysSteps_6 : decode cX12_laysSteps 6 = .ok (.lastore, 1) := by decide +kernel
theorem dX12_laysSteps_7 : decode cX12_laysSteps 7 = .ok (.aload_n 0, 1) := by decide +kernel
theorem dX12_laysSteps_8 : decode cX12_laysSteps 8 = .ok (.getfield 85, 3) := by decide +kernel
theorem dX12_laysSteps_11 : decode cX12_laysSteps 11 = .ok (.iconst 0, 1) := by decide +kernel
theorem dX12_laysSteps_12 : decode cX12_laysSteps 12 = .ok (.lconst 1, 1) := by decide +kernel
theorem dX12_laysSteps_13 : decode cX12_laysSteps 13 = .ok (.lastore, 1) := by decide +kernel
theorem dX12_laysSteps_14 : decode cX12_laysSteps 14 = .ok (.aload_n 0, 1) := by decide +kernel
theorem dX12_laysSteps_15 : decode cX12_laysSteps 15 = .ok (.getfield 88, 3) := by decide +kernel
theorem dX12_laysSteps_18 : decode cX12_laysSteps 18 = .ok (.iconst 0, 1) := by decide +kernel
theorem dX12_laysSteps_19 : decode cX12_laysSteps 19 = .ok (.lconst 0, 1) := by decide +kernel
theorem dX12_laysSteps_20 : decode cX12_laysSteps 20 = .ok (.lastore, 1) := by decide +kernel
theorem dX12_laysSteps_21 : decode cX12_laysSteps 21 = .ok (.aload_n 0, 1) := by decide +kernel
theorem dX12_laysSteps_22 : decode cX12_laysSteps 22 = .ok (.getfield 91, 3) := by decide +kernel
theorem dX12_laysSteps_25 : decode cX12_laysSteps 25 = .ok (.iconst 0, 1) := by decide +kernel
theorem dX12_laysSteps_26 : decode cX12_laysSteps 26 = .ok (.lconst 1, 1) := by decide +kernel
theorem dX12_laysSteps_27 : decode cX12_laysSteps 27 = .ok (.lastore, 1) := by decide +kernel
theorem dX12_laysSteps_28 : decode cX12_laysSteps 28 = .ok (.iconst 1, 1) := by decide +kernel
theorem dX12_laysSteps_29 : decode cX12_laysSteps 29 = .ok (.istore_n 2, 1) := by decide +kernel
theorem dX12_laysSteps_30 : decode cX12_laysSteps 30 = .ok (.iload_n 2, 1) := by decide +kernel
theorem dX12_laysSteps_31 : decode cX12_laysSteps 31 = .ok (.aload_n 0, 1) := by decide +kernel
theorem dX12_laysSteps_32 : decode cX12_laysSteps 32 = .ok (.getfield 19, 3) := by decide +kernel
theorem dX12_laysSteps_35 : decode cX12_laysSteps 35 = .ok (.if_icmp .ge 22, 3) := by decide +kernel
theorem dX12_laysSteps_38 : decode cX12_laysSteps 38 = .ok (.aload_n 0, 1) := by decide +kernel
theorem dX12_laysSteps_39 : decode cX12_laysSteps 39 = .ok (.getfield 252, 3) := by decide +kernel
theorem dX12_laysSteps_42 : decode cX12_laysSteps 42 = .ok (.ifCond .ne 15, 3) := by decide +kernel
theorem dX12_laysSteps_45 : decode cX12_laysSteps 45 = .ok (.aload_n 0, 1) := by decide +kernel
theorem dX12_laysSteps_46 : decode cX12_laysSteps 46 = .ok (.iload_n 2, 1) := by decide +kernel
theorem dX12_laysSteps_47 : decode cX12_laysSteps 47 = .ok (.iload_n 1, 1) := by decide +kernel
theorem dX12_laysSteps_48 : decode cX12_laysSteps 48 = .ok (.invokevirtual 276, 3) := by decide +kernel
theorem dX12_laysSteps_51 : decode cX12_laysSteps 51 = .ok (.iinc 2 1, 3) := by decide +kernel
theorem dX12_laysSteps_54 : decode cX12_laysSteps 54 = .ok (.goto (-24), 3) := by decide +kernel
theorem dX12_laysSteps_57 : decode cX12_laysSteps 57 = .ok (.return_, 1) := by decide +kernel
theorem dX12_laysStep_0 : decode cX12_laysStep 0 = .ok (.aload_n 0, 1) := by decide +kernel
theorem dX12_laysStep_1 : decode cX12_laysStep 1 = .ok (.iload_n 1, 1) := by decide +kernel
theorem dX12_laysStep_2 : decode cX12_laysStep 2 = .ok (.invokevirtual 280, 3) := by decide +kernel
theorem dX12_laysStep_5 : decode cX12_laysStep 5 = .ok (.lstore_n 3, 1) := by decide +kernel
theorem dX12_laysStep_6 : decode cX12_laysStep 6 = .ok (.aload_n 0, 1) := by decide +kernel
theorem dX12_laysStep_7 : decode cX12_laysStep 7 = .ok (.iload_n 1, 1) := by decide +kernel
theorem dX12_laysStep_8 : decode cX12_laysStep 8 = .ok (.invokevirtual 283, 3) := by decide +kernel
theorem dX12_laysStep_11 : decode cX12_laysStep 11 = .ok (.lstore 5, 2) := by decide +kernel
theorem dX12_laysStep_13 : decode cX12_laysStep 13 = .ok (.aload_n 0, 1) := by decide +kernel
theorem dX12_laysStep_14 : decode cX12_laysStep 14 = .ok (.getfield 82, 3) := by decide +kernel
theorem dX12_laysStep_17 : decode cX12_laysStep 17 = .ok (.iload_n 1, 1) := by decide +kernel
theorem dX12_laysStep_18 : decode cX12_laysStep 18 = .ok (.lconst 0, 1) := by decide +kernel
theorem dX12_laysStep_19 : decode cX12_laysStep 19 = .ok (.lastore, 1) := by decide +kernel
theorem dX12_laysStep_20 : decode cX12_laysStep 20 = .ok (.aload_n 0, 1) := by decide +kernel
theorem dX12_laysStep_21 : decode cX12_laysStep 21 = .ok (.getfield 85, 3) := by decide +kernel
theorem dX12_laysStep_24 : decode cX12_laysStep 24 = .ok (.iload_n 1, 1) := by decide +kernel
theorem dX12_laysStep_25 : decode cX12_laysStep 25 = .ok (.lconst 1, 1) := by decide +kernel
theorem dX12_laysStep_26 : decode cX12_laysStep 26 = .ok (.lastore, 1) := by decide +kernel
theorem dX12_laysStep_27 : decode cX12_laysStep 27 = .ok (.aload_n 0, 1) := by decide +kernel
theorem dX12_laysStep_28 : decode cX12_laysStep 28 = .ok (.getfield 88, 3) := by decide +kernel
theorem dX12_laysStep_31 : decode cX12_laysStep 31 = .ok (.iload_n 1, 1) := by decide +kernel
theorem dX12_laysStep_32 : decode cX12_laysStep 32 = .ok (.lconst 0, 1) := by decide +kernel
theorem dX12_laysStep_33 : decode cX12_laysStep 33 = .ok (.lastore, 1) := by decide +kernel
theorem dX12_laysStep_34 : decode cX12_laysStep 34 = .ok (.aload_n 0, 1) := by decide +kernel
theorem dX12_laysStep_35 : decode cX12_laysStep 35 = .ok (.getfield 91, 3) := by decide +kernel
theorem dX12_laysStep_38 : decode cX12_laysStep 38 = .ok (.iload_n 1, 1) := by decide +kernel
theorem dX12_laysStep_39 : decode cX12_laysStep 39 = .ok (.lconst 1, 1) := by decide +kernel
theorem dX12_laysStep_40 : decode cX12_laysStep 40 = .ok (.lastore, 1) := by decide +kernel
theorem dX12_laysStep_41 : decode cX12_laysStep 41 = .ok (.lload_n 3, 1) := by decide +kernel
theorem dX12_laysStep_42 : decode cX12_laysStep 42 = .ok (.lconst 0, 1) := by decide +kernel
theorem dX12_laysStep_43 : decode cX12_laysStep 43 = .ok (.lcmp, 1) := by decide +kernel
theorem dX12_laysStep_44 : decode cX12_laysStep 44 = .ok (.ifCond .ne 11, 3) := by decide +kernel
theorem dX12_laysStep_47 : decode cX12_laysStep 47 = .ok (.lload 5, 2) := by decide +kernel
theorem dX12_laysStep_49 : decode cX12_laysStep 49 = .ok (.lconst 0, 1) := by decide +kernel
theorem dX12_laysStep_50 : decode cX12_laysStep 50 = .ok (.lcmp, 1) := by decide +kernel
theorem dX12_laysStep_51 : decode cX12_laysStep 51 = .ok (.ifCond .ne 4, 3) := by decide +kernel
theorem dX12_laysStep_54 : decode cX12_laysStep 54 = .ok (.return_, 1) := by decide +kernel
theorem dX12_laysStep_55 : decode cX12_laysStep 55 = .ok (.aload_n 0, 1) := by decide +kernel
theorem dX12_laysStep_56 : decode cX12_laysStep 56 = .ok (.lload 5, 2) := by decide +kernel
theorem dX12_laysStep_58 : decode cX12_laysStep 58 = .ok (.lconst 1, 1) := by decide +kernel
theorem dX12_laysStep_59 : decode cX12_laysStep 59 = .ok (.aload_n 0, 1) := by decide +kernel
theorem dX12_laysStep_60 : decode cX12_laysStep 60 = .ok (.getfield 82, 3) := by decide +kernel
theorem dX12_laysStep_63 : decode cX12_laysStep 63 = .ok (.iload_n 1, 1) := by decide +kernel
theorem dX12_laysStep_64 : decode cX12_laysStep 64 = .ok (.iconst 1, 1) := by decide +kernel
theorem dX12_laysStep_65 : decode cX12_laysStep 65 = .ok (.isub, 1) := by decide +kernel
theorem dX12_laysStep_66 : decode cX12_laysStep 66 = .ok (.laload, 1) := by decide +kernel
theorem dX12_laysStep_67 : decode cX12_laysStep 67 = .ok (.aload_n 0, 1) := by decide +kernel
theorem dX12_laysStep_68 : decode cX12_laysStep 68 = .ok (.getfield 85, 3) := by decide +kernel
theorem dX12_laysStep_71 : decode cX12_laysStep 71 = .ok (.iload_n 1, 1) := by decide +kernel
theorem dX12_laysStep_72 : decode cX12_laysStep 72 = .ok (.iconst 1, 1) := by decide +kernel
theorem dX12_laysStep_73 : decode cX12_laysStep 73 = .ok (.isub, 1) := by decide +kernel
theorem dX12_laysStep_74 : decode cX12_laysStep 74 = .ok (.laload, 1) := by decide +kernel
theorem dX12_laysStep_75 : decode cX12_laysStep 75 = .ok (.invokevirtual 286, 3) := by decide +kernel
theorem dX12_laysStep_78 : decode cX12_laysStep 78 = .ok (.aload_n 0, 1) := by decide +kernel
theorem dX12_laysStep_79 : decode cX12_laysStep 79 = .ok (.lload_n 3, 1) := by decide +kernel
theorem dX12_laysStep_80 : decode cX12_laysStep 80 = .ok (.lload 5, 2) := by decide +kernel
theorem dX12_laysStep_82 : decode cX12_laysStep 82 = .ok (.ladd, 1) := by decide +kernel
theorem dX12_laysStep_83 : decode cX12_laysStep 83 = .ok (.lconst 1, 1) := by decide +kernel
theorem dX12_laysStep_84 : decode cX12_laysStep 84 = .ok (.aload_n 0, 1) := by decide +kernel
theorem dX12_laysStep_85 : decode cX12_laysStep 85 = .ok (.getfield 256, 3) := by decide +kernel
theorem dX12_laysStep_88 : decode cX12_laysStep 88 = .ok (.aload_n 0, 1) := by decide +kernel
theorem dX12_laysStep_89 : decode cX12_laysStep 89 = .ok (.getfield 260, 3) := by decide +kernel
theorem dX12_laysStep_92 : decode cX12_laysStep 92 = .ok (.invokevirtual 290, 3) := by decide +kernel
theorem dX12_laysStep_95 : decode cX12_laysStep 95 = .ok (.aload_n 0, 1) := by decide +kernel
theorem dX12_laysStep_96 : decode cX12_laysStep 96 = .ok (.getfield 256, 3) := by decide +kernel
theorem dX12_laysStep_99 : decode cX12_laysStep 99 = .ok (.lstore 7, 2) := by decide +kernel
theorem dX12_laysStep_101 : decode cX12_laysStep 101 = .ok (.aload_n 0, 1) := by decide +kernel
theorem dX12_laysStep_102 : decode cX12_laysStep 102 = .ok (.getfield 260, 3) := by decide +kernel
theorem dX12_laysStep_105 : decode cX12_laysStep 105 = .ok (.lstore 9, 2) := by decide +kernel
theorem dX12_laysStep_107 : decode cX12_laysStep 107 = .ok (.lload 7, 2) := by decide +kernel
theorem dX12_laysStep_109 : decode cX12_laysStep 109 = .ok (.lconst 0, 1) := by decide +kernel
theorem dX12_laysStep_110 : decode cX12_laysStep 110 = .ok (.lcmp, 1) := by decide +kernel
theorem dX12_laysStep_111 : decode cX12_laysStep 111 = .ok (.ifCond .eq 10, 3) := by decide +kernel
theorem dX12_laysStep_114 : decode cX12_laysStep 114 = .ok (.aload_n 0, 1) := by decide +kernel
theorem dX12_laysStep_115 : decode cX12_laysStep 115 = .ok (.getfield 252, 3) := by decide +kernel
theorem dX12_laysStep_118 : decode cX12_laysStep 118 = .ok (.ifCond .eq 4, 3) := by decide +kernel
theorem dX12_laysStep_121 : decode cX12_laysStep 121 = .ok (.return_, 1) := by decide +kernel
theorem dX12_laysStep_122 : decode cX12_laysStep 122 = .ok (.aload_n 0, 1) := by decide +kernel
theorem dX12_laysStep_123 : decode cX12_laysStep 123 = .ok (.lload_n 3, 1) := by decide +kernel
theorem dX12_laysStep_124 : decode cX12_laysStep 124 = .ok (.lconst 1, 1) := by decide +kernel
theorem dX12_laysStep_125 : decode cX12_laysStep 125 = .ok (.lload 7, 2) := by decide +kernel
theorem dX12_laysStep_127 : decode cX12_laysStep 127 = .ok (.lload 9, 2) := by decide +kernel
theorem dX12_laysStep_129 : decode cX12_laysStep 129 = .ok (.invokevirtual 293, 3) := by decide +kernel
theorem dX12_laysStep_132 : decode cX12_laysStep 132 = .ok (.aload_n 0, 1) := by decide +kernel
theorem dX12_laysStep_133 : decode cX12_laysStep 133 = .ok (.getfield 82, 3) := by decide +kernel
theorem dX12_laysStep_136 : decode cX12_laysStep 136 = .ok (.iload_n 1, 1) := by decide +kernel
theorem dX12_laysStep_137 : decode cX12_laysStep 137 = .ok (.aload_n 0, 1) := by decide +kernel
theorem dX12_laysStep_138 : decode cX12_laysStep 138 = .ok (.getfield 256, 3) := by decide +kernel
theorem dX12_laysStep_141 : decode cX12_laysStep 141 = .ok (.lastore, 1) := by decide +kernel
theorem dX12_laysStep_142 : decode cX12_laysStep 142 = .ok (.aload_n 0, 1) := by decide +kernel
theorem dX12_laysStep_143 : decode cX12_laysStep 143 = .ok (.getfield 85, 3) := by decide +kernel
theorem dX12_laysStep_146 : decode cX12_laysStep 146 = .ok (.iload_n 1, 1) := by decide +kernel
theorem dX12_laysStep_147 : decode cX12_laysStep 147 = .ok (.aload_n 0, 1) := by decide +kernel
theorem dX12_laysStep_148 : decode cX12_laysStep 148 = .ok (.getfield 260, 3) := by decide +kernel
theorem dX12_laysStep_151 : decode cX12_laysStep 151 = .ok (.lastore, 1) := by decide +kernel
theorem dX12_laysStep_152 : decode cX12_laysStep 152 = .ok (.aload_n 0, 1) := by decide +kernel
theorem dX12_laysStep_153 : decode cX12_laysStep 153 = .ok (.lload 5, 2) := by decide +kernel
theorem dX12_laysStep_155 : decode cX12_laysStep 155 = .ok (.lconst 1, 1) := by decide +kernel
theorem dX12_laysStep_156 : decode cX12_laysStep 156 = .ok (.aload_n 0, 1) := by decide +kernel
theorem dX12_laysStep_157 : decode cX12_laysStep 157 = .ok (.getfield 88, 3) := by decide +kernel
theorem dX12_laysStep_160 : decode cX12_laysStep 160 = .ok (.iload_n 1, 1) := by decide +kernel
theorem dX12_laysStep_161 : decode cX12_laysStep 161 = .ok (.iconst 1, 1) := by decide +kernel
theorem dX12_laysStep_162 : decode cX12_laysStep 162 = .ok (.isub, 1) := by decide +kernel
theorem dX12_laysStep_163 : decode cX12_laysStep 163 = .ok (.laload, 1) := by decide +kernel
theorem dX12_laysStep_164 : decode cX12_laysStep 164 = .ok (.aload_n 0, 1) := by decide +kernel
theorem dX12_laysStep_165 : decode cX12_laysStep 165 = .ok (.getfield 91, 3) := by decide +kernel
theorem dX12_laysStep_168 : decode cX12_laysStep 168 = .ok (.iload_n 1, 1) := by decide +kernel
theorem dX12_laysStep_169 : decode cX12_laysStep 169 = .ok (.iconst 1, 1) := by decide +kernel
theorem dX12_laysStep_170 : decode cX12_laysStep 170 = .ok (.isub, 1) := by decide +kernel
theorem dX12_laysStep_171 : decode cX12_laysStep 171 = .ok (.laload, 1) := by decide +kernel
theorem dX12_laysStep_172 : decode cX12_laysStep 172 = .ok (.invokevirtual 286, 3) := by decide +kernel
theorem dX12_laysStep_175 : decode cX12_laysStep 175 = .ok (.iload_n 2, 1) := by decide +kernel
theorem dX12_laysStep_176 : decode cX12_laysStep 176 = .ok (.ifCond .eq 26, 3) := by decide +kernel
theorem dX12_laysStep_179 : decode cX12_laysStep 179 = .ok (.aload_n 0, 1) := by decide +kernel
theorem dX12_laysStep_180 : decode cX12_laysStep 180 = .ok (.aload_n 0, 1) := by decide +kernel
theorem dX12_laysStep_181 : decode cX12_laysStep 181 = .ok (.getfield 19, 3) := by decide +kernel
theorem dX12_laysStep_184 : decode cX12_laysStep 184 = .ok (.i2l, 1) := by decide +kernel
theorem dX12_laysStep_185 : decode cX12_laysStep 185 = .ok (.aload_n 0, 1) := by decide +kernel
theorem dX12_laysStep_186 : decode cX12_laysStep 186 = .ok (.invokevirtual 180, 3) := by decide +kernel
theorem dX12_laysStep_189 : decode cX12_laysStep 189 = .ok (.lmul, 1) := by decide +kernel
theorem dX12_laysStep_190 : decode cX12_laysStep 190 = .ok (.lconst 1, 1) := by decide +kernel
theorem dX12_laysStep_191 : decode cX12_laysStep 191 = .ok (.aload_n 0, 1) := by decide +kernel
theorem dX12_laysStep_192 : decode cX12_laysStep 192 = .ok (.getfield 256, 3) := by decide +kernel
theorem dX12_laysStep_195 : decode cX12_laysStep 195 = .ok (.aload_n 0, 1) := by decide +kernel
theorem dX12_laysStep_196 : decode cX12_laysStep 196 = .ok (.getfield 260, 3) := by decide +kernel
theorem dX12_laysStep_199 : decode cX12_laysStep 199 = .ok (.invokevirtual 296, 3) := by decide +kernel
theorem dX12_laysStep_202 : decode cX12_laysStep 202 = .ok (.aload_n 0, 1) := by decide +kernel
theorem dX12_laysStep_203 : decode cX12_laysStep 203 = .ok (.aload_n 0, 1) := by decide +kernel
theorem dX12_laysStep_204 : decode cX12_laysStep 204 = .ok (.getfield 256, 3) := by decide +kernel
theorem dX12_laysStep_207 : decode cX12_laysStep 207 = .ok (.aload_n 0, 1) := by decide +kernel
theorem dX12_laysStep_208 : decode cX12_laysStep 208 = .ok (.getfield 260, 3) := by decide +kernel
theorem dX12_laysStep_211 : decode cX12_laysStep 211 = .ok (.lload 7, 2) := by decide +kernel
theorem dX12_laysStep_213 : decode cX12_laysStep 213 = .ok (.lload 9, 2) := by decide +kernel
theorem dX12_laysStep_215 : decode cX12_laysStep 215 = .ok (.invokevirtual 293, 3) := by decide +kernel
theorem dX12_laysStep_218 : decode cX12_laysStep 218 = .ok (.aload_n 0, 1) := by decide +kernel
theorem dX12_laysStep_219 : decode cX12_laysStep 219 = .ok (.getfield 88, 3) := by decide +kernel
theorem dX12_laysStep_222 : decode cX12_laysStep 222 = .ok (.iload_n 1, 1) := by decide +kernel
theorem dX12_laysStep_223 : decode cX12_laysStep 223 = .ok (.aload_n 0, 1) := by decide +kernel
theorem dX12_laysStep_224 : decode cX12_laysStep 224 = .ok (.getfield 256, 3) := by decide +kernel
theorem dX12_laysStep_227 : decode cX12_laysStep 227 = .ok (.lastore, 1) := by decide +kernel
theorem dX12_laysStep_228 : decode cX12_laysStep 228 = .ok (.aload_n 0, 1) := by decide +kernel
theorem dX12_laysStep_229 : decode cX12_laysStep 229 = .ok (.getfield 91, 3) := by decide +kernel
theorem dX12_laysStep_232 : decode cX12_laysStep 232 = .ok (.iload_n 1, 1) := by decide +kernel
theorem dX12_laysStep_233 : decode cX12_laysStep 233 = .ok (.aload_n 0, 1) := by decide +kernel
theorem dX12_laysStep_234 : decode cX12_laysStep 234 = .ok (.getfield 260, 3) := by decide +kernel
theorem dX12_laysStep_237 : decode cX12_laysStep 237 = .ok (.lastore, 1) := by decide +kernel
theorem dX12_laysStep_238 : decode cX12_laysStep 238 = .ok (.return_, 1) := by decide +kernel
theorem dX12_goesDown_0 : decode cX12_goesDown 0 = .ok (.aload_n 0, 1) := by decide +kernel
theorem dX12_goesDown_1 : decode cX12_goesDown 1 = .ok (.lload_n 2, 1) := by decide +kernel
theorem dX12_goesDown_2 : decode cX12_goesDown 2 = .ok (.putfield 256, 3) := by decide +kernel
theorem dX12_goesDown_5 : decode cX12_goesDown 5 = .ok (.aload_n 0, 1) := by decide +kernel
theorem dX12_goesDown_6 : decode cX12_goesDown 6 = .ok (.lconst 1, 1) := by decide +kernel
theorem dX12_goesDown_7 : decode cX12_goesDown 7 = .ok (.putfield 260, 3) := by decide +kernel
theorem dX12_goesDown_10 : decode cX12_goesDown 10 = .ok (.aload_n 0, 1) := by decide +kernel
theorem dX12_goesDown_11 : decode cX12_goesDown 11 = .ok (.getfield 19, 3) := by decide +kernel
theorem dX12_goesDown_14 : decode cX12_goesDown 14 = .ok (.iconst 1, 1) := by decide +kernel
theorem dX12_goesDown_15 : decode cX12_goesDown 15 = .ok (.isub, 1) := by decide +kernel
theorem dX12_goesDown_16 : decode cX12_goesDown 16 = .ok (.istore 4, 2) := by decide +kernel
theorem dX12_goesDown_18 : decode cX12_goesDown 18 = .ok (.iload 4, 2) := by decide +kernel
theorem dX12_goesDown_20 : decode cX12_goesDown 20 = .ok (.iload_n 1, 1) := by decide +kernel
theorem dX12_goesDown_21 : decode cX12_goesDown 21 = .ok (.if_icmp .lt 68, 3) := by decide +kernel
theorem dX12_goesDown_24 : decode cX12_goesDown 24 = .ok (.aload_n 0, 1) := by decide +kernel
theorem dX12_goesDown_25 : decode cX12_goesDown 25 = .ok (.getfield 252, 3) := by decide +kernel
theorem dX12_goesDown_28 : decode cX12_goesDown 28 = .ok (.ifCond .ne 61, 3) := by decide +kernel
theorem dX12_goesDown_31 : decode cX12_goesDown 31 = .ok (.aload_n 0, 1) := by decide +kernel
theorem dX12_goesDown_32 : decode cX12_goesDown 32 = .ok (.aload_n 0, 1) := by decide +kernel
theorem dX12_goesDown_33 : decode cX12_goesDown 33 = .ok (.getfield 82, 3) := by decide +kernel
theorem dX12_goesDown_36 : decode cX12_goesDown 36 = .ok (.iload 4, 2) := by decide +kernel
theorem dX12_goesDown_38 : decode cX12_goesDown 38 = .ok (.laload, 1) := by decide +kernel
theorem dX12_goesDown_39 : decode cX12_goesDown 39 = .ok (.aload_n 0, 1) := by decide +kernel
theorem dX12_goesDown_40 : decode cX12_goesDown 40 = .ok (.getfield 85, 3) := by decide +kernel
theorem dX12_goesDown_43 : decode cX12_goesDown 43 = .ok (.iload 4, 2) := by decide +kernel
theorem dX12_goesDown_45 : decode cX12_goesDown 45 = .ok (.laload, 1) := by decide +kernel
theorem dX12_goesDown_46 : decode cX12_goesDown 46 = .ok (.aload_n 0, 1) := by decide +kernel
theorem dX12_goesDown_47 : decode cX12_goesDown 47 = .ok (.getfield 256, 3) := by decide +kernel
theorem dX12_goesDown_50 : decode cX12_goesDown 50 = .ok (.aload_n 0, 1) := by decide +kernel
theorem dX12_goesDown_51 : decode cX12_goesDown 51 = .ok (.getfield 260, 3) := by decide +kernel
theorem dX12_goesDown_54 : decode cX12_goesDown 54 = .ok (.invokevirtual 286, 3) := by decide +kernel
theorem dX12_goesDown_57 : decode cX12_goesDown 57 = .ok (.aload_n 0, 1) := by decide +kernel
theorem dX12_goesDown_58 : decode cX12_goesDown 58 = .ok (.aload_n 0, 1) := by decide +kernel
theorem dX12_goesDown_59 : decode cX12_goesDown 59 = .ok (.getfield 256, 3) := by decide +kernel
theorem dX12_goesDown_62 : decode cX12_goesDown 62 = .ok (.aload_n 0, 1) := by decide +kernel
theorem dX12_goesDown_63 : decode cX12_goesDown 63 = .ok (.getfield 260, 3) := by decide +kernel
theorem dX12_goesDown_66 : decode cX12_goesDown 66 = .ok (.aload_n 0, 1) := by decide +kernel
theorem dX12_goesDown_67 : decode cX12_goesDown 67 = .ok (.getfield 88, 3) := by decide +kernel
theorem dX12_goesDown_70 : decode cX12_goesDown 70 = .ok (.iload 4, 2) := by decide +kernel
theorem dX12_goesDown_72 : decode cX12_goesDown 72 = .ok (.laload, 1) := by decide +kernel
theorem dX12_goesDown_73 : decode cX12_goesDown 73 = .ok (.aload_n 0, 1) := by decide +kernel
theorem dX12_goesDown_74 : decode cX12_goesDown 74 = .ok (.getfield 91, 3) := by decide +kernel
theorem dX12_goesDown_77 : decode cX12_goesDown 77 = .ok (.iload 4, 2) := by decide +kernel
theorem dX12_goesDown_79 : decode cX12_goesDown 79 = .ok (.laload, 1) := by decide +kernel
theorem dX12_goesDown_80 : decode cX12_goesDown 80 = .ok (.invokevirtual 296, 3) := by decide +kernel
theorem dX12_goesDown_83 : decode cX12_goesDown 83 = .ok (.iinc 4 (-1), 3) := by decide +kernel
theorem dX12_goesDown_86 : decode cX12_goesDown 86 = .ok (.goto (-68), 3) := by decide +kernel
theorem dX12_goesDown_89 : decode cX12_goesDown 89 = .ok (.return_, 1) := by decide +kernel
theorem dX12_mayStay_0 : decode cX12_mayStay 0 = .ok (.iload_n 1, 1) := by decide +kernel
theorem dX12_mayStay_1 : decode cX12_mayStay 1 = .ok (.ifCond .eq 11, 3) := by decide +kernel
theorem dX12_mayStay_4 : decode cX12_mayStay 4 = .ok (.iload_n 1, 1) := by decide +kernel
theorem dX12_mayStay_5 : decode cX12_mayStay 5 = .ok (.aload_n 0, 1) := by decide +kernel
theorem dX12_mayStay_6 : decode cX12_mayStay 6 = .ok (.getfield 19, 3) := by decide +kernel
theorem dX12_mayStay_9 : decode cX12_mayStay 9 = .ok (.if_icmp .ne 5, 3) := by decide +kernel
theorem dX12_mayStay_12 : decode cX12_mayStay 12 = .ok (.iconst 0, 1) := by decide +kernel
theorem dX12_mayStay_13 : decode cX12_mayStay 13 = .ok (.ireturn, 1) := by decide +kernel
theorem dX12_mayStay_14 : decode cX12_mayStay 14 = .ok (.iload_n 1, 1) := by decide +kernel
theorem dX12_mayStay_15 : decode cX12_mayStay 15 = .ok (.istore_n 2, 1) := by decide +kernel
theorem dX12_mayStay_16 : decode cX12_mayStay 16 = .ok (.iload_n 2, 1) := by decide +kernel
theorem dX12_mayStay_17 : decode cX12_mayStay 17 = .ok (.ifCond .le 19, 3) := by decide +kernel
theorem dX12_mayStay_20 : decode cX12_mayStay 20 = .ok (.aload_n 0, 1) := by decide +kernel
theorem dX12_mayStay_21 : decode cX12_mayStay 21 = .ok (.iload_n 2, 1) := by decide +kernel
theorem dX12_mayStay_22 : decode cX12_mayStay 22 = .ok (.invokevirtual 283, 3) := by decide +kernel
theorem dX12_mayStay_25 : decode cX12_mayStay 25 = .ok (.lconst 0, 1) := by decide +kernel
theorem dX12_mayStay_26 : decode cX12_mayStay 26 = .ok (.lcmp, 1) := by decide +kernel
theorem dX12_mayStay_27 : decode cX12_mayStay 27 = .ok (.ifCond .le 9, 3) := by decide +kernel
theorem dX12_mayStay_30 : decode cX12_mayStay 30 = .ok (.iinc 2 (-1), 3) := by decide +kernel
theorem dX12_mayStay_33 : decode cX12_mayStay 33 = .ok (.goto (-17), 3) := by decide +kernel
theorem dX12_mayStay_36 : decode cX12_mayStay 36 = .ok (.iload_n 1, 1) := by decide +kernel
theorem dX12_mayStay_37 : decode cX12_mayStay 37 = .ok (.istore_n 3, 1) := by decide +kernel
theorem dX12_mayStay_38 : decode cX12_mayStay 38 = .ok (.iload_n 3, 1) := by decide +kernel
theorem dX12_mayStay_39 : decode cX12_mayStay 39 = .ok (.aload_n 0, 1) := by decide +kernel
theorem dX12_mayStay_40 : decode cX12_mayStay 40 = .ok (.getfield 19, 3) := by decide +kernel
theorem dX12_mayStay_43 : decode cX12_mayStay 43 = .ok (.if_icmp .ge 19, 3) := by decide +kernel
theorem dX12_mayStay_46 : decode cX12_mayStay 46 = .ok (.aload_n 0, 1) := by decide +kernel
theorem dX12_mayStay_47 : decode cX12_mayStay 47 = .ok (.iload_n 3, 1) := by decide +kernel
theorem dX12_mayStay_48 : decode cX12_mayStay 48 = .ok (.invokevirtual 280, 3) := by decide +kernel
theorem dX12_mayStay_51 : decode cX12_mayStay 51 = .ok (.lconst 0, 1) := by decide +kernel
theorem dX12_mayStay_52 : decode cX12_mayStay 52 = .ok (.lcmp, 1) := by decide +kernel
theorem dX12_mayStay_53 : decode cX12_mayStay 53 = .ok (.ifCond .le 9, 3) := by decide +kernel
theorem dX12_mayStay_56 : decode cX12_mayStay 56 = .ok (.iinc 3 1, 3) := by decide +kernel
theorem dX12_mayStay_59 : decode cX12_mayStay 59 = .ok (.goto (-21), 3) := by decide +kernel
theorem dX12_mayStay_62 : decode cX12_mayStay 62 = .ok (.iload_n 2, 1) := by decide +kernel
theorem dX12_mayStay_63 : decode cX12_mayStay 63 = .ok (.iconst 1, 1) := by decide +kernel
theorem dX12_mayStay_64 : decode cX12_mayStay 64 = .ok (.if_icmp .le 7, 3) := by decide +kernel
theorem dX12_mayStay_67 : decode cX12_mayStay 67 = .ok (.iload_n 2, 1) := by decide +kernel
theorem dX12_mayStay_68 : decode cX12_mayStay 68 = .ok (.goto 4, 3) := by decide +kernel
theorem dX12_mayStay_71 : decode cX12_mayStay 71 = .ok (.iconst 1, 1) := by decide +kernel
theorem dX12_mayStay_72 : decode cX12_mayStay 72 = .ok (.istore 4, 2) := by decide +kernel
theorem dX12_mayStay_74 : decode cX12_mayStay 74 = .ok (.iload 4, 2) := by decide +kernel
theorem dX12_mayStay_76 : decode cX12_mayStay 76 = .ok (.iload_n 3, 1) := by decide +kernel
theorem dX12_mayStay_77 : decode cX12_mayStay 77 = .ok (.if_icmp .gt 42, 3) := by decide +kernel
theorem dX12_mayStay_80 : decode cX12_mayStay 80 = .ok (.iload 4, 2) := by decide +kernel
theorem dX12_mayStay_82 : decode cX12_mayStay 82 = .ok (.aload_n 0, 1) := by decide +kernel
theorem dX12_mayStay_83 : decode cX12_mayStay 83 = .ok (.getfield 19, 3) := by decide +kernel
theorem dX12_mayStay_86 : decode cX12_mayStay 86 = .ok (.if_icmp .ge 33, 3) := by decide +kernel
theorem dX12_mayStay_89 : decode cX12_mayStay 89 = .ok (.aload_n 0, 1) := by decide +kernel
theorem dX12_mayStay_90 : decode cX12_mayStay 90 = .ok (.iload 4, 2) := by decide +kernel
theorem dX12_mayStay_92 : decode cX12_mayStay 92 = .ok (.invokevirtual 280, 3) := by decide +kernel
theorem dX12_mayStay_95 : decode cX12_mayStay 95 = .ok (.lconst 0, 1) := by decide +kernel
theorem dX12_mayStay_96 : decode cX12_mayStay 96 = .ok (.lcmp, 1) := by decide +kernel
theorem dX12_mayStay_97 : decode cX12_mayStay 97 = .ok (.ifCond .ne 16, 3) := by decide +kernel
theorem dX12_mayStay_100 : decode cX12_mayStay 100 = .ok (.aload_n 0, 1) := by decide +kernel
theorem dX12_mayStay_101 : decode cX12_mayStay 101 = .ok (.iload 4, 2) := by decide +kernel
theorem dX12_mayStay_103 : decode cX12_mayStay 103 = .ok (.invokevirtual 283, 3) := by decide +kernel
theorem dX12_mayStay_106 : decode cX12_mayStay 106 = .ok (.lconst 0, 1) := by decide +kernel
theorem dX12_mayStay_107 : decode cX12_mayStay 107 = .ok (.lcmp, 1) := by decide +kernel
theorem dX12_mayStay_108 : decode cX12_mayStay 108 = .ok (.ifCond .ne 5, 3) := by decide +kernel
theorem dX12_mayStay_111 : decode cX12_mayStay 111 = .ok (.iconst 1, 1) := by decide +kernel
theorem dX12_mayStay_112 : decode cX12_mayStay 112 = .ok (.ireturn, 1) := by decide +kernel
theorem dX12_mayStay_113 : decode cX12_mayStay 113 = .ok (.iinc 4 1, 3) := by decide +kernel
theorem dX12_mayStay_116 : decode cX12_mayStay 116 = .ok (.goto (-42), 3) := by decide +kernel
theorem dX12_mayStay_119 : decode cX12_mayStay 119 = .ok (.iconst 0, 1) := by decide +kernel
theorem dX12_mayStay_120 : decode cX12_mayStay 120 = .ok (.ireturn, 1) := by decide +kernel
theorem dX12_chain_0 : decode cX12_chain 0 = .ok (.aload_n 0, 1) := by decide +kernel
theorem dX12_chain_1 : decode cX12_chain 1 = .ok (.iconst 0, 1) := by decide +kernel
theorem dX12_chain_2 : decode cX12_chain 2 = .ok (.putfield 97, 3) := by decide +kernel
theorem dX12_chain_5 : decode cX12_chain 5 = .ok (.iload_n 1, 1) := by decide +kernel
theorem dX12_chain_6 : decode cX12_chain 6 = .ok (.iconst 0, 1) := by decide +kernel
theorem dX12_chain_7 : decode cX12_chain 7 = .ok (.aload_n 0, 1) := by decide +kernel
theorem dX12_chain_8 : decode cX12_chain 8 = .ok (.getfield 19, 3) := by decide +kernel
theorem dX12_chain_11 : decode cX12_chain 11 = .ok (.invokestatic 116, 3) := by decide +kernel
theorem dX12_chain_14 : decode cX12_chain 14 = .ok (.ifCond .eq 25, 3) := by decide +kernel
theorem dX12_chain_17 : decode cX12_chain 17 = .ok (.iload_n 2, 1) := by decide +kernel
theorem dX12_chain_18 : decode cX12_chain 18 = .ok (.iconst 0, 1) := by decide +kernel
theorem dX12_chain_19 : decode cX12_chain 19 = .ok (.iconst 3, 1) := by decide +kernel
theorem dX12_chain_20 : decode cX12_chain 20 = .ok (.invokestatic 116, 3) := by decide +kernel
theorem dX12_chain_23 : decode cX12_chain 23 = .ok (.ifCond .eq 16, 3) := by decide +kernel
theorem dX12_chain_26 : decode cX12_chain 26 = .ok (.iload_n 2, 1) := by decide +kernel
theorem dX12_chain_27 : decode cX12_chain 27 = .ok (.iconst 1, 1) := by decide +kernel
theorem dX12_chain_28 : decode cX12_chain 28 = .ok (.if_icmp .le 15, 3) := by decide +kernel
theorem dX12_chain_31 : decode cX12_chain 31 = .ok (.aload_n 0, 1) := by decide +kernel
theorem dX12_chain_32 : decode cX12_chain 32 = .ok (.iload_n 1, 1) := by decide +kernel
theorem dX12_chain_33 : decode cX12_chain 33 = .ok (.invokevirtual 299, 3) := by decide +kernel
theorem dX12_chain_36 : decode cX12_chain 36 = .ok (.ifCond .eq 7, 3) := by decide +kernel
theorem dX12_chain_39 : decode cX12_chain 39 = .ok (.ldc2_w 188, 3) := by decide +kernel
theorem dX12_chain_42 : decode cX12_chain 42 = .ok (.lreturn, 1) := by decide +kernel
theorem dX12_chain_43 : decode cX12_chain 43 = .ok (.aload_n 0, 1) := by decide +kernel
theorem dX12_chain_44 : decode cX12_chain 44 = .ok (.iconst 0, 1) := by decide +kernel
theorem dX12_chain_45 : decode cX12_chain 45 = .ok (.putfield 252, 3) := by decide +kernel
theorem dX12_chain_48 : decode cX12_chain 48 = .ok (.aload_n 0, 1) := by decide +kernel
theorem dX12_chain_49 : decode cX12_chain 49 = .ok (.iload_n 2, 1) := by decide +kernel
theorem dX12_chain_50 : decode cX12_chain 50 = .ok (.iconst 1, 1) := by decide +kernel
theorem dX12_chain_51 : decode cX12_chain 51 = .ok (.if_icmp .le 7, 3) := by decide +kernel
theorem dX12_chain_54 : decode cX12_chain 54 = .ok (.iconst 1, 1) := by decide +kernel
theorem dX12_chain_55 : decode cX12_chain 55 = .ok (.goto 4, 3) := by decide +kernel
theorem dX12_chain_58 : decode cX12_chain 58 = .ok (.iconst 0, 1) := by decide +kernel
theorem dX12_chain_59 : decode cX12_chain 59 = .ok (.invokevirtual 302, 3) := by decide +kernel
theorem dX12_chain_62 : decode cX12_chain 62 = .ok (.aload_n 0, 1) := by decide +kernel
theorem dX12_chain_63 : decode cX12_chain 63 = .ok (.getfield 252, 3) := by decide +kernel
theorem dX12_chain_66 : decode cX12_chain 66 = .ok (.ifCond .ne 37, 3) := by decide +kernel
theorem dX12_chain_69 : decode cX12_chain 69 = .ok (.aload_n 0, 1) := by decide +kernel
theorem dX12_chain_70 : decode cX12_chain 70 = .ok (.iload_n 1, 1) := by decide +kernel
theorem dX12_chain_71 : decode cX12_chain 71 = .ok (.iload_n 2, 1) := by decide +kernel
theorem dX12_chain_72 : decode cX12_chain 72 = .ok (.iconst 1, 1) := by decide +kernel
theorem dX12_chain_73 : decode cX12_chain 73 = .ok (.if_icmp .le 7, 3) := by decide +kernel
theorem dX12_chain_76 : decode cX12_chain 76 = .ok (.lconst 0, 1) := by decide +kernel
theorem dX12_chain_77 : decode cX12_chain 77 = .ok (.goto 4, 3) := by decide +kernel
theorem dX12_chain_80 : decode cX12_chain 80 = .ok (.lconst 1, 1) := by decide +kernel
theorem dX12_chain_81 : decode cX12_chain 81 = .ok (.invokevirtual 306, 3) := by decide +kernel
theorem dX12_chain_84 : decode cX12_chain 84 = .ok (.iload_n 2, 1) := by decide +kernel
theorem dX12_chain_85 : decode cX12_chain 85 = .ok (.iconst 1, 1) := by decide +kernel
theorem dX12_chain_86 : decode cX12_chain 86 = .ok (.if_icmp .le 17, 3) := by decide +kernel
theorem dX12_chain_89 : decode cX12_chain 89 = .ok (.iload_n 1, 1) := by decide +kernel
theorem dX12_chain_90 : decode cX12_chain 90 = .ok (.ifCond .ne 13, 3) := by decide +kernel
theorem dX12_chain_93 : decode cX12_chain 93 = .ok (.aload_n 0, 1) := by decide +kernel
theorem dX12_chain_94 : decode cX12_chain 94 = .ok (.lconst 0, 1) := by decide +kernel
theorem dX12_chain_95 : decode cX12_chain 95 = .ok (.putfield 256, 3) := by decide +kernel
theorem dX12_chain_98 : decode cX12_chain 98 = .ok (.aload_n 0, 1) := by decide +kernel
theorem dX12_chain_99 : decode cX12_chain 99 = .ok (.lconst 1, 1) := by decide +kernel
theorem dX12_chain_100 : decode cX12_chain 100 = .ok (.putfield 260, 3) := by decide +kernel
theorem dX12_chain_103 : decode cX12_chain 103 = .ok (.aload_n 0, 1) := by decide +kernel
theorem dX12_chain_104 : decode cX12_chain 104 = .ok (.getfield 252, 3) := by decide +kernel
theorem dX12_chain_107 : decode cX12_chain 107 = .ok (.ifCond .eq 7, 3) := by decide +kernel
theorem dX12_chain_110 : decode cX12_chain 110 = .ok (.ldc2_w 225, 3) := by decide +kernel
theorem dX12_chain_113 : decode cX12_chain 113 = .ok (.lreturn, 1) := by decide +kernel
theorem dX12_chain_114 : decode cX12_chain 114 = .ok (.iload_n 2, 1) := by decide +kernel
theorem dX12_chain_115 : decode cX12_chain 115 = .ok (.iconst 2, 1) := by decide +kernel
theorem dX12_chain_116 : decode cX12_chain 116 = .ok (.irem, 1) := by decide +kernel
theorem dX12_chain_117 : decode cX12_chain 117 = .ok (.ifCond .ne 10, 3) := by decide +kernel
theorem dX12_chain_120 : decode cX12_chain 120 = .ok (.aload_n 0, 1) := by decide +kernel
theorem dX12_chain_121 : decode cX12_chain 121 = .ok (.getfield 256, 3) := by decide +kernel
theorem dX12_chain_124 : decode cX12_chain 124 = .ok (.goto 7, 3) := by decide +kernel
theorem dX12_chain_127 : decode cX12_chain 127 = .ok (.aload_n 0, 1) := by decide +kernel
theorem dX12_chain_128 : decode cX12_chain 128 = .ok (.getfield 260, 3) := by decide +kernel
theorem dX12_chain_131 : decode cX12_chain 131 = .ok (.lreturn, 1) := by decide +kernel
theorem dX12_isEntry_0 : decode cX12_isEntry 0 = .ok (.iload_n 1, 1) := by decide +kernel
theorem dX12_isEntry_1 : decode cX12_isEntry 1 = .ok (.iconst 0, 1) := by decide +kernel
theorem dX12_isEntry_2 : decode cX12_isEntry 2 = .ok (.aload_n 0, 1) := by decide +kernel
theorem dX12_isEntry_3 : decode cX12_isEntry 3 = .ok (.getfield 113, 3) := by decide +kernel
theorem dX12_isEntry_6 : decode cX12_isEntry 6 = .ok (.iconst 1, 1) := by decide +kernel
theorem dX12_isEntry_7 : decode cX12_isEntry 7 = .ok (.isub, 1) := by decide +kernel
theorem dX12_isEntry_8 : decode cX12_isEntry 8 = .ok (.invokestatic 116, 3) := by decide +kernel
theorem dX12_isEntry_11 : decode cX12_isEntry 11 = .ok (.ireturn, 1) := by decide +kernel
theorem dX12_entry_0 : decode cX12_entry 0 = .ok (.aload_n 0, 1) := by decide +kernel
theorem dX12_entry_1 : decode cX12_entry 1 = .ok (.iconst 0, 1) := by decide +kernel
theorem dX12_entry_2 : decode cX12_entry 2 = .ok (.putfield 97, 3) := by decide +kernel
theorem dX12_entry_5 : decode cX12_entry 5 = .ok (.iload_n 1, 1) := by decide +kernel
theorem dX12_entry_6 : decode cX12_entry 6 = .ok (.iconst 0, 1) := by decide +kernel
theorem dX12_entry_7 : decode cX12_entry 7 = .ok (.bipush 7, 2) := by decide +kernel
theorem dX12_entry_9 : decode cX12_entry 9 = .ok (.invokestatic 116, 3) := by decide +kernel
theorem dX12_entry_12 : decode cX12_entry 12 = .ok (.ifCond .eq 49, 3) := by decide +kernel
theorem dX12_entry_15 : decode cX12_entry 15 = .ok (.iload_n 2, 1) := by decide +kernel
theorem dX12_entry_16 : decode cX12_entry 16 = .ok (.iconst (-1), 1) := by decide +kernel
theorem dX12_entry_17 : decode cX12_entry 17 = .ok (.aload_n 0, 1) := by decide +kernel
theorem dX12_entry_18 : decode cX12_entry 18 = .ok (.getfield 113, 3) := by decide +kernel
theorem dX12_entry_21 : decode cX12_entry 21 = .ok (.iconst 1, 1) := by decide +kernel
theorem dX12_entry_22 : decode cX12_entry 22 = .ok (.isub, 1) := by decide +kernel
theorem dX12_entry_23 : decode cX12_entry 23 = .ok (.invokestatic 116, 3) := by decide +kernel
theorem dX12_entry_26 : decode cX12_entry 26 = .ok (.ifCond .eq 35, 3) := by decide +kernel
theorem dX12_entry_29 : decode cX12_entry 29 = .ok (.iload_n 3, 1) := by decide +kernel
theorem dX12_entry_30 : decode cX12_entry 30 = .ok (.iconst (-1), 1) := by decide +kernel
theorem dX12_entry_31 : decode cX12_entry 31 = .ok (.aload_n 0, 1) := by decide +kernel
theorem dX12_entry_32 : decode cX12_entry 32 = .ok (.getfield 113, 3) := by decide +kernel
theorem dX12_entry_35 : decode cX12_entry 35 = .ok (.iconst 1, 1) := by decide +kernel
theorem dX12_entry_36 : decode cX12_entry 36 = .ok (.isub, 1) := by decide +kernel
theorem dX12_entry_37 : decode cX12_entry 37 = .ok (.invokestatic 116, 3) := by decide +kernel
theorem dX12_entry_40 : decode cX12_entry 40 = .ok (.ifCond .eq 21, 3) := by decide +kernel
theorem dX12_entry_43 : decode cX12_entry 43 = .ok (.iload_n 2, 1) := by decide +kernel
theorem dX12_entry_44 : decode cX12_entry 44 = .ok (.ifCond .lt 8, 3) := by decide +kernel
theorem dX12_entry_47 : decode cX12_entry 47 = .ok (.iload_n 2, 1) := by decide +kernel
theorem dX12_entry_48 : decode cX12_entry 48 = .ok (.iload_n 3, 1) := by decide +kernel
theorem dX12_entry_49 : decode cX12_entry 49 = .ok (.if_icmp .eq 12, 3) := by decide +kernel
theorem dX12_entry_52 : decode cX12_entry 52 = .ok (.aload_n 0, 1) := by decide +kernel
theorem dX12_entry_53 : decode cX12_entry 53 = .ok (.getfield 113, 3) := by decide +kernel
theorem dX12_entry_56 : decode cX12_entry 56 = .ok (.bipush 16, 2) := by decide +kernel
theorem dX12_entry_58 : decode cX12_entry 58 = .ok (.if_icmp .ne 5, 3) := by decide +kernel
theorem dX12_entry_61 : decode cX12_entry 61 = .ok (.iconst (-1), 1) := by decide +kernel
theorem dX12_entry_62 : decode cX12_entry 62 = .ok (.ireturn, 1) := by decide +kernel
theorem dX12_entry_63 : decode cX12_entry 63 = .ok (.aload_n 0, 1) := by decide +kernel
theorem dX12_entry_64 : decode cX12_entry 64 = .ok (.getfield 113, 3) := by decide +kernel
theorem dX12_entry_67 : decode cX12_entry 67 = .ok (.istore 4, 2) := by decide +kernel
theorem dX12_entry_69 : decode cX12_entry 69 = .ok (.aload_n 0, 1) := by decide +kernel
theorem dX12_entry_70 : decode cX12_entry 70 = .ok (.getfield 41, 3) := by decide +kernel
theorem dX12_entry_73 : decode cX12_entry 73 = .ok (.iload 4, 2) := by decide +kernel
theorem dX12_entry_75 : decode cX12_entry 75 = .ok (.iload_n 1, 1) := by decide +kernel
theorem dX12_entry_76 : decode cX12_entry 76 = .ok (.iastore, 1) := by decide +kernel
theorem dX12_entry_77 : decode cX12_entry 77 = .ok (.aload_n 0, 1) := by decide +kernel
theorem dX12_entry_78 : decode cX12_entry 78 = .ok (.getfield 44, 3) := by decide +kernel
theorem dX12_entry_81 : decode cX12_entry 81 = .ok (.iload 4, 2) := by decide +kernel
theorem dX12_entry_83 : decode cX12_entry 83 = .ok (.iload_n 2, 1) := by decide +kernel
theorem dX12_entry_84 : decode cX12_entry 84 = .ok (.iastore, 1) := by decide +kernel
theorem dX12_entry_85 : decode cX12_entry 85 = .ok (.aload_n 0, 1) := by decide +kernel
theorem dX12_entry_86 : decode cX12_entry 86 = .ok (.getfield 47, 3) := by decide +kernel
theorem dX12_entry_89 : decode cX12_entry 89 = .ok (.iload 4, 2) := by decide +kernel
theorem dX12_entry_91 : decode cX12_entry 91 = .ok (.iload_n 3, 1) := by decide +kernel
theorem dX12_entry_92 : decode cX12_entry 92 = .ok (.iastore, 1) := by decide +kernel
theorem dX12_entry_93 : decode cX12_entry 93 = .ok (.aload_n 0, 1) := by decide +kernel
theorem dX12_entry_94 : decode cX12_entry 94 = .ok (.getfield 50, 3) := by decide +kernel
theorem dX12_entry_97 : decode cX12_entry 97 = .ok (.iload 4, 2) := by decide +kernel
theorem dX12_entry_99 : decode cX12_entry 99 = .ok (.iconst 0, 1) := by decide +kernel
theorem dX12_entry_100 : decode cX12_entry 100 = .ok (.iastore, 1) := by decide +kernel
theorem dX12_entry_101 : decode cX12_entry 101 = .ok (.iload_n 2, 1) := by decide +kernel
theorem dX12_entry_102 : decode cX12_entry 102 = .ok (.ifCond .lt 23, 3) := by decide +kernel
theorem dX12_entry_105 : decode cX12_entry 105 = .ok (.aload_n 0, 1) := by decide +kernel
theorem dX12_entry_106 : decode cX12_entry 106 = .ok (.getfield 50, 3) := by decide +kernel
theorem dX12_entry_109 : decode cX12_entry 109 = .ok (.iload 4, 2) := by decide +kernel
theorem dX12_entry_111 : decode cX12_entry 111 = .ok (.dup2, 1) := by decide +kernel
theorem dX12_entry_112 : decode cX12_entry 112 = .ok (.iaload, 1) := by decide +kernel
theorem dX12_entry_113 : decode cX12_entry 113 = .ok (.aload_n 0, 1) := by decide +kernel
theorem dX12_entry_114 : decode cX12_entry 114 = .ok (.getfield 50, 3) := by decide +kernel
theorem dX12_entry_117 : decode cX12_entry 117 = .ok (.iload_n 2, 1) := by decide +kernel
theorem dX12_entry_118 : decode cX12_entry 118 = .ok (.iaload, 1) := by decide +kernel
theorem dX12_entry_119 : decode cX12_entry 119 = .ok (.iconst 1, 1) := by decide +kernel
theorem dX12_entry_120 : decode cX12_entry 120 = .ok (.iload_n 2, 1) := by decide +kernel
theorem dX12_entry_121 : decode cX12_entry 121 = .ok (.ishl, 1) := by decide +kernel
theorem dX12_entry_122 : decode cX12_entry 122 = .ok (.ior, 1) := by decide +kernel
theorem dX12_entry_123 : decode cX12_entry 123 = .ok (.ior, 1) := by decide +kernel
theorem dX12_entry_124 : decode cX12_entry 124 = .ok (.iastore, 1) := by decide +kernel
theorem dX12_entry_125 : decode cX12_entry 125 = .ok (.iload_n 3, 1) := by decide +kernel
theorem dX12_entry_126 : decode cX12_entry 126 = .ok (.ifCond .lt 23, 3) := by decide +kernel
theorem dX12_entry_129 : decode cX12_entry 129 = .ok (.aload_n 0, 1) := by decide +kernel
theorem dX12_entry_130 : decode cX12_entry 130 = .ok (.getfield 50, 3) := by decide +kernel
theorem dX12_entry_133 : decode cX12_entry 133 = .ok (.iload 4, 2) := by decide +kernel
theorem dX12_entry_135 : decode cX12_entry 135 = .ok (.dup2, 1) := by decide +kernel
theorem dX12_entry_136 : decode cX12_entry 136 = .ok (.iaload, 1) := by decide +kernel
theorem dX12_entry_137 : decode cX12_entry 137 = .ok (.aload_n 0, 1) := by decide +kernel
theorem dX12_entry_138 : decode cX12_entry 138 = .ok (.getfield 50, 3) := by decide +kernel
theorem dX12_entry_141 : decode cX12_entry 141 = .ok (.iload_n 3, 1) := by decide +kernel
theorem dX12_entry_142 : decode cX12_entry 142 = .ok (.iaload, 1) := by decide +kernel
theorem dX12_entry_143 : decode cX12_entry 143 = .ok (.iconst 1, 1) := by decide +kernel
theorem dX12_entry_144 : decode cX12_entry 144 = .ok (.iload_n 3, 1) := by decide +kernel
theorem dX12_entry_145 : decode cX12_entry 145 = .ok (.ishl, 1) := by decide +kernel
theorem dX12_entry_146 : decode cX12_entry 146 = .ok (.ior, 1) := by decide +kernel
theorem dX12_entry_147 : decode cX12_entry 147 = .ok (.ior, 1) := by decide +kernel
theorem dX12_entry_148 : decode cX12_entry 148 = .ok (.iastore, 1) := by decide +kernel
theorem dX12_entry_149 : decode cX12_entry 149 = .ok (.aload_n 0, 1) := by decide +kernel
theorem dX12_entry_150 : decode cX12_entry 150 = .ok (.dup, 1) := by decide +kernel
theorem dX12_entry_151 : decode cX12_entry 151 = .ok (.getfield 113, 3) := by decide +kernel
theorem dX12_entry_154 : decode cX12_entry 154 = .ok (.iconst 1, 1) := by decide +kernel
theorem dX12_entry_155 : decode cX12_entry 155 = .ok (.iadd, 1) := by decide +kernel
theorem dX12_entry_156 : decode cX12_entry 156 = .ok (.putfield 113, 3) := by decide +kernel
theorem dX12_entry_159 : decode cX12_entry 159 = .ok (.iconst 0, 1) := by decide +kernel
theorem dX12_entry_160 : decode cX12_entry 160 = .ok (.istore 5, 2) := by decide +kernel
theorem dX12_entry_162 : decode cX12_entry 162 = .ok (.iload 5, 2) := by decide +kernel
theorem dX12_entry_164 : decode cX12_entry 164 = .ok (.bipush 8, 2) := by decide +kernel
theorem dX12_entry_166 : decode cX12_entry 166 = .ok (.if_icmp .ge 71, 3) := by decide +kernel
theorem dX12_entry_169 : decode cX12_entry 169 = .ok (.aload_n 0, 1) := by decide +kernel
theorem dX12_entry_170 : decode cX12_entry 170 = .ok (.getfield 7, 3) := by decide +kernel
theorem dX12_entry_173 : decode cX12_entry 173 = .ok (.bipush 96, 2) := by decide +kernel
theorem dX12_entry_175 : decode cX12_entry 175 = .ok (.bipush 8, 2) := by decide +kernel
theorem dX12_entry_177 : decode cX12_entry 177 = .ok (.iload 5, 2) := by decide +kernel
theorem dX12_entry_179 : decode cX12_entry 179 = .ok (.imul, 1) := by decide +kernel
theorem dX12_entry_180 : decode cX12_entry 180 = .ok (.iadd, 1) := by decide +kernel
theorem dX12_entry_181 : decode cX12_entry 181 = .ok (.iload_n 1, 1) := by decide +kernel
theorem dX12_entry_182 : decode cX12_entry 182 = .ok (.iadd, 1) := by decide +kernel
theorem dX12_entry_183 : decode cX12_entry 183 = .ok (.iaload, 1) := by decide +kernel
theorem dX12_entry_184 : decode cX12_entry 184 = .ok (.ifCond .ge 20, 3) := by decide +kernel
theorem dX12_entry_187 : decode cX12_entry 187 = .ok (.aload_n 0, 1) := by decide +kernel
theorem dX12_entry_188 : decode cX12_entry 188 = .ok (.getfield 7, 3) := by decide +kernel
theorem dX12_entry_191 : decode cX12_entry 191 = .ok (.bipush 96, 2) := by decide +kernel
theorem dX12_entry_193 : decode cX12_entry 193 = .ok (.bipush 8, 2) := by decide +kernel
theorem dX12_entry_195 : decode cX12_entry 195 = .ok (.iload 5, 2) := by decide +kernel
theorem dX12_entry_197 : decode cX12_entry 197 = .ok (.imul, 1) := by decide +kernel
theorem dX12_entry_198 : decode cX12_entry 198 = .ok (.iadd, 1) := by decide +kernel
theorem dX12_entry_199 : decode cX12_entry 199 = .ok (.iload_n 1, 1) := by decide +kernel
theorem dX12_entry_200 : decode cX12_entry 200 = .ok (.iadd, 1) := by decide +kernel
theorem dX12_entry_201 : decode cX12_entry 201 = .ok (.iload 4, 2) := by decide +kernel
theorem dX12_entry_203 : decode cX12_entry 203 = .ok (.iastore, 1) := by decide +kernel
theorem dX12_entry_204 : decode cX12_entry 204 = .ok (.aload_n 0, 1) := by decide +kernel
theorem dX12_entry_205 : decode cX12_entry 205 = .ok (.iload 5, 2) := by decide +kernel
theorem dX12_entry_207 : decode cX12_entry 207 = .ok (.iload_n 1, 1) := by decide +kernel
theorem dX12_entry_208 : decode cX12_entry 208 = .ok (.invokevirtual 310, 3) := by decide +kernel
theorem dX12_entry_211 : decode cX12_entry 211 = .ok (.ifCond .lt 20, 3) := by decide +kernel
theorem dX12_entry_214 : decode cX12_entry 214 = .ok (.aload_n 0, 1) := by decide +kernel
theorem dX12_entry_215 : decode cX12_entry 215 = .ok (.getfield 7, 3) := by decide +kernel
theorem dX12_entry_218 : decode cX12_entry 218 = .ok (.bipush 88, 2) := by decide +kernel
theorem dX12_entry_220 : decode cX12_entry 220 = .ok (.iload 5, 2) := by decide +kernel
theorem dX12_entry_222 : decode cX12_entry 222 = .ok (.iadd, 1) := by decide +kernel
theorem dX12_entry_223 : decode cX12_entry 223 = .ok (.dup2, 1) := by decide +kernel
theorem dX12_entry_224 : decode cX12_entry 224 = .ok (.iaload, 1) := by decide +kernel
theorem dX12_entry_225 : decode cX12_entry 225 = .ok (.iconst 1, 1) := by decide +kernel
theorem dX12_entry_226 : decode cX12_entry 226 = .ok (.iload 4, 2) := by decide +kernel
theorem dX12_entry_228 : decode cX12_entry 228 = .ok (.ishl, 1) := by decide +kernel
theorem dX12_entry_229 : decode cX12_entry 229 = .ok (.ior, 1) := by decide +kernel
theorem dX12_entry_230 : decode cX12_entry 230 = .ok (.iastore, 1) := by decide +kernel
theorem dX12_entry_231 : decode cX12_entry 231 = .ok (.iinc 5 1, 3) := by decide +kernel
theorem dX12_entry_234 : decode cX12_entry 234 = .ok (.goto (-72), 3) := by decide +kernel
theorem dX12_entry_237 : decode cX12_entry 237 = .ok (.aload_n 0, 1) := by decide +kernel
theorem dX12_entry_238 : decode cX12_entry 238 = .ok (.iconst 0, 1) := by decide +kernel
theorem dX12_entry_239 : decode cX12_entry 239 = .ok (.putfield 104, 3) := by decide +kernel
theorem dX12_entry_242 : decode cX12_entry 242 = .ok (.iload 4, 2) := by decide +kernel
theorem dX12_entry_244 : decode cX12_entry 244 = .ok (.ireturn, 1) := by decide +kernel
theorem dX12_progeny_0 : decode cX12_progeny 0 = .ok (.iconst 0, 1) := by decide +kernel
theorem dX12_progeny_1 : decode cX12_progeny 1 = .ok (.istore_n 2, 1) := by decide +kernel
theorem dX12_progeny_2 : decode cX12_progeny 2 = .ok (.iconst 0, 1) := by decide +kernel
theorem dX12_progeny_3 : decode cX12_progeny 3 = .ok (.istore_n 3, 1) := by decide +kernel
theorem dX12_progeny_4 : decode cX12_progeny 4 = .ok (.iload_n 3, 1) := by decide +kernel
theorem dX12_progeny_5 : decode cX12_progeny 5 = .ok (.aload_n 0, 1) := by decide +kernel
theorem dX12_progeny_6 : decode cX12_progeny 6 = .ok (.getfield 113, 3) := by decide +kernel
theorem dX12_progeny_9 : decode cX12_progeny 9 = .ok (.if_icmp .ge 28, 3) := by decide +kernel
theorem dX12_progeny_12 : decode cX12_progeny 12 = .ok (.aload_n 0, 1) := by decide +kernel
theorem dX12_progeny_13 : decode cX12_progeny 13 = .ok (.getfield 50, 3) := by decide +kernel
theorem dX12_progeny_16 : decode cX12_progeny 16 = .ok (.iload_n 3, 1) := by decide +kernel
theorem dX12_progeny_17 : decode cX12_progeny 17 = .ok (.iaload, 1) := by decide +kernel
theorem dX12_progeny_18 : decode cX12_progeny 18 = .ok (.iload_n 1, 1) := by decide +kernel
theorem dX12_progeny_19 : decode cX12_progeny 19 = .ok (.invokestatic 100, 3) := by decide +kernel
theorem dX12_progeny_22 : decode cX12_progeny 22 = .ok (.ifCond .eq 9, 3) := by decide +kernel
theorem dX12_progeny_25 : decode cX12_progeny 25 = .ok (.iload_n 2, 1) := by decide +kernel
theorem dX12_progeny_26 : decode cX12_progeny 26 = .ok (.iconst 1, 1) := by decide +kernel
theorem dX12_progeny_27 : decode cX12_progeny 27 = .ok (.iload_n 3, 1) := by decide +kernel
theorem dX12_progeny_28 : decode cX12_progeny 28 = .ok (.ishl, 1) := by decide +kernel
theorem dX12_progeny_29 : decode cX12_progeny 29 = .ok (.ior, 1) := by decide +kernel
theorem dX12_progeny_30 : decode cX12_progeny 30 = .ok (.istore_n 2, 1) := by decide +kernel
theorem dX12_progeny_31 : decode cX12_progeny 31 = .ok (.iinc 3 1, 3) := by decide +kernel
theorem dX12_progeny_34 : decode cX12_progeny 34 = .ok (.goto (-30), 3) := by decide +kernel
theorem dX12_progeny_37 : decode cX12_progeny 37 = .ok (.iload_n 2, 1) := by decide +kernel
theorem dX12_progeny_38 : decode cX12_progeny 38 = .ok (.ireturn, 1) := by decide +kernel
theorem dX12_acceptedOf_0 : decode cX12_acceptedOf 0 = .ok (.iconst 0, 1) := by decide +kernel
theorem dX12_acceptedOf_1 : decode cX12_acceptedOf 1 = .ok (.istore_n 3, 1) := by decide +kernel
theorem dX12_acceptedOf_2 : decode cX12_acceptedOf 2 = .ok (.iload_n 3, 1) := by decide +kernel
theorem dX12_acceptedOf_3 : decode cX12_acceptedOf 3 = .ok (.aload_n 0, 1) := by decide +kernel
theorem dX12_acceptedOf_4 : decode cX12_acceptedOf 4 = .ok (.getfield 113, 3) := by decide +kernel
theorem dX12_acceptedOf_7 : decode cX12_acceptedOf 7 = .ok (.if_icmp .ge 37, 3) := by decide +kernel
theorem dX12_acceptedOf_10 : decode cX12_acceptedOf 10 = .ok (.aload_n 0, 1) := by decide +kernel
theorem dX12_acceptedOf_11 : decode cX12_acceptedOf 11 = .ok (.getfield 41, 3) := by decide +kernel
theorem dX12_acceptedOf_14 : decode cX12_acceptedOf 14 = .ok (.iload_n 3, 1) := by decide +kernel
theorem dX12_acceptedOf_15 : decode cX12_acceptedOf 15 = .ok (.iaload, 1) := by decide +kernel
theorem dX12_acceptedOf_16 : decode cX12_acceptedOf 16 = .ok (.iload_n 2, 1) := by decide +kernel
theorem dX12_acceptedOf_17 : decode cX12_acceptedOf 17 = .ok (.if_icmp .ne 21, 3) := by decide +kernel
theorem dX12_acceptedOf_20 : decode cX12_acceptedOf 20 = .ok (.aload_n 0, 1) := by decide +kernel
theorem dX12_acceptedOf_21 : decode cX12_acceptedOf 21 = .ok (.getfield 7, 3) := by decide +kernel
theorem dX12_acceptedOf_24 : decode cX12_acceptedOf 24 = .ok (.bipush 80, 2) := by decide +kernel
theorem dX12_acceptedOf_26 : decode cX12_acceptedOf 26 = .ok (.iload_n 1, 1) := by decide +kernel
theorem dX12_acceptedOf_27 : decode cX12_acceptedOf 27 = .ok (.iadd, 1) := by decide +kernel
theorem dX12_acceptedOf_28 : decode cX12_acceptedOf 28 = .ok (.iaload, 1) := by decide +kernel
theorem dX12_acceptedOf_29 : decode cX12_acceptedOf 29 = .ok (.iload_n 3, 1) := by decide +kernel
theorem dX12_acceptedOf_30 : decode cX12_acceptedOf 30 = .ok (.invokestatic 100, 3) := by decide +kernel
theorem dX12_acceptedOf_33 : decode cX12_acceptedOf 33 = .ok (.ifCond .eq 5, 3) := by decide +kernel
theorem dX12_acceptedOf_36 : decode cX12_acceptedOf 36 = .ok (.iload_n 3, 1) := by decide +kernel
theorem dX12_acceptedOf_37 : decode cX12_acceptedOf 37 = .ok (.ireturn, 1) := by decide +kernel
theorem dX12_acceptedOf_38 : decode cX12_acceptedOf 38 = .ok (.iinc 3 1, 3) := by decide +kernel
theorem dX12_acceptedOf_41 : decode cX12_acceptedOf 41 = .ok (.goto (-39), 3) := by decide +kernel
theorem dX12_acceptedOf_44 : decode cX12_acceptedOf 44 = .ok (.iconst (-1), 1) := by decide +kernel
theorem dX12_acceptedOf_45 : decode cX12_acceptedOf 45 = .ok (.ireturn, 1) := by decide +kernel
theorem dX12_confOf_0 : decode cX12_confOf 0 = .ok (.aload_n 0, 1) := by decide +kernel
theorem dX12_confOf_1 : decode cX12_confOf 1 = .ok (.getfield 7, 3) := by decide +kernel
theorem dX12_confOf_4 : decode cX12_confOf 4 = .ok (.bipush 64, 2) := by decide +kernel
theorem dX12_confOf_6 : decode cX12_confOf 6 = .ok (.iload_n 1, 1) := by decide +kernel
theorem dX12_confOf_7 : decode cX12_confOf 7 = .ok (.iadd, 1) := by decide +kernel
theorem dX12_confOf_8 : decode cX12_confOf 8 = .ok (.iaload, 1) := by decide +kernel
theorem dX12_confOf_9 : decode cX12_confOf 9 = .ok (.aload_n 0, 1) := by decide +kernel
theorem dX12_confOf_10 : decode cX12_confOf 10 = .ok (.iload_n 2, 1) := by decide +kernel
theorem dX12_confOf_11 : decode cX12_confOf 11 = .ok (.invokevirtual 313, 3) := by decide +kernel
theorem dX12_confOf_14 : decode cX12_confOf 14 = .ok (.iconst 1, 1) := by decide +kernel
theorem dX12_confOf_15 : decode cX12_confOf 15 = .ok (.iload_n 2, 1) := by decide +kernel
theorem dX12_confOf_16 : decode cX12_confOf 16 = .ok (.ishl, 1) := by decide +kernel
theorem dX12_confOf_17 : decode cX12_confOf 17 = .ok (.ior, 1) := by decide +kernel
theorem dX12_confOf_18 : decode cX12_confOf 18 = .ok (.iand, 1) := by decide +kernel
theorem dX12_confOf_19 : decode cX12_confOf 19 = .ok (.invokestatic 127, 3) := by decide +kernel
theorem dX12_confOf_22 : decode cX12_confOf 22 = .ok (.ireturn, 1) := by decide +kernel
theorem dX12_isStrong_0 : decode cX12_isStrong 0 = .ok (.iconst 0, 1) := by decide +kernel
theorem dX12_isStrong_1 : decode cX12_isStrong 1 = .ok (.istore_n 3, 1) := by decide +kernel
theorem dX12_isStrong_2 : decode cX12_isStrong 2 = .ok (.iload_n 3, 1) := by decide +kernel
theorem dX12_isStrong_3 : decode cX12_isStrong 3 = .ok (.aload_n 0, 1) := by decide +kernel
theorem dX12_isStrong_4 : decode cX12_isStrong 4 = .ok (.getfield 113, 3) := by decide +kernel
theorem dX12_isStrong_7 : decode cX12_isStrong 7 = .ok (.if_icmp .ge 51, 3) := by decide +kernel
theorem dX12_isStrong_10 : decode cX12_isStrong 10 = .ok (.aload_n 0, 1) := by decide +kernel
theorem dX12_isStrong_11 : decode cX12_isStrong 11 = .ok (.getfield 50, 3) := by decide +kernel
theorem dX12_isStrong_14 : decode cX12_isStrong 14 = .ok (.iload_n 2, 1) := by decide +kernel
theorem dX12_isStrong_15 : decode cX12_isStrong 15 = .ok (.iaload, 1) := by decide +kernel
theorem dX12_isStrong_16 : decode cX12_isStrong 16 = .ok (.iconst 1, 1) := by decide +kernel
theorem dX12_isStrong_17 : decode cX12_isStrong 17 = .ok (.iload_n 2, 1) := by decide +kernel
theorem dX12_isStrong_18 : decode cX12_isStrong 18 = .ok (.ishl, 1) := by decide +kernel
theorem dX12_isStrong_19 : decode cX12_isStrong 19 = .ok (.ior, 1) := by decide +kernel
theorem dX12_isStrong_20 : decode cX12_isStrong 20 = .ok (.iload_n 3, 1) := by decide +kernel
theorem dX12_isStrong_21 : decode cX12_isStrong 21 = .ok (.invokestatic 100, 3) := by decide +kernel
theorem dX12_isStrong_24 : decode cX12_isStrong 24 = .ok (.ifCond .eq 28, 3) := by decide +kernel
theorem dX12_isStrong_27 : decode cX12_isStrong 27 = .ok (.aload_n 0, 1) := by decide +kernel
theorem dX12_isStrong_28 : decode cX12_isStrong 28 = .ok (.getfield 7, 3) := by decide +kernel
theorem dX12_isStrong_31 : decode cX12_isStrong 31 = .ok (.bipush 96, 2) := by decide +kernel
theorem dX12_isStrong_33 : decode cX12_isStrong 33 = .ok (.bipush 8, 2) := by decide +kernel
theorem dX12_isStrong_35 : decode cX12_isStrong 35 = .ok (.iload_n 1, 1) := by decide +kernel
theorem dX12_isStrong_36 : decode cX12_isStrong 36 = .ok (.imul, 1) := by decide +kernel
theorem dX12_isStrong_37 : decode cX12_isStrong 37 = .ok (.iadd, 1) := by decide +kernel
theorem dX12_isStrong_38 : decode cX12_isStrong 38 = .ok (.aload_n 0, 1) := by decide +kernel
theorem dX12_isStrong_39 : decode cX12_isStrong 39 = .ok (.getfield 41, 3) := by decide +kernel
theorem dX12_isStrong_42 : decode cX12_isStrong 42 = .ok (.iload_n 3, 1) := by decide +kernel
theorem dX12_isStrong_43 : decode cX12_isStrong 43 = .ok (.iaload, 1) := by decide +kernel
theorem dX12_isStrong_44 : decode cX12_isStrong 44 = .ok (.iadd, 1) := by decide +kernel
theorem dX12_isStrong_45 : decode cX12_isStrong 45 = .ok (.iaload, 1) := by decide +kernel
theorem dX12_isStrong_46 : decode cX12_isStrong 46 = .ok (.iload_n 3, 1) := by decide +kernel
theorem dX12_isStrong_47 : decode cX12_isStrong 47 = .ok (.if_icmp .eq 5, 3) := by decide +kernel
theorem dX12_isStrong_50 : decode cX12_isStrong 50 = .ok (.iconst 0, 1) := by decide +kernel
theorem dX12_isStrong_51 : decode cX12_isStrong 51 = .ok (.ireturn, 1) := by decide +kernel
theorem dX12_isStrong_52 : decode cX12_isStrong 52 = .ok (.iinc 3 1, 3) := by decide +kernel
theorem dX12_isStrong_55 : decode cX12_isStrong 55 = .ok (.goto (-53), 3) := by decide +kernel
theorem dX12_isStrong_58 : decode cX12_isStrong 58 = .ok (.iconst 1, 1) := by decide +kernel
theorem dX12_isStrong_59 : decode cX12_isStrong 59 = .ok (.ireturn, 1) := by decide +kernel
theorem dX12_saysYes_0 : decode cX12_saysYes 0 = .ok (.aload_n 0, 1) := by decide +kernel
theorem dX12_saysYes_1 : decode cX12_saysYes 1 = .ok (.getfield 7, 3) := by decide +kernel
theorem dX12_saysYes_4 : decode cX12_saysYes 4 = .ok (.bipush 56, 2) := by decide +kernel
theorem dX12_saysYes_6 : decode cX12_saysYes 6 = .ok (.iload_n 2, 1) := by decide +kernel
theorem dX12_saysYes_7 : decode cX12_saysYes 7 = .ok (.iadd, 1) := by decide +kernel
theorem dX12_saysYes_8 : decode cX12_saysYes 8 = .ok (.iaload, 1) := by decide +kernel
theorem dX12_saysYes_9 : decode cX12_saysYes 9 = .ok (.iload_n 1, 1) := by decide +kernel
theorem dX12_saysYes_10 : decode cX12_saysYes 10 = .ok (.invokestatic 100, 3) := by decide +kernel
theorem dX12_saysYes_13 : decode cX12_saysYes 13 = .ok (.ifCond .ne 5, 3) := by decide +kernel
theorem dX12_saysYes_16 : decode cX12_saysYes 16 = .ok (.iconst 0, 1) := by decide +kernel
theorem dX12_saysYes_17 : decode cX12_saysYes 17 = .ok (.ireturn, 1) := by decide +kernel
theorem dX12_saysYes_18 : decode cX12_saysYes 18 = .ok (.aload_n 0, 1) := by decide +kernel
theorem dX12_saysYes_19 : decode cX12_saysYes 19 = .ok (.getfield 7, 3) := by decide +kernel
theorem dX12_saysYes_22 : decode cX12_saysYes 22 = .ok (.bipush 48, 2) := by decide +kernel
theorem dX12_saysYes_24 : decode cX12_saysYes 24 = .ok (.iload_n 1, 1) := by decide +kernel
theorem dX12_saysYes_25 : decode cX12_saysYes 25 = .ok (.iadd, 1) := by decide +kernel
theorem dX12_saysYes_26 : decode cX12_saysYes 26 = .ok (.iaload, 1) := by decide +kernel
theorem dX12_saysYes_27 : decode cX12_saysYes 27 = .ok (.istore 4, 2) := by decide +kernel
theorem dX12_saysYes_29 : decode cX12_saysYes 29 = .ok (.iload 4, 2) := by decide +kernel
theorem dX12_saysYes_31 : decode cX12_saysYes 31 = .ok (.ifCond .ne 12, 3) := by decide +kernel
theorem dX12_saysYes_34 : decode cX12_saysYes 34 = .ok (.aload_n 0, 1) := by decide +kernel
theorem dX12_saysYes_35 : decode cX12_saysYes 35 = .ok (.iload_n 1, 1) := by decide +kernel
theorem dX12_saysYes_36 : decode cX12_saysYes 36 = .ok (.iload_n 3, 1) := by decide +kernel
theorem dX12_saysYes_37 : decode cX12_saysYes 37 = .ok (.invokevirtual 316, 3) := by decide +kernel
theorem dX12_saysYes_40 : decode cX12_saysYes 40 = .ok (.goto 29, 3) := by decide +kernel
theorem dX12_saysYes_43 : decode cX12_saysYes 43 = .ok (.iload 4, 2) := by decide +kernel
theorem dX12_saysYes_45 : decode cX12_saysYes 45 = .ok (.iconst 2, 1) := by decide +kernel
theorem dX12_saysYes_46 : decode cX12_saysYes 46 = .ok (.if_icmp .eq 18, 3) := by decide +kernel
theorem dX12_saysYes_49 : decode cX12_saysYes 49 = .ok (.iload 4, 2) := by decide +kernel
theorem dX12_saysYes_51 : decode cX12_saysYes 51 = .ok (.iconst 3, 1) := by decide +kernel
theorem dX12_saysYes_52 : decode cX12_saysYes 52 = .ok (.if_icmp .ne 16, 3) := by decide +kernel
theorem dX12_saysYes_55 : decode cX12_saysYes 55 = .ok (.aload_n 0, 1) := by decide +kernel
theorem dX12_saysYes_56 : decode cX12_saysYes 56 = .ok (.iload_n 2, 1) := by decide +kernel
theorem dX12_saysYes_57 : decode cX12_saysYes 57 = .ok (.iload_n 3, 1) := by decide +kernel
theorem dX12_saysYes_58 : decode cX12_saysYes 58 = .ok (.invokevirtual 316, 3) := by decide +kernel
theorem dX12_saysYes_61 : decode cX12_saysYes 61 = .ok (.ifCond .ne 7, 3) := by decide +kernel
theorem dX12_saysYes_64 : decode cX12_saysYes 64 = .ok (.iconst 1, 1) := by decide +kernel
theorem dX12_saysYes_65 : decode cX12_saysYes 65 = .ok (.goto 4, 3) := by decide +kernel
theorem dX12_saysYes_68 : decode cX12_saysYes 68 = .ok (.iconst 0, 1) := by decide +kernel
theorem dX12_saysYes_69 : decode cX12_saysYes 69 = .ok (.ireturn, 1) := by decide +kernel
theorem dX12_canPoll_0 : decode cX12_canPoll 0 = .ok (.aload_n 0, 1) := by decide +kernel
theorem dX12_canPoll_1 : decode cX12_canPoll 1 = .ok (.iload_n 1, 1) := by decide +kernel
theorem dX12_canPoll_2 : decode cX12_canPoll 2 = .ok (.invokevirtual 120, 3) := by decide +kernel
theorem dX12_canPoll_5 : decode cX12_canPoll 5 = .ok (.ifCond .eq 52, 3) := by decide +kernel
theorem dX12_canPoll_8 : decode cX12_canPoll 8 = .ok (.aload_n 0, 1) := by decide +kernel
theorem dX12_canPoll_9 : decode cX12_canPoll 9 = .ok (.iload_n 2, 1) := by decide +kernel
theorem dX12_canPoll_10 : decode cX12_canPoll 10 = .ok (.invokevirtual 319, 3) := by decide +kernel
theorem dX12_canPoll_13 : decode cX12_canPoll 13 = .ok (.ifCond .eq 44, 3) := by decide +kernel
theorem dX12_canPoll_16 : decode cX12_canPoll 16 = .ok (.aload_n 0, 1) := by decide +kernel
theorem dX12_canPoll_17 : decode cX12_canPoll 17 = .ok (.iload_n 1, 1) := by decide +kernel
theorem dX12_canPoll_18 : decode cX12_canPoll 18 = .ok (.iload_n 3, 1) := by decide +kernel
theorem dX12_canPoll_19 : decode cX12_canPoll 19 = .ok (.invokevirtual 139, 3) := by decide +kernel
theorem dX12_canPoll_22 : decode cX12_canPoll 22 = .ok (.ifCond .eq 35, 3) := by decide +kernel
theorem dX12_canPoll_25 : decode cX12_canPoll 25 = .ok (.aload_n 0, 1) := by decide +kernel
theorem dX12_canPoll_26 : decode cX12_canPoll 26 = .ok (.getfield 7, 3) := by decide +kernel
theorem dX12_canPoll_29 : decode cX12_canPoll 29 = .ok (.bipush 48, 2) := by decide +kernel
theorem dX12_canPoll_31 : decode cX12_canPoll 31 = .ok (.iload_n 1, 1) := by decide +kernel
theorem dX12_canPoll_32 : decode cX12_canPoll 32 = .ok (.iadd, 1) := by decide +kernel
theorem dX12_canPoll_33 : decode cX12_canPoll 33 = .ok (.iaload, 1) := by decide +kernel
theorem dX12_canPoll_34 : decode cX12_canPoll 34 = .ok (.ifCond .ne 23, 3) := by decide +kernel
theorem dX12_canPoll_37 : decode cX12_canPoll 37 = .ok (.aload_n 0, 1) := by decide +kernel
theorem dX12_canPoll_38 : decode cX12_canPoll 38 = .ok (.getfield 7, 3) := by decide +kernel
theorem dX12_canPoll_41 : decode cX12_canPoll 41 = .ok (.bipush 72, 2) := by decide +kernel
theorem dX12_canPoll_43 : decode cX12_canPoll 43 = .ok (.iload_n 1, 1) := by decide +kernel
theorem dX12_canPoll_44 : decode cX12_canPoll 44 = .ok (.iadd, 1) := by decide +kernel
theorem dX12_canPoll_45 : decode cX12_canPoll 45 = .ok (.iaload, 1) := by decide +kernel
theorem dX12_canPoll_46 : decode cX12_canPoll 46 = .ok (.iload_n 2, 1) := by decide +kernel
theorem dX12_canPoll_47 : decode cX12_canPoll 47 = .ok (.invokestatic 100, 3) := by decide +kernel
theorem dX12_canPoll_50 : decode cX12_canPoll 50 = .ok (.ifCond .ne 7, 3) := by decide +kernel
theorem dX12_canPoll_53 : decode cX12_canPoll 53 = .ok (.iconst 1, 1) := by decide +kernel
theorem dX12_canPoll_54 : decode cX12_canPoll 54 = .ok (.goto 4, 3) := by decide +kernel
theorem dX12_canPoll_57 : decode cX12_canPoll 57 = .ok (.iconst 0, 1) := by decide +kernel
theorem dX12_canPoll_58 : decode cX12_canPoll 58 = .ok (.ireturn, 1) := by decide +kernel
theorem dX12_yesOf_0 : decode cX12_yesOf 0 = .ok (.iconst 0, 1) := by decide +kernel
theorem dX12_yesOf_1 : decode cX12_yesOf 1 = .ok (.istore 4, 2) := by decide +kernel
theorem dX12_yesOf_3 : decode cX12_yesOf 3 = .ok (.iconst 0, 1) := by decide +kernel
theorem dX12_yesOf_4 : decode cX12_yesOf 4 = .ok (.istore 5, 2) := by decide +kernel
theorem dX12_yesOf_6 : decode cX12_yesOf 6 = .ok (.iload 5, 2) := by decide +kernel
theorem dX12_yesOf_8 : decode cX12_yesOf 8 = .ok (.aload_n 0, 1) := by decide +kernel
theorem dX12_yesOf_9 : decode cX12_yesOf 9 = .ok (.getfield 19, 3) := by decide +kernel
theorem dX12_yesOf_12 : decode cX12_yesOf 12 = .ok (.if_icmp .ge 32, 3) := by decide +kernel
theorem dX12_yesOf_15 : decode cX12_yesOf 15 = .ok (.iload_n 3, 1) := by decide +kernel
theorem dX12_yesOf_16 : decode cX12_yesOf 16 = .ok (.iload 5, 2) := by decide +kernel
theorem dX12_yesOf_18 : decode cX12_yesOf 18 = .ok (.invokestatic 100, 3) := by decide +kernel
theorem dX12_yesOf_21 : decode cX12_yesOf 21 = .ok (.ifCond .eq 17, 3) := by decide +kernel
theorem dX12_yesOf_24 : decode cX12_yesOf 24 = .ok (.aload_n 0, 1) := by decide +kernel
theorem dX12_yesOf_25 : decode cX12_yesOf 25 = .ok (.iload 5, 2) := by decide +kernel
theorem dX12_yesOf_27 : decode cX12_yesOf 27 = .ok (.iload_n 1, 1) := by decide +kernel
theorem dX12_yesOf_28 : decode cX12_yesOf 28 = .ok (.iload_n 2, 1) := by decide +kernel
theorem dX12_yesOf_29 : decode cX12_yesOf 29 = .ok (.invokevirtual 322, 3) := by decide +kernel
theorem dX12_yesOf_32 : decode cX12_yesOf 32 = .ok (.ifCond .eq 6, 3) := by decide +kernel
theorem dX12_yesOf_35 : decode cX12_yesOf 35 = .ok (.iinc 4 1, 3) := by decide +kernel
theorem dX12_yesOf_38 : decode cX12_yesOf 38 = .ok (.iinc 5 1, 3) := by decide +kernel
theorem dX12_yesOf_41 : decode cX12_yesOf 41 = .ok (.goto (-35), 3) := by decide +kernel
theorem dX12_yesOf_44 : decode cX12_yesOf 44 = .ok (.iload 4, 2) := by decide +kernel
theorem dX12_yesOf_46 : decode cX12_yesOf 46 = .ok (.ireturn, 1) := by decide +kernel
theorem dX12_pollsOne_0 : decode cX12_pollsOne 0 = .ok (.aload_n 0, 1) := by decide +kernel
theorem dX12_pollsOne_1 : decode cX12_pollsOne 1 = .ok (.iload_n 1, 1) := by decide +kernel
theorem dX12_pollsOne_2 : decode cX12_pollsOne 2 = .ok (.iload_n 2, 1) := by decide +kernel
theorem dX12_pollsOne_3 : decode cX12_pollsOne 3 = .ok (.iload_n 3, 1) := by decide +kernel
theorem dX12_pollsOne_4 : decode cX12_pollsOne 4 = .ok (.invokevirtual 325, 3) := by decide +kernel
theorem dX12_pollsOne_7 : decode cX12_pollsOne 7 = .ok (.aload_n 0, 1) := by decide +kernel
theorem dX12_pollsOne_8 : decode cX12_pollsOne 8 = .ok (.getfield 26, 3) := by decide +kernel
theorem dX12_pollsOne_11 : decode cX12_pollsOne 11 = .ok (.if_icmp .lt 7, 3) := by decide +kernel
theorem dX12_pollsOne_14 : decode cX12_pollsOne 14 = .ok (.iconst 1, 1) := by decide +kernel
theorem dX12_pollsOne_15 : decode cX12_pollsOne 15 = .ok (.goto 4, 3) := by decide +kernel
theorem dX12_pollsOne_18 : decode cX12_pollsOne 18 = .ok (.iconst 0, 1) := by decide +kernel
theorem dX12_pollsOne_19 : decode cX12_pollsOne 19 = .ok (.istore 4, 2) := by decide +kernel
theorem dX12_pollsOne_21 : decode cX12_pollsOne 21 = .ok (.aload_n 0, 1) := by decide +kernel
theorem dX12_pollsOne_22 : decode cX12_pollsOne 22 = .ok (.getfield 7, 3) := by decide +kernel
theorem dX12_pollsOne_25 : decode cX12_pollsOne 25 = .ok (.bipush 72, 2) := by decide +kernel
theorem dX12_pollsOne_27 : decode cX12_pollsOne 27 = .ok (.iload_n 1, 1) := by decide +kernel
theorem dX12_pollsOne_28 : decode cX12_pollsOne 28 = .ok (.iadd, 1) := by decide +kernel
theorem dX12_pollsOne_29 : decode cX12_pollsOne 29 = .ok (.dup2, 1) := by decide +kernel
theorem dX12_pollsOne_30 : decode cX12_pollsOne 30 = .ok (.iaload, 1) := by decide +kernel
theorem dX12_pollsOne_31 : decode cX12_pollsOne 31 = .ok (.iconst 1, 1) := by decide +kernel
theorem dX12_pollsOne_32 : decode cX12_pollsOne 32 = .ok (.iload_n 2, 1) := by decide +kernel
theorem dX12_pollsOne_33 : decode cX12_pollsOne 33 = .ok (.ishl, 1) := by decide +kernel
theorem dX12_pollsOne_34 : decode cX12_pollsOne 34 = .ok (.ior, 1) := by decide +kernel
theorem dX12_pollsOne_35 : decode cX12_pollsOne 35 = .ok (.iastore, 1) := by decide +kernel
theorem dX12_pollsOne_36 : decode cX12_pollsOne 36 = .ok (.aload_n 0, 1) := by decide +kernel
theorem dX12_pollsOne_37 : decode cX12_pollsOne 37 = .ok (.dup, 1) := by decide +kernel
theorem dX12_pollsOne_38 : decode cX12_pollsOne 38 = .ok (.getfield 110, 3) := by decide +kernel
theorem dX12_pollsOne_41 : decode cX12_pollsOne 41 = .ok (.iconst 1, 1) := by decide +kernel
theorem dX12_pollsOne_42 : decode cX12_pollsOne 42 = .ok (.iadd, 1) := by decide +kernel
theorem dX12_pollsOne_43 : decode cX12_pollsOne 43 = .ok (.putfield 110, 3) := by decide +kernel
theorem dX12_pollsOne_46 : decode cX12_pollsOne 46 = .ok (.iload 4, 2) := by decide +kernel
theorem dX12_pollsOne_48 : decode cX12_pollsOne 48 = .ok (.ifCond .eq 18, 3) := by decide +kernel
theorem dX12_pollsOne_51 : decode cX12_pollsOne 51 = .ok (.aload_n 0, 1) := by decide +kernel
theorem dX12_pollsOne_52 : decode cX12_pollsOne 52 = .ok (.getfield 7, 3) := by decide +kernel
theorem dX12_pollsOne_55 : decode cX12_pollsOne 55 = .ok (.bipush 64, 2) := by decide +kernel
theorem dX12_pollsOne_57 : decode cX12_pollsOne 57 = .ok (.iload_n 1, 1) := by decide +kernel
theorem dX12_pollsOne_58 : decode cX12_pollsOne 58 = .ok (.iadd, 1) := by decide +kernel
theorem dX12_pollsOne_59 : decode cX12_pollsOne 59 = .ok (.dup2, 1) := by decide +kernel
theorem dX12_pollsOne_60 : decode cX12_pollsOne 60 = .ok (.iaload, 1) := by decide +kernel
theorem dX12_pollsOne_61 : decode cX12_pollsOne 61 = .ok (.iconst 1, 1) := by decide +kernel
theorem dX12_pollsOne_62 : decode cX12_pollsOne 62 = .ok (.iload_n 2, 1) := by decide +kernel
theorem dX12_pollsOne_63 : decode cX12_pollsOne 63 = .ok (.ishl, 1) := by decide +kernel
theorem dX12_pollsOne_64 : decode cX12_pollsOne 64 = .ok (.ior, 1) := by decide +kernel
theorem dX12_pollsOne_65 : decode cX12_pollsOne 65 = .ok (.iastore, 1) := by decide +kernel
theorem dX12_pollsOne_66 : decode cX12_pollsOne 66 = .ok (.aload_n 0, 1) := by decide +kernel
theorem dX12_pollsOne_67 : decode cX12_pollsOne 67 = .ok (.getfield 50, 3) := by decide +kernel
theorem dX12_pollsOne_70 : decode cX12_pollsOne 70 = .ok (.iload_n 2, 1) := by decide +kernel
theorem dX12_pollsOne_71 : decode cX12_pollsOne 71 = .ok (.iaload, 1) := by decide +kernel
theorem dX12_pollsOne_72 : decode cX12_pollsOne 72 = .ok (.iconst 1, 1) := by decide +kernel
theorem dX12_pollsOne_73 : decode cX12_pollsOne 73 = .ok (.iload_n 2, 1) := by decide +kernel
theorem dX12_pollsOne_74 : decode cX12_pollsOne 74 = .ok (.ishl, 1) := by decide +kernel
theorem dX12_pollsOne_75 : decode cX12_pollsOne 75 = .ok (.ior, 1) := by decide +kernel
theorem dX12_pollsOne_76 : decode cX12_pollsOne 76 = .ok (.istore 5, 2) := by decide +kernel
theorem dX12_pollsOne_78 : decode cX12_pollsOne 78 = .ok (.iconst 0, 1) := by decide +kernel
theorem dX12_pollsOne_79 : decode cX12_pollsOne 79 = .ok (.istore 6, 2) := by decide +kernel
theorem dX12_pollsOne_81 : decode cX12_pollsOne 81 = .ok (.iload 6, 2) := by decide +kernel
theorem dX12_pollsOne_83 : decode cX12_pollsOne 83 = .ok (.aload_n 0, 1) := by decide +kernel
theorem dX12_pollsOne_84 : decode cX12_pollsOne 84 = .ok (.getfield 113, 3) := by decide +kernel
theorem dX12_pollsOne_87 : decode cX12_pollsOne 87 = .ok (.if_icmp .ge 43, 3) := by decide +kernel
theorem dX12_pollsOne_90 : decode cX12_pollsOne 90 = .ok (.iload 5, 2) := by decide +kernel
theorem dX12_pollsOne_92 : decode cX12_pollsOne 92 = .ok (.iload 6, 2) := by decide +kernel
theorem dX12_pollsOne_94 : decode cX12_pollsOne 94 = .ok (.invokestatic 100, 3) := by decide +kernel
theorem dX12_pollsOne_97 : decode cX12_pollsOne 97 = .ok (.ifCond .eq 27, 3) := by decide +kernel
theorem dX12_pollsOne_100 : decode cX12_pollsOne 100 = .ok (.aload_n 0, 1) := by decide +kernel
theorem dX12_pollsOne_101 : decode cX12_pollsOne 101 = .ok (.iload_n 1, 1) := by decide +kernel
theorem dX12_pollsOne_102 : decode cX12_pollsOne 102 = .ok (.aload_n 0, 1) := by decide +kernel
theorem dX12_pollsOne_103 : decode cX12_pollsOne 103 = .ok (.getfield 41, 3) := by decide +kernel
theorem dX12_pollsOne_106 : decode cX12_pollsOne 106 = .ok (.iload 6, 2) := by decide +kernel
theorem dX12_pollsOne_108 : decode cX12_pollsOne 108 = .ok (.iaload, 1) := by decide +kernel
theorem dX12_pollsOne_109 : decode cX12_pollsOne 109 = .ok (.invokevirtual 310, 3) := by decide +kernel
theorem dX12_pollsOne_112 : decode cX12_pollsOne 112 = .ok (.ifCond .ge 12, 3) := by decide +kernel
theorem dX12_pollsOne_115 : decode cX12_pollsOne 115 = .ok (.aload_n 0, 1) := by decide +kernel
theorem dX12_pollsOne_116 : decode cX12_pollsOne 116 = .ok (.iload_n 1, 1) := by decide +kernel
theorem dX12_pollsOne_117 : decode cX12_pollsOne 117 = .ok (.iload 6, 2) := by decide +kernel
theorem dX12_pollsOne_119 : decode cX12_pollsOne 119 = .ok (.iload 4, 2) := by decide +kernel
theorem dX12_pollsOne_121 : decode cX12_pollsOne 121 = .ok (.invokevirtual 329, 3) := by decide +kernel
theorem dX12_pollsOne_124 : decode cX12_pollsOne 124 = .ok (.iinc 6 1, 3) := by decide +kernel
theorem dX12_pollsOne_127 : decode cX12_pollsOne 127 = .ok (.goto (-46), 3) := by decide +kernel
theorem dX12_pollsOne_130 : decode cX12_pollsOne 130 = .ok (.iconst 0, 1) := by decide +kernel
theorem dX12_pollsOne_131 : decode cX12_pollsOne 131 = .ok (.istore 6, 2) := by decide +kernel
theorem dX12_pollsOne_133 : decode cX12_pollsOne 133 = .ok (.iconst 0, 1) := by decide +kernel
theorem dX12_pollsOne_134 : decode cX12_pollsOne 134 = .ok (.istore 7, 2) := by decide +kernel
theorem dX12_pollsOne_136 : decode cX12_pollsOne 136 = .ok (.iload 7, 2) := by decide +kernel
theorem dX12_pollsOne_138 : decode cX12_pollsOne 138 = .ok (.aload_n 0, 1) := by decide +kernel
theorem dX12_pollsOne_139 : decode cX12_pollsOne 139 = .ok (.getfield 113, 3) := by decide +kernel
theorem dX12_pollsOne_142 : decode cX12_pollsOne 142 = .ok (.if_icmp .ge 32, 3) := by decide +kernel
theorem dX12_pollsOne_145 : decode cX12_pollsOne 145 = .ok (.iload 5, 2) := by decide +kernel
theorem dX12_pollsOne_147 : decode cX12_pollsOne 147 = .ok (.iload 7, 2) := by decide +kernel
theorem dX12_pollsOne_149 : decode cX12_pollsOne 149 = .ok (.invokestatic 100, 3) := by decide +kernel
theorem dX12_pollsOne_152 : decode cX12_pollsOne 152 = .ok (.ifCond .eq 16, 3) := by decide +kernel
theorem dX12_pollsOne_155 : decode cX12_pollsOne 155 = .ok (.aload_n 0, 1) := by decide +kernel
theorem dX12_pollsOne_156 : decode cX12_pollsOne 156 = .ok (.iload_n 1, 1) := by decide +kernel
theorem dX12_pollsOne_157 : decode cX12_pollsOne 157 = .ok (.iload 7, 2) := by decide +kernel
theorem dX12_pollsOne_159 : decode cX12_pollsOne 159 = .ok (.invokevirtual 333, 3) := by decide +kernel
theorem dX12_pollsOne_162 : decode cX12_pollsOne 162 = .ok (.ifCond .eq 6, 3) := by decide +kernel
theorem dX12_pollsOne_165 : decode cX12_pollsOne 165 = .ok (.iconst 1, 1) := by decide +kernel
theorem dX12_pollsOne_166 : decode cX12_pollsOne 166 = .ok (.istore 6, 2) := by decide +kernel
theorem dX12_pollsOne_168 : decode cX12_pollsOne 168 = .ok (.iinc 7 1, 3) := by decide +kernel
theorem dX12_pollsOne_171 : decode cX12_pollsOne 171 = .ok (.goto (-35), 3) := by decide +kernel
theorem dX12_pollsOne_174 : decode cX12_pollsOne 174 = .ok (.iload 6, 2) := by decide +kernel
theorem dX12_pollsOne_176 : decode cX12_pollsOne 176 = .ok (.ifCond .eq 7, 3) := by decide +kernel
theorem dX12_pollsOne_179 : decode cX12_pollsOne 179 = .ok (.iconst 2, 1) := by decide +kernel
theorem dX12_pollsOne_180 : decode cX12_pollsOne 180 = .ok (.goto 13, 3) := by decide +kernel
theorem dX12_pollsOne_183 : decode cX12_pollsOne 183 = .ok (.iload 4, 2) := by decide +kernel
theorem dX12_pollsOne_185 : decode cX12_pollsOne 185 = .ok (.ifCond .eq 7, 3) := by decide +kernel
theorem dX12_pollsOne_188 : decode cX12_pollsOne 188 = .ok (.iconst 1, 1) := by decide +kernel
theorem dX12_pollsOne_189 : decode cX12_pollsOne 189 = .ok (.goto 4, 3) := by decide +kernel
theorem dX12_pollsOne_192 : decode cX12_pollsOne 192 = .ok (.iconst 0, 1) := by decide +kernel
theorem dX12_pollsOne_193 : decode cX12_pollsOne 193 = .ok (.ireturn, 1) := by decide +kernel
theorem dX12_marks_0 : decode cX12_marks 0 = .ok (.bipush 8, 2) := by decide +kernel
theorem dX12_marks_2 : decode cX12_marks 2 = .ok (.iload_n 1, 1) := by decide +kernel
theorem dX12_marks_3 : decode cX12_marks 3 = .ok (.imul, 1) := by decide +kernel
theorem dX12_marks_4 : decode cX12_marks 4 = .ok (.aload_n 0, 1) := by decide +kernel
theorem dX12_marks_5 : decode cX12_marks 5 = .ok (.getfield 41, 3) := by decide +kernel
theorem dX12_marks_8 : decode cX12_marks 8 = .ok (.iload_n 2, 1) := by decide +kernel
theorem dX12_marks_9 : decode cX12_marks 9 = .ok (.iaload, 1) := by decide +kernel
theorem dX12_marks_10 : decode cX12_marks 10 = .ok (.iadd, 1) := by decide +kernel
theorem dX12_marks_11 : decode cX12_marks 11 = .ok (.istore 4, 2) := by decide +kernel
theorem dX12_marks_13 : decode cX12_marks 13 = .ok (.iload_n 3, 1) := by decide +kernel
theorem dX12_marks_14 : decode cX12_marks 14 = .ok (.ifCond .ne 16, 3) := by decide +kernel
theorem dX12_marks_17 : decode cX12_marks 17 = .ok (.aload_n 0, 1) := by decide +kernel
theorem dX12_marks_18 : decode cX12_marks 18 = .ok (.getfield 7, 3) := by decide +kernel
theorem dX12_marks_21 : decode cX12_marks 21 = .ok (.sipush 224, 3) := by decide +kernel
theorem dX12_marks_24 : decode cX12_marks 24 = .ok (.iload 4, 2) := by decide +kernel
theorem dX12_marks_26 : decode cX12_marks 26 = .ok (.iadd, 1) := by decide +kernel
theorem dX12_marks_27 : decode cX12_marks 27 = .ok (.iconst 0, 1) := by decide +kernel
theorem dX12_marks_28 : decode cX12_marks 28 = .ok (.iastore, 1) := by decide +kernel
theorem dX12_marks_29 : decode cX12_marks 29 = .ok (.return_, 1) := by decide +kernel
theorem dX12_marks_30 : decode cX12_marks 30 = .ok (.aload_n 0, 1) := by decide +kernel
theorem dX12_marks_31 : decode cX12_marks 31 = .ok (.iload_n 1, 1) := by decide +kernel
theorem dX12_marks_32 : decode cX12_marks 32 = .ok (.iload_n 2, 1) := by decide +kernel
theorem dX12_marks_33 : decode cX12_marks 33 = .ok (.invokevirtual 336, 3) := by decide +kernel
theorem dX12_marks_36 : decode cX12_marks 36 = .ok (.aload_n 0, 1) := by decide +kernel
theorem dX12_marks_37 : decode cX12_marks 37 = .ok (.iload_n 1, 1) := by decide +kernel
theorem dX12_marks_38 : decode cX12_marks 38 = .ok (.aload_n 0, 1) := by decide +kernel
theorem dX12_marks_39 : decode cX12_marks 39 = .ok (.getfield 7, 3) := by decide +kernel
theorem dX12_marks_42 : decode cX12_marks 42 = .ok (.bipush 96, 2) := by decide +kernel
theorem dX12_marks_44 : decode cX12_marks 44 = .ok (.iload 4, 2) := by decide +kernel
theorem dX12_marks_46 : decode cX12_marks 46 = .ok (.iadd, 1) := by decide +kernel
theorem dX12_marks_47 : decode cX12_marks 47 = .ok (.iaload, 1) := by decide +kernel
theorem dX12_marks_48 : decode cX12_marks 48 = .ok (.invokevirtual 336, 3) := by decide +kernel
theorem dX12_marks_51 : decode cX12_marks 51 = .ok (.if_icmp .le 14, 3) := by decide +kernel
theorem dX12_marks_54 : decode cX12_marks 54 = .ok (.aload_n 0, 1) := by decide +kernel
theorem dX12_marks_55 : decode cX12_marks 55 = .ok (.getfield 7, 3) := by decide +kernel
theorem dX12_marks_58 : decode cX12_marks 58 = .ok (.bipush 96, 2) := by decide +kernel
theorem dX12_marks_60 : decode cX12_marks 60 = .ok (.iload 4, 2) := by decide +kernel
theorem dX12_marks_62 : decode cX12_marks 62 = .ok (.iadd, 1) := by decide +kernel
theorem dX12_marks_63 : decode cX12_marks 63 = .ok (.iload_n 2, 1) := by decide +kernel
theorem dX12_marks_64 : decode cX12_marks 64 = .ok (.iastore, 1) := by decide +kernel
theorem dX12_marks_65 : decode cX12_marks 65 = .ok (.aload_n 0, 1) := by decide +kernel
theorem dX12_marks_66 : decode cX12_marks 66 = .ok (.getfield 7, 3) := by decide +kernel
theorem dX12_marks_69 : decode cX12_marks 69 = .ok (.sipush 160, 3) := by decide +kernel
theorem dX12_marks_72 : decode cX12_marks 72 = .ok (.iload 4, 2) := by decide +kernel
theorem dX12_marks_74 : decode cX12_marks 74 = .ok (.iadd, 1) := by decide +kernel
theorem dX12_marks_75 : decode cX12_marks 75 = .ok (.iaload, 1) := by decide +kernel
theorem dX12_marks_76 : decode cX12_marks 76 = .ok (.iload_n 2, 1) := by decide +kernel
theorem dX12_marks_77 : decode cX12_marks 77 = .ok (.if_icmp .ne 21, 3) := by decide +kernel
theorem dX12_marks_80 : decode cX12_marks 80 = .ok (.aload_n 0, 1) := by decide +kernel
theorem dX12_marks_81 : decode cX12_marks 81 = .ok (.getfield 7, 3) := by decide +kernel
theorem dX12_marks_84 : decode cX12_marks 84 = .ok (.sipush 224, 3) := by decide +kernel
theorem dX12_marks_87 : decode cX12_marks 87 = .ok (.iload 4, 2) := by decide +kernel
theorem dX12_marks_89 : decode cX12_marks 89 = .ok (.iadd, 1) := by decide +kernel
theorem dX12_marks_90 : decode cX12_marks 90 = .ok (.dup2, 1) := by decide +kernel
theorem dX12_marks_91 : decode cX12_marks 91 = .ok (.iaload, 1) := by decide +kernel
theorem dX12_marks_92 : decode cX12_marks 92 = .ok (.iconst 1, 1) := by decide +kernel
theorem dX12_marks_93 : decode cX12_marks 93 = .ok (.iadd, 1) := by decide +kernel
theorem dX12_marks_94 : decode cX12_marks 94 = .ok (.iastore, 1) := by decide +kernel
theorem dX12_marks_95 : decode cX12_marks 95 = .ok (.goto 27, 3) := by decide +kernel
theorem dX12_marks_98 : decode cX12_marks 98 = .ok (.aload_n 0, 1) := by decide +kernel
theorem dX12_marks_99 : decode cX12_marks 99 = .ok (.getfield 7, 3) := by decide +kernel
theorem dX12_marks_102 : decode cX12_marks 102 = .ok (.sipush 160, 3) := by decide +kernel
theorem dX12_marks_105 : decode cX12_marks 105 = .ok (.iload 4, 2) := by decide +kernel
theorem dX12_marks_107 : decode cX12_marks 107 = .ok (.iadd, 1) := by decide +kernel
theorem dX12_marks_108 : decode cX12_marks 108 = .ok (.iload_n 2, 1) := by decide +kernel
theorem dX12_marks_109 : decode cX12_marks 109 = .ok (.iastore, 1) := by decide +kernel
theorem dX12_marks_110 : decode cX12_marks 110 = .ok (.aload_n 0, 1) := by decide +kernel
theorem dX12_marks_111 : decode cX12_marks 111 = .ok (.getfield 7, 3) := by decide +kernel
theorem dX12_marks_114 : decode cX12_marks 114 = .ok (.sipush 224, 3) := by decide +kernel
theorem dX12_marks_117 : decode cX12_marks 117 = .ok (.iload 4, 2) := by decide +kernel
theorem dX12_marks_119 : decode cX12_marks 119 = .ok (.iadd, 1) := by decide +kernel
theorem dX12_marks_120 : decode cX12_marks 120 = .ok (.iconst 1, 1) := by decide +kernel
theorem dX12_marks_121 : decode cX12_marks 121 = .ok (.iastore, 1) := by decide +kernel
theorem dX12_marks_122 : decode cX12_marks 122 = .ok (.return_, 1) := by decide +kernel
theorem dX12_accepts_0 : decode cX12_accepts 0 = .ok (.bipush 8, 2) := by decide +kernel
theorem dX12_accepts_2 : decode cX12_accepts 2 = .ok (.iload_n 1, 1) := by decide +kernel
theorem dX12_accepts_3 : decode cX12_accepts 3 = .ok (.imul, 1) := by decide +kernel
theorem dX12_accepts_4 : decode cX12_accepts 4 = .ok (.aload_n 0, 1) := by decide +kernel
theorem dX12_accepts_5 : decode cX12_accepts 5 = .ok (.getfield 41, 3) := by decide +kernel
theorem dX12_accepts_8 : decode cX12_accepts 8 = .ok (.iload_n 2, 1) := by decide +kernel
theorem dX12_accepts_9 : decode cX12_accepts 9 = .ok (.iaload, 1) := by decide +kernel
theorem dX12_accepts_10 : decode cX12_accepts 10 = .ok (.iadd, 1) := by decide +kernel
theorem dX12_accepts_11 : decode cX12_accepts 11 = .ok (.istore_n 3, 1) := by decide +kernel
theorem dX12_accepts_12 : decode cX12_accepts 12 = .ok (.aload_n 0, 1) := by decide +kernel
theorem dX12_accepts_13 : decode cX12_accepts 13 = .ok (.iload_n 1, 1) := by decide +kernel
theorem dX12_accepts_14 : decode cX12_accepts 14 = .ok (.aload_n 0, 1) := by decide +kernel
theorem dX12_accepts_15 : decode cX12_accepts 15 = .ok (.getfield 41, 3) := by decide +kernel
theorem dX12_accepts_18 : decode cX12_accepts 18 = .ok (.iload_n 2, 1) := by decide +kernel
theorem dX12_accepts_19 : decode cX12_accepts 19 = .ok (.iaload, 1) := by decide +kernel
theorem dX12_accepts_20 : decode cX12_accepts 20 = .ok (.invokevirtual 310, 3) := by decide +kernel
theorem dX12_accepts_23 : decode cX12_accepts 23 = .ok (.ifCond .ge 30, 3) := by decide +kernel
theorem dX12_accepts_26 : decode cX12_accepts 26 = .ok (.aload_n 0, 1) := by decide +kernel
theorem dX12_accepts_27 : decode cX12_accepts 27 = .ok (.getfield 7, 3) := by decide +kernel
theorem dX12_accepts_30 : decode cX12_accepts 30 = .ok (.sipush 160, 3) := by decide +kernel
theorem dX12_accepts_33 : decode cX12_accepts 33 = .ok (.iload_n 3, 1) := by decide +kernel
theorem dX12_accepts_34 : decode cX12_accepts 34 = .ok (.iadd, 1) := by decide +kernel
theorem dX12_accepts_35 : decode cX12_accepts 35 = .ok (.iaload, 1) := by decide +kernel
theorem dX12_accepts_36 : decode cX12_accepts 36 = .ok (.iload_n 2, 1) := by decide +kernel
theorem dX12_accepts_37 : decode cX12_accepts 37 = .ok (.if_icmp .ne 16, 3) := by decide +kernel
theorem dX12_accepts_40 : decode cX12_accepts 40 = .ok (.aload_n 0, 1) := by decide +kernel
theorem dX12_accepts_41 : decode cX12_accepts 41 = .ok (.getfield 7, 3) := by decide +kernel
theorem dX12_accepts_44 : decode cX12_accepts 44 = .ok (.bipush 96, 2) := by decide +kernel
theorem dX12_accepts_46 : decode cX12_accepts 46 = .ok (.iload_n 3, 1) := by decide +kernel
theorem dX12_accepts_47 : decode cX12_accepts 47 = .ok (.iadd, 1) := by decide +kernel
theorem dX12_accepts_48 : decode cX12_accepts 48 = .ok (.iaload, 1) := by decide +kernel
theorem dX12_accepts_49 : decode cX12_accepts 49 = .ok (.iload_n 2, 1) := by decide +kernel
theorem dX12_accepts_50 : decode cX12_accepts 50 = .ok (.if_icmp .eq 5, 3) := by decide +kernel
theorem dX12_accepts_53 : decode cX12_accepts 53 = .ok (.iconst 0, 1) := by decide +kernel
theorem dX12_accepts_54 : decode cX12_accepts 54 = .ok (.ireturn, 1) := by decide +kernel
theorem dX12_accepts_55 : decode cX12_accepts 55 = .ok (.aload_n 0, 1) := by decide +kernel
theorem dX12_accepts_56 : decode cX12_accepts 56 = .ok (.iload_n 2, 1) := by decide +kernel
theorem dX12_accepts_57 : decode cX12_accepts 57 = .ok (.invokevirtual 339, 3) := by decide +kernel
theorem dX12_accepts_60 : decode cX12_accepts 60 = .ok (.ifCond .eq 33, 3) := by decide +kernel
theorem dX12_accepts_63 : decode cX12_accepts 63 = .ok (.aload_n 0, 1) := by decide +kernel
theorem dX12_accepts_64 : decode cX12_accepts 64 = .ok (.iload_n 1, 1) := by decide +kernel
theorem dX12_accepts_65 : decode cX12_accepts 65 = .ok (.iload_n 2, 1) := by decide +kernel
theorem dX12_accepts_66 : decode cX12_accepts 66 = .ok (.invokevirtual 342, 3) := by decide +kernel
theorem dX12_accepts_69 : decode cX12_accepts 69 = .ok (.ifCond .eq 24, 3) := by decide +kernel
theorem dX12_accepts_72 : decode cX12_accepts 72 = .ok (.aload_n 0, 1) := by decide +kernel
theorem dX12_accepts_73 : decode cX12_accepts 73 = .ok (.getfield 7, 3) := by decide +kernel
theorem dX12_accepts_76 : decode cX12_accepts 76 = .ok (.sipush 224, 3) := by decide +kernel
theorem dX12_accepts_79 : decode cX12_accepts 79 = .ok (.iload_n 3, 1) := by decide +kernel
theorem dX12_accepts_80 : decode cX12_accepts 80 = .ok (.iadd, 1) := by decide +kernel
theorem dX12_accepts_81 : decode cX12_accepts 81 = .ok (.iaload, 1) := by decide +kernel
theorem dX12_accepts_82 : decode cX12_accepts 82 = .ok (.aload_n 0, 1) := by decide +kernel
theorem dX12_accepts_83 : decode cX12_accepts 83 = .ok (.getfield 32, 3) := by decide +kernel
theorem dX12_accepts_86 : decode cX12_accepts 86 = .ok (.if_icmp .lt 7, 3) := by decide +kernel
theorem dX12_accepts_89 : decode cX12_accepts 89 = .ok (.iconst 1, 1) := by decide +kernel
theorem dX12_accepts_90 : decode cX12_accepts 90 = .ok (.goto 4, 3) := by decide +kernel
theorem dX12_accepts_93 : decode cX12_accepts 93 = .ok (.iconst 0, 1) := by decide +kernel
theorem dX12_accepts_94 : decode cX12_accepts 94 = .ok (.istore 4, 2) := by decide +kernel
theorem dX12_accepts_96 : decode cX12_accepts 96 = .ok (.aload_n 0, 1) := by decide +kernel
theorem dX12_accepts_97 : decode cX12_accepts 97 = .ok (.getfield 7, 3) := by decide +kernel
theorem dX12_accepts_100 : decode cX12_accepts 100 = .ok (.sipush 224, 3) := by decide +kernel
theorem dX12_accepts_103 : decode cX12_accepts 103 = .ok (.iload_n 3, 1) := by decide +kernel
theorem dX12_accepts_104 : decode cX12_accepts 104 = .ok (.iadd, 1) := by decide +kernel
theorem dX12_accepts_105 : decode cX12_accepts 105 = .ok (.iaload, 1) := by decide +kernel
theorem dX12_accepts_106 : decode cX12_accepts 106 = .ok (.aload_n 0, 1) := by decide +kernel
theorem dX12_accepts_107 : decode cX12_accepts 107 = .ok (.getfield 29, 3) := by decide +kernel
theorem dX12_accepts_110 : decode cX12_accepts 110 = .ok (.if_icmp .ge 10, 3) := by decide +kernel
theorem dX12_accepts_113 : decode cX12_accepts 113 = .ok (.iload 4, 2) := by decide +kernel
theorem dX12_accepts_115 : decode cX12_accepts 115 = .ok (.ifCond .ne 5, 3) := by decide +kernel
theorem dX12_accepts_118 : decode cX12_accepts 118 = .ok (.iconst 0, 1) := by decide +kernel
theorem dX12_accepts_119 : decode cX12_accepts 119 = .ok (.ireturn, 1) := by decide +kernel
theorem dX12_accepts_120 : decode cX12_accepts 120 = .ok (.aload_n 0, 1) := by decide +kernel
theorem dX12_accepts_121 : decode cX12_accepts 121 = .ok (.getfield 7, 3) := by decide +kernel
theorem dX12_accepts_124 : decode cX12_accepts 124 = .ok (.bipush 80, 2) := by decide +kernel
theorem dX12_accepts_126 : decode cX12_accepts 126 = .ok (.iload_n 1, 1) := by decide +kernel
theorem dX12_accepts_127 : decode cX12_accepts 127 = .ok (.iadd, 1) := by decide +kernel
theorem dX12_accepts_128 : decode cX12_accepts 128 = .ok (.dup2, 1) := by decide +kernel
theorem dX12_accepts_129 : decode cX12_accepts 129 = .ok (.iaload, 1) := by decide +kernel
theorem dX12_accepts_130 : decode cX12_accepts 130 = .ok (.iconst 1, 1) := by decide +kernel
theorem dX12_accepts_131 : decode cX12_accepts 131 = .ok (.iload_n 2, 1) := by decide +kernel
theorem dX12_accepts_132 : decode cX12_accepts 132 = .ok (.ishl, 1) := by decide +kernel
theorem dX12_accepts_133 : decode cX12_accepts 133 = .ok (.ior, 1) := by decide +kernel
theorem dX12_accepts_134 : decode cX12_accepts 134 = .ok (.iastore, 1) := by decide +kernel
theorem dX12_accepts_135 : decode cX12_accepts 135 = .ok (.iconst 0, 1) := by decide +kernel
theorem dX12_accepts_136 : decode cX12_accepts 136 = .ok (.istore 5, 2) := by decide +kernel
theorem dX12_accepts_138 : decode cX12_accepts 138 = .ok (.iload 5, 2) := by decide +kernel
theorem dX12_accepts_140 : decode cX12_accepts 140 = .ok (.aload_n 0, 1) := by decide +kernel
theorem dX12_accepts_141 : decode cX12_accepts 141 = .ok (.getfield 113, 3) := by decide +kernel
theorem dX12_accepts_144 : decode cX12_accepts 144 = .ok (.if_icmp .ge 47, 3) := by decide +kernel
theorem dX12_accepts_147 : decode cX12_accepts 147 = .ok (.iload 5, 2) := by decide +kernel
theorem dX12_accepts_149 : decode cX12_accepts 149 = .ok (.iload_n 2, 1) := by decide +kernel
theorem dX12_accepts_150 : decode cX12_accepts 150 = .ok (.if_icmp .eq 35, 3) := by decide +kernel
theorem dX12_accepts_153 : decode cX12_accepts 153 = .ok (.aload_n 0, 1) := by decide +kernel
theorem dX12_accepts_154 : decode cX12_accepts 154 = .ok (.getfield 41, 3) := by decide +kernel
theorem dX12_accepts_157 : decode cX12_accepts 157 = .ok (.iload 5, 2) := by decide +kernel
theorem dX12_accepts_159 : decode cX12_accepts 159 = .ok (.iaload, 1) := by decide +kernel
theorem dX12_accepts_160 : decode cX12_accepts 160 = .ok (.aload_n 0, 1) := by decide +kernel
theorem dX12_accepts_161 : decode cX12_accepts 161 = .ok (.getfield 41, 3) := by decide +kernel
theorem dX12_accepts_164 : decode cX12_accepts 164 = .ok (.iload_n 2, 1) := by decide +kernel
theorem dX12_accepts_165 : decode cX12_accepts 165 = .ok (.iaload, 1) := by decide +kernel
theorem dX12_accepts_166 : decode cX12_accepts 166 = .ok (.if_icmp .ne 19, 3) := by decide +kernel
theorem dX12_accepts_169 : decode cX12_accepts 169 = .ok (.aload_n 0, 1) := by decide +kernel
theorem dX12_accepts_170 : decode cX12_accepts 170 = .ok (.getfield 7, 3) := by decide +kernel
theorem dX12_accepts_173 : decode cX12_accepts 173 = .ok (.bipush 88, 2) := by decide +kernel
theorem dX12_accepts_175 : decode cX12_accepts 175 = .ok (.iload_n 1, 1) := by decide +kernel
theorem dX12_accepts_176 : decode cX12_accepts 176 = .ok (.iadd, 1) := by decide +kernel
theorem dX12_accepts_177 : decode cX12_accepts 177 = .ok (.dup2, 1) := by decide +kernel
theorem dX12_accepts_178 : decode cX12_accepts 178 = .ok (.iaload, 1) := by decide +kernel
theorem dX12_accepts_179 : decode cX12_accepts 179 = .ok (.iconst 1, 1) := by decide +kernel
theorem dX12_accepts_180 : decode cX12_accepts 180 = .ok (.iload 5, 2) := by decide +kernel
theorem dX12_accepts_182 : decode cX12_accepts 182 = .ok (.ishl, 1) := by decide +kernel
theorem dX12_accepts_183 : decode cX12_accepts 183 = .ok (.ior, 1) := by decide +kernel
theorem dX12_accepts_184 : decode cX12_accepts 184 = .ok (.iastore, 1) := by decide +kernel
theorem dX12_accepts_185 : decode cX12_accepts 185 = .ok (.iinc 5 1, 3) := by decide +kernel
theorem dX12_accepts_188 : decode cX12_accepts 188 = .ok (.goto (-50), 3) := by decide +kernel
theorem dX12_accepts_191 : decode cX12_accepts 191 = .ok (.iconst 1, 1) := by decide +kernel
theorem dX12_accepts_192 : decode cX12_accepts 192 = .ok (.ireturn, 1) := by decide +kernel
theorem dX12_isAlone_0 : decode cX12_isAlone 0 = .ok (.iconst 0, 1) := by decide +kernel
theorem dX12_isAlone_1 : decode cX12_isAlone 1 = .ok (.istore_n 2, 1) := by decide +kernel
theorem dX12_isAlone_2 : decode cX12_isAlone 2 = .ok (.iload_n 2, 1) := by decide +kernel
theorem dX12_isAlone_3 : decode cX12_isAlone 3 = .ok (.aload_n 0, 1) := by decide +kernel
theorem dX12_isAlone_4 : decode cX12_isAlone 4 = .ok (.getfield 113, 3) := by decide +kernel
theorem dX12_isAlone_7 : decode cX12_isAlone 7 = .ok (.if_icmp .ge 31, 3) := by decide +kernel
theorem dX12_isAlone_10 : decode cX12_isAlone 10 = .ok (.iload_n 2, 1) := by decide +kernel
theorem dX12_isAlone_11 : decode cX12_isAlone 11 = .ok (.iload_n 1, 1) := by decide +kernel
theorem dX12_isAlone_12 : decode cX12_isAlone 12 = .ok (.if_icmp .eq 20, 3) := by decide +kernel
theorem dX12_isAlone_15 : decode cX12_isAlone 15 = .ok (.aload_n 0, 1) := by decide +kernel
theorem dX12_isAlone_16 : decode cX12_isAlone 16 = .ok (.getfield 41, 3) := by decide +kernel
theorem dX12_isAlone_19 : decode cX12_isAlone 19 = .ok (.iload_n 2, 1) := by decide +kernel
theorem dX12_isAlone_20 : decode cX12_isAlone 20 = .ok (.iaload, 1) := by decide +kernel
theorem dX12_isAlone_21 : decode cX12_isAlone 21 = .ok (.aload_n 0, 1) := by decide +kernel
theorem dX12_isAlone_22 : decode cX12_isAlone 22 = .ok (.getfield 41, 3) := by decide +kernel
theorem dX12_isAlone_25 : decode cX12_isAlone 25 = .ok (.iload_n 1, 1) := by decide +kernel
theorem dX12_isAlone_26 : decode cX12_isAlone 26 = .ok (.iaload, 1) := by decide +kernel
theorem dX12_isAlone_27 : decode cX12_isAlone 27 = .ok (.if_icmp .ne 5, 3) := by decide +kernel
theorem dX12_isAlone_30 : decode cX12_isAlone 30 = .ok (.iconst 0, 1) := by decide +kernel
theorem dX12_isAlone_31 : decode cX12_isAlone 31 = .ok (.ireturn, 1) := by decide +kernel
theorem dX12_isAlone_32 : decode cX12_isAlone 32 = .ok (.iinc 2 1, 3) := by decide +kernel
theorem dX12_isAlone_35 : decode cX12_isAlone 35 = .ok (.goto (-33), 3) := by decide +kernel
theorem dX12_isAlone_38 : decode cX12_isAlone 38 = .ok (.iconst 1, 1) := by decide +kernel
theorem dX12_isAlone_39 : decode cX12_isAlone 39 = .ok (.ireturn, 1) := by decide +kernel
theorem dX12_areParentsAccepted_0 : decode cX12_areParentsAccepted 0 = .ok (.aload_n 0, 1) := by decide +kernel
theorem dX12_areParentsAccepted_1 : decode cX12_areParentsAccepted 1 = .ok (.getfield 44, 3) := by decide +kernel
theorem dX12_areParentsAccepted_4 : decode cX12_areParentsAccepted 4 = .ok (.iload_n 2, 1) := by decide +kernel
theorem dX12_areParentsAccepted_5 : decode cX12_areParentsAccepted 5 = .ok (.iaload, 1) := by decide +kernel
theorem dX12_areParentsAccepted_6 : decode cX12_areParentsAccepted 6 = .ok (.ifCond .lt 26, 3) := by decide +kernel
theorem dX12_areParentsAccepted_9 : decode cX12_areParentsAccepted 9 = .ok (.aload_n 0, 1) := by decide +kernel
theorem dX12_areParentsAccepted_10 : decode cX12_areParentsAccepted 10 = .ok (.getfield 7, 3) := by decide +kernel
theorem dX12_areParentsAccepted_13 : decode cX12_areParentsAccepted 13 = .ok (.bipush 80, 2) := by decide +kernel
theorem dX12_areParentsAccepted_15 : decode cX12_areParentsAccepted 15 = .ok (.iload_n 1, 1) := by decide +kernel
theorem dX12_areParentsAccepted_16 : decode cX12_areParentsAccepted 16 = .ok (.iadd, 1) := by decide +kernel
theorem dX12_areParentsAccepted_17 : decode cX12_areParentsAccepted 17 = .ok (.iaload, 1) := by decide +kernel
theorem dX12_areParentsAccepted_18 : decode cX12_areParentsAccepted 18 = .ok (.aload_n 0, 1) := by decide +kernel
theorem dX12_areParentsAccepted_19 : decode cX12_areParentsAccepted 19 = .ok (.getfield 44, 3) := by decide +kernel
theorem dX12_areParentsAccepted_22 : decode cX12_areParentsAccepted 22 = .ok (.iload_n 2, 1) := by decide +kernel
theorem dX12_areParentsAccepted_23 : decode cX12_areParentsAccepted 23 = .ok (.iaload, 1) := by decide +kernel
theorem dX12_areParentsAccepted_24 : decode cX12_areParentsAccepted 24 = .ok (.invokestatic 100, 3) := by decide +kernel
theorem dX12_areParentsAccepted_27 : decode cX12_areParentsAccepted 27 = .ok (.ifCond .ne 5, 3) := by decide +kernel
theorem dX12_areParentsAccepted_30 : decode cX12_areParentsAccepted 30 = .ok (.iconst 0, 1) := by decide +kernel
theorem dX12_areParentsAccepted_31 : decode cX12_areParentsAccepted 31 = .ok (.ireturn, 1) := by decide +kernel
theorem dX12_areParentsAccepted_32 : decode cX12_areParentsAccepted 32 = .ok (.aload_n 0, 1) := by decide +kernel
theorem dX12_areParentsAccepted_33 : decode cX12_areParentsAccepted 33 = .ok (.getfield 47, 3) := by decide +kernel
theorem dX12_areParentsAccepted_36 : decode cX12_areParentsAccepted 36 = .ok (.iload_n 2, 1) := by decide +kernel
theorem dX12_areParentsAccepted_37 : decode cX12_areParentsAccepted 37 = .ok (.iaload, 1) := by decide +kernel
theorem dX12_areParentsAccepted_38 : decode cX12_areParentsAccepted 38 = .ok (.ifCond .lt 24, 3) := by decide +kernel
theorem dX12_areParentsAccepted_41 : decode cX12_areParentsAccepted 41 = .ok (.aload_n 0, 1) := by decide +kernel
theorem dX12_areParentsAccepted_42 : decode cX12_areParentsAccepted 42 = .ok (.getfield 7, 3) := by decide +kernel
theorem dX12_areParentsAccepted_45 : decode cX12_areParentsAccepted 45 = .ok (.bipush 80, 2) := by decide +kernel
theorem dX12_areParentsAccepted_47 : decode cX12_areParentsAccepted 47 = .ok (.iload_n 1, 1) := by decide +kernel
theorem dX12_areParentsAccepted_48 : decode cX12_areParentsAccepted 48 = .ok (.iadd, 1) := by decide +kernel
theorem dX12_areParentsAccepted_49 : decode cX12_areParentsAccepted 49 = .ok (.iaload, 1) := by decide +kernel
theorem dX12_areParentsAccepted_50 : decode cX12_areParentsAccepted 50 = .ok (.aload_n 0, 1) := by decide +kernel
theorem dX12_areParentsAccepted_51 : decode cX12_areParentsAccepted 51 = .ok (.getfield 47, 3) := by decide +kernel
theorem dX12_areParentsAccepted_54 : decode cX12_areParentsAccepted 54 = .ok (.iload_n 2, 1) := by decide +kernel
theorem dX12_areParentsAccepted_55 : decode cX12_areParentsAccepted 55 = .ok (.iaload, 1) := by decide +kernel
theorem dX12_areParentsAccepted_56 : decode cX12_areParentsAccepted 56 = .ok (.invokestatic 100, 3) := by decide +kernel
theorem dX12_areParentsAccepted_59 : decode cX12_areParentsAccepted 59 = .ok (.ifCond .eq 7, 3) := by decide +kernel
theorem dX12_areParentsAccepted_62 : decode cX12_areParentsAccepted 62 = .ok (.iconst 1, 1) := by decide +kernel
theorem dX12_areParentsAccepted_63 : decode cX12_areParentsAccepted 63 = .ok (.goto 4, 3) := by decide +kernel
theorem dX12_areParentsAccepted_66 : decode cX12_areParentsAccepted 66 = .ok (.iconst 0, 1) := by decide +kernel
theorem dX12_areParentsAccepted_67 : decode cX12_areParentsAccepted 67 = .ok (.ireturn, 1) := by decide +kernel
theorem dX12_poll_0 : decode cX12_poll 0 = .ok (.aload_n 0, 1) := by decide +kernel
theorem dX12_poll_1 : decode cX12_poll 1 = .ok (.iconst 0, 1) := by decide +kernel
theorem dX12_poll_2 : decode cX12_poll 2 = .ok (.putfield 97, 3) := by decide +kernel
theorem dX12_poll_5 : decode cX12_poll 5 = .ok (.aload_n 0, 1) := by decide +kernel
theorem dX12_poll_6 : decode cX12_poll 6 = .ok (.iload_n 1, 1) := by decide +kernel
theorem dX12_poll_7 : decode cX12_poll 7 = .ok (.iload_n 2, 1) := by decide +kernel
theorem dX12_poll_8 : decode cX12_poll 8 = .ok (.iload_n 3, 1) := by decide +kernel
theorem dX12_poll_9 : decode cX12_poll 9 = .ok (.invokevirtual 345, 3) := by decide +kernel
theorem dX12_poll_12 : decode cX12_poll 12 = .ok (.ifCond .ne 5, 3) := by decide +kernel
theorem dX12_poll_15 : decode cX12_poll 15 = .ok (.iconst (-1), 1) := by decide +kernel
theorem dX12_poll_16 : decode cX12_poll 16 = .ok (.ireturn, 1) := by decide +kernel
theorem dX12_poll_17 : decode cX12_poll 17 = .ok (.aload_n 0, 1) := by decide +kernel
theorem dX12_poll_18 : decode cX12_poll 18 = .ok (.invokevirtual 124, 3) := by decide +kernel
theorem dX12_poll_21 : decode cX12_poll 21 = .ok (.aload_n 0, 1) := by decide +kernel
theorem dX12_poll_22 : decode cX12_poll 22 = .ok (.iload_n 1, 1) := by decide +kernel
theorem dX12_poll_23 : decode cX12_poll 23 = .ok (.iload_n 2, 1) := by decide +kernel
theorem dX12_poll_24 : decode cX12_poll 24 = .ok (.iload_n 3, 1) := by decide +kernel
theorem dX12_poll_25 : decode cX12_poll 25 = .ok (.invokevirtual 348, 3) := by decide +kernel
theorem dX12_poll_28 : decode cX12_poll 28 = .ok (.ireturn, 1) := by decide +kernel
theorem dX12_yes_0 : decode cX12_yes 0 = .ok (.aload_n 0, 1) := by decide +kernel
theorem dX12_yes_1 : decode cX12_yes 1 = .ok (.iconst 0, 1) := by decide +kernel
theorem dX12_yes_2 : decode cX12_yes 2 = .ok (.putfield 97, 3) := by decide +kernel
theorem dX12_yes_5 : decode cX12_yes 5 = .ok (.aload_n 0, 1) := by decide +kernel
theorem dX12_yes_6 : decode cX12_yes 6 = .ok (.iload_n 1, 1) := by decide +kernel
theorem dX12_yes_7 : decode cX12_yes 7 = .ok (.iload_n 2, 1) := by decide +kernel
theorem dX12_yes_8 : decode cX12_yes 8 = .ok (.iload_n 3, 1) := by decide +kernel
theorem dX12_yes_9 : decode cX12_yes 9 = .ok (.invokevirtual 345, 3) := by decide +kernel
theorem dX12_yes_12 : decode cX12_yes 12 = .ok (.ifCond .eq 13, 3) := by decide +kernel
theorem dX12_yes_15 : decode cX12_yes 15 = .ok (.aload_n 0, 1) := by decide +kernel
theorem dX12_yes_16 : decode cX12_yes 16 = .ok (.iload_n 1, 1) := by decide +kernel
theorem dX12_yes_17 : decode cX12_yes 17 = .ok (.iload_n 2, 1) := by decide +kernel
theorem dX12_yes_18 : decode cX12_yes 18 = .ok (.iload_n 3, 1) := by decide +kernel
theorem dX12_yes_19 : decode cX12_yes 19 = .ok (.invokevirtual 325, 3) := by decide +kernel
theorem dX12_yes_22 : decode cX12_yes 22 = .ok (.goto 4, 3) := by decide +kernel
theorem dX12_yes_25 : decode cX12_yes 25 = .ok (.iconst (-1), 1) := by decide +kernel
theorem dX12_yes_26 : decode cX12_yes 26 = .ok (.ireturn, 1) := by decide +kernel
theorem dX12_polls_0 : decode cX12_polls 0 = .ok (.aload_n 0, 1) := by decide +kernel
theorem dX12_polls_1 : decode cX12_polls 1 = .ok (.iconst 0, 1) := by decide +kernel
theorem dX12_polls_2 : decode cX12_polls 2 = .ok (.putfield 97, 3) := by decide +kernel
theorem dX12_polls_5 : decode cX12_polls 5 = .ok (.iload_n 1, 1) := by decide +kernel
theorem dX12_polls_6 : decode cX12_polls 6 = .ok (.iconst 1, 1) := by decide +kernel
theorem dX12_polls_7 : decode cX12_polls 7 = .ok (.bipush 100, 2) := by decide +kernel
theorem dX12_polls_9 : decode cX12_polls 9 = .ok (.invokestatic 116, 3) := by decide +kernel
theorem dX12_polls_12 : decode cX12_polls 12 = .ok (.ifCond .ne 5, 3) := by decide +kernel
theorem dX12_polls_15 : decode cX12_polls 15 = .ok (.iconst (-1), 1) := by decide +kernel
theorem dX12_polls_16 : decode cX12_polls 16 = .ok (.ireturn, 1) := by decide +kernel
theorem dX12_polls_17 : decode cX12_polls 17 = .ok (.aload_n 0, 1) := by decide +kernel
theorem dX12_polls_18 : decode cX12_polls 18 = .ok (.invokevirtual 124, 3) := by decide +kernel
theorem dX12_polls_21 : decode cX12_polls 21 = .ok (.aload_n 0, 1) := by decide +kernel
theorem dX12_polls_22 : decode cX12_polls 22 = .ok (.iload_n 2, 1) := by decide +kernel
theorem dX12_polls_23 : decode cX12_polls 23 = .ok (.putfield 152, 3) := by decide +kernel
theorem dX12_polls_26 : decode cX12_polls 26 = .ok (.iconst 0, 1) := by decide +kernel
theorem dX12_polls_27 : decode cX12_polls 27 = .ok (.istore_n 3, 1) := by decide +kernel
theorem dX12_polls_28 : decode cX12_polls 28 = .ok (.iconst 0, 1) := by decide +kernel
theorem dX12_polls_29 : decode cX12_polls 29 = .ok (.istore 4, 2) := by decide +kernel
theorem dX12_polls_31 : decode cX12_polls 31 = .ok (.iload 4, 2) := by decide +kernel
theorem dX12_polls_33 : decode cX12_polls 33 = .ok (.iload_n 1, 1) := by decide +kernel
theorem dX12_polls_34 : decode cX12_polls 34 = .ok (.if_icmp .ge 121, 3) := by decide +kernel
theorem dX12_polls_37 : decode cX12_polls 37 = .ok (.aload_n 0, 1) := by decide +kernel
theorem dX12_polls_38 : decode cX12_polls 38 = .ok (.aload_n 0, 1) := by decide +kernel
theorem dX12_polls_39 : decode cX12_polls 39 = .ok (.getfield 19, 3) := by decide +kernel
theorem dX12_polls_42 : decode cX12_polls 42 = .ok (.invokevirtual 156, 3) := by decide +kernel
theorem dX12_polls_45 : decode cX12_polls 45 = .ok (.istore 5, 2) := by decide +kernel
theorem dX12_polls_47 : decode cX12_polls 47 = .ok (.iconst 1, 1) := by decide +kernel
theorem dX12_polls_48 : decode cX12_polls 48 = .ok (.aload_n 0, 1) := by decide +kernel
theorem dX12_polls_49 : decode cX12_polls 49 = .ok (.getfield 113, 3) := by decide +kernel
theorem dX12_polls_52 : decode cX12_polls 52 = .ok (.ishl, 1) := by decide +kernel
theorem dX12_polls_53 : decode cX12_polls 53 = .ok (.iconst 1, 1) := by decide +kernel
theorem dX12_polls_54 : decode cX12_polls 54 = .ok (.isub, 1) := by decide +kernel
theorem dX12_polls_55 : decode cX12_polls 55 = .ok (.aload_n 0, 1) := by decide +kernel
theorem dX12_polls_56 : decode cX12_polls 56 = .ok (.getfield 7, 3) := by decide +kernel
theorem dX12_polls_59 : decode cX12_polls 59 = .ok (.bipush 72, 2) := by decide +kernel
theorem dX12_polls_61 : decode cX12_polls 61 = .ok (.iload 5, 2) := by decide +kernel
theorem dX12_polls_63 : decode cX12_polls 63 = .ok (.iadd, 1) := by decide +kernel
theorem dX12_polls_64 : decode cX12_polls 64 = .ok (.iaload, 1) := by decide +kernel
theorem dX12_polls_65 : decode cX12_polls 65 = .ok (.iconst (-1), 1) := by decide +kernel
theorem dX12_polls_66 : decode cX12_polls 66 = .ok (.ixor, 1) := by decide +kernel
theorem dX12_polls_67 : decode cX12_polls 67 = .ok (.iand, 1) := by decide +kernel
theorem dX12_polls_68 : decode cX12_polls 68 = .ok (.istore 6, 2) := by decide +kernel
theorem dX12_polls_70 : decode cX12_polls 70 = .ok (.aload_n 0, 1) := by decide +kernel
theorem dX12_polls_71 : decode cX12_polls 71 = .ok (.getfield 7, 3) := by decide +kernel
theorem dX12_polls_74 : decode cX12_polls 74 = .ok (.bipush 48, 2) := by decide +kernel
theorem dX12_polls_76 : decode cX12_polls 76 = .ok (.iload 5, 2) := by decide +kernel
theorem dX12_polls_78 : decode cX12_polls 78 = .ok (.iadd, 1) := by decide +kernel
theorem dX12_polls_79 : decode cX12_polls 79 = .ok (.iaload, 1) := by decide +kernel
theorem dX12_polls_80 : decode cX12_polls 80 = .ok (.ifCond .ne 69, 3) := by decide +kernel
theorem dX12_polls_83 : decode cX12_polls 83 = .ok (.iload 6, 2) := by decide +kernel
theorem dX12_polls_85 : decode cX12_polls 85 = .ok (.ifCond .ne 6, 3) := by decide +kernel
theorem dX12_polls_88 : decode cX12_polls 88 = .ok (.goto 61, 3) := by decide +kernel
theorem dX12_polls_91 : decode cX12_polls 91 = .ok (.iload 6, 2) := by decide +kernel
theorem dX12_polls_93 : decode cX12_polls 93 = .ok (.aload_n 0, 1) := by decide +kernel
theorem dX12_polls_94 : decode cX12_polls 94 = .ok (.iload 6, 2) := by decide +kernel
theorem dX12_polls_96 : decode cX12_polls 96 = .ok (.invokestatic 127, 3) := by decide +kernel
theorem dX12_polls_99 : decode cX12_polls 99 = .ok (.invokevirtual 156, 3) := by decide +kernel
theorem dX12_polls_102 : decode cX12_polls 102 = .ok (.invokestatic 159, 3) := by decide +kernel
theorem dX12_polls_105 : decode cX12_polls 105 = .ok (.istore 7, 2) := by decide +kernel
theorem dX12_polls_107 : decode cX12_polls 107 = .ok (.aload_n 0, 1) := by decide +kernel
theorem dX12_polls_108 : decode cX12_polls 108 = .ok (.iload 5, 2) := by decide +kernel
theorem dX12_polls_110 : decode cX12_polls 110 = .ok (.invokevirtual 162, 3) := by decide +kernel
theorem dX12_polls_113 : decode cX12_polls 113 = .ok (.istore 8, 2) := by decide +kernel
theorem dX12_polls_115 : decode cX12_polls 115 = .ok (.aload_n 0, 1) := by decide +kernel
theorem dX12_polls_116 : decode cX12_polls 116 = .ok (.iload 5, 2) := by decide +kernel
theorem dX12_polls_118 : decode cX12_polls 118 = .ok (.iload 7, 2) := by decide +kernel
theorem dX12_polls_120 : decode cX12_polls 120 = .ok (.iload 8, 2) := by decide +kernel
theorem dX12_polls_122 : decode cX12_polls 122 = .ok (.invokevirtual 348, 3) := by decide +kernel
theorem dX12_polls_125 : decode cX12_polls 125 = .ok (.ifCond .le 24, 3) := by decide +kernel
theorem dX12_polls_128 : decode cX12_polls 128 = .ok (.aload_n 0, 1) := by decide +kernel
theorem dX12_polls_129 : decode cX12_polls 129 = .ok (.getfield 7, 3) := by decide +kernel
theorem dX12_polls_132 : decode cX12_polls 132 = .ok (.bipush 64, 2) := by decide +kernel
theorem dX12_polls_134 : decode cX12_polls 134 = .ok (.iload 5, 2) := by decide +kernel
theorem dX12_polls_136 : decode cX12_polls 136 = .ok (.iadd, 1) := by decide +kernel
theorem dX12_polls_137 : decode cX12_polls 137 = .ok (.iaload, 1) := by decide +kernel
theorem dX12_polls_138 : decode cX12_polls 138 = .ok (.iload 7, 2) := by decide +kernel
theorem dX12_polls_140 : decode cX12_polls 140 = .ok (.invokestatic 100, 3) := by decide +kernel
theorem dX12_polls_143 : decode cX12_polls 143 = .ok (.ifCond .eq 6, 3) := by decide +kernel
theorem dX12_polls_146 : decode cX12_polls 146 = .ok (.iinc 3 1, 3) := by decide +kernel
theorem dX12_polls_149 : decode cX12_polls 149 = .ok (.iinc 4 1, 3) := by decide +kernel
theorem dX12_polls_152 : decode cX12_polls 152 = .ok (.goto (-121), 3) := by decide +kernel
theorem dX12_polls_155 : decode cX12_polls 155 = .ok (.iload_n 3, 1) := by decide +kernel
theorem dX12_polls_156 : decode cX12_polls 156 = .ok (.ireturn, 1) := by decide +kernel
theorem dX12_deepOf_0 : decode cX12_deepOf 0 = .ok (.iconst (-1), 1) := by decide +kernel
theorem dX12_deepOf_1 : decode cX12_deepOf 1 = .ok (.istore_n 2, 1) := by decide +kernel
theorem dX12_deepOf_2 : decode cX12_deepOf 2 = .ok (.aload_n 0, 1) := by decide +kernel
theorem dX12_deepOf_3 : decode cX12_deepOf 3 = .ok (.getfield 44, 3) := by decide +kernel
theorem dX12_deepOf_6 : decode cX12_deepOf 6 = .ok (.iload_n 1, 1) := by decide +kernel
theorem dX12_deepOf_7 : decode cX12_deepOf 7 = .ok (.iaload, 1) := by decide +kernel
theorem dX12_deepOf_8 : decode cX12_deepOf 8 = .ok (.ifCond .lt 14, 3) := by decide +kernel
theorem dX12_deepOf_11 : decode cX12_deepOf 11 = .ok (.aload_n 0, 1) := by decide +kernel
theorem dX12_deepOf_12 : decode cX12_deepOf 12 = .ok (.aload_n 0, 1) := by decide +kernel
theorem dX12_deepOf_13 : decode cX12_deepOf 13 = .ok (.getfield 44, 3) := by decide +kernel
