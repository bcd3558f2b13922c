theorem dX7_likely_83 : decode cX7_likely 83 = .ok (.i2l, 1) := by decide +kernel
theorem dX7_likely_84 : decode cX7_likely 84 = .ok (.lstore 11, 2) := by decide +kernel
theorem dX7_likely_86 : decode cX7_likely 86 = .ok (.lload 7, 2) := by decide +kernel
theorem dX7_likely_88 : decode cX7_likely 88 = .ok (.lload 11, 2) := by decide +kernel
theorem dX7_likely_90 : decode cX7_likely 90 = .ok (.ladd, 1) := by decide +kernel
theorem dX7_likely_91 : decode cX7_likely 91 = .ok (.lstore 7, 2) := by decide +kernel
theorem dX7_likely_93 : decode cX7_likely 93 = .ok (.iload 10, 2) := by decide +kernel
theorem dX7_likely_95 : decode cX7_likely 95 = .ok (.iload_n 1, 1) := by decide +kernel
theorem dX7_likely_96 : decode cX7_likely 96 = .ok (.invokestatic 154, 3) := by decide +kernel
theorem dX7_likely_99 : decode cX7_likely 99 = .ok (.iconst 1, 1) := by decide +kernel
theorem dX7_likely_100 : decode cX7_likely 100 = .ok (.iload_n 2, 1) := by decide +kernel
theorem dX7_likely_101 : decode cX7_likely 101 = .ok (.ishl, 1) := by decide +kernel
theorem dX7_likely_102 : decode cX7_likely 102 = .ok (.iand, 1) := by decide +kernel
theorem dX7_likely_103 : decode cX7_likely 103 = .ok (.ifCond .eq 10, 3) := by decide +kernel
theorem dX7_likely_106 : decode cX7_likely 106 = .ok (.lload 5, 2) := by decide +kernel
theorem dX7_likely_108 : decode cX7_likely 108 = .ok (.lload 11, 2) := by decide +kernel
theorem dX7_likely_110 : decode cX7_likely 110 = .ok (.ladd, 1) := by decide +kernel
theorem dX7_likely_111 : decode cX7_likely 111 = .ok (.lstore 5, 2) := by decide +kernel
theorem dX7_likely_113 : decode cX7_likely 113 = .ok (.iinc 9 1, 3) := by decide +kernel
theorem dX7_likely_116 : decode cX7_likely 116 = .ok (.goto (-61), 3) := by decide +kernel
theorem dX7_likely_119 : decode cX7_likely 119 = .ok (.lload 5, 2) := by decide +kernel
theorem dX7_likely_121 : decode cX7_likely 121 = .ok (.lload 7, 2) := by decide +kernel
theorem dX7_likely_123 : decode cX7_likely 123 = .ok (.iload_n 3, 1) := by decide +kernel
theorem dX7_likely_124 : decode cX7_likely 124 = .ok (.invokestatic 219, 3) := by decide +kernel
theorem dX7_likely_127 : decode cX7_likely 127 = .ok (.lreturn, 1) := by decide +kernel
theorem dX7_sure_0 : decode cX7_sure 0 = .ok (.aload_n 0, 1) := by decide +kernel
theorem dX7_sure_1 : decode cX7_sure 1 = .ok (.iload_n 1, 1) := by decide +kernel
theorem dX7_sure_2 : decode cX7_sure 2 = .ok (.invokevirtual 139, 3) := by decide +kernel
theorem dX7_sure_5 : decode cX7_sure 5 = .ok (.ifCond .ne 5, 3) := by decide +kernel
theorem dX7_sure_8 : decode cX7_sure 8 = .ok (.iconst (-1), 1) := by decide +kernel
theorem dX7_sure_9 : decode cX7_sure 9 = .ok (.ireturn, 1) := by decide +kernel
theorem dX7_sure_10 : decode cX7_sure 10 = .ok (.aload_n 0, 1) := by decide +kernel
theorem dX7_sure_11 : decode cX7_sure 11 = .ok (.invokevirtual 208, 3) := by decide +kernel
theorem dX7_sure_14 : decode cX7_sure 14 = .ok (.astore_n 3, 1) := by decide +kernel
theorem dX7_sure_15 : decode cX7_sure 15 = .ok (.iconst 1, 1) := by decide +kernel
theorem dX7_sure_16 : decode cX7_sure 16 = .ok (.aload_n 0, 1) := by decide +kernel
theorem dX7_sure_17 : decode cX7_sure 17 = .ok (.getfield 19, 3) := by decide +kernel
theorem dX7_sure_20 : decode cX7_sure 20 = .ok (.getfield 112, 3) := by decide +kernel
theorem dX7_sure_23 : decode cX7_sure 23 = .ok (.getfield 167, 3) := by decide +kernel
theorem dX7_sure_26 : decode cX7_sure 26 = .ok (.ishl, 1) := by decide +kernel
theorem dX7_sure_27 : decode cX7_sure 27 = .ok (.iconst 1, 1) := by decide +kernel
theorem dX7_sure_28 : decode cX7_sure 28 = .ok (.isub, 1) := by decide +kernel
theorem dX7_sure_29 : decode cX7_sure 29 = .ok (.istore 4, 2) := by decide +kernel
theorem dX7_sure_31 : decode cX7_sure 31 = .ok (.iconst 0, 1) := by decide +kernel
theorem dX7_sure_32 : decode cX7_sure 32 = .ok (.istore 5, 2) := by decide +kernel
theorem dX7_sure_34 : decode cX7_sure 34 = .ok (.iload 5, 2) := by decide +kernel
theorem dX7_sure_36 : decode cX7_sure 36 = .ok (.aload_n 3, 1) := by decide +kernel
theorem dX7_sure_37 : decode cX7_sure 37 = .ok (.getfield 106, 3) := by decide +kernel
theorem dX7_sure_40 : decode cX7_sure 40 = .ok (.if_icmp .ge 39, 3) := by decide +kernel
theorem dX7_sure_43 : decode cX7_sure 43 = .ok (.aload_n 3, 1) := by decide +kernel
theorem dX7_sure_44 : decode cX7_sure 44 = .ok (.iload 5, 2) := by decide +kernel
theorem dX7_sure_46 : decode cX7_sure 46 = .ok (.invokevirtual 161, 3) := by decide +kernel
theorem dX7_sure_49 : decode cX7_sure 49 = .ok (.iload_n 1, 1) := by decide +kernel
theorem dX7_sure_50 : decode cX7_sure 50 = .ok (.invokestatic 154, 3) := by decide +kernel
theorem dX7_sure_53 : decode cX7_sure 53 = .ok (.istore 6, 2) := by decide +kernel
theorem dX7_sure_55 : decode cX7_sure 55 = .ok (.iload 4, 2) := by decide +kernel
theorem dX7_sure_57 : decode cX7_sure 57 = .ok (.iload_n 2, 1) := by decide +kernel
theorem dX7_sure_58 : decode cX7_sure 58 = .ok (.ifCond .eq 10, 3) := by decide +kernel
theorem dX7_sure_61 : decode cX7_sure 61 = .ok (.iload 6, 2) := by decide +kernel
theorem dX7_sure_63 : decode cX7_sure 63 = .ok (.iconst (-1), 1) := by decide +kernel
theorem dX7_sure_64 : decode cX7_sure 64 = .ok (.ixor, 1) := by decide +kernel
theorem dX7_sure_65 : decode cX7_sure 65 = .ok (.goto 5, 3) := by decide +kernel
theorem dX7_sure_68 : decode cX7_sure 68 = .ok (.iload 6, 2) := by decide +kernel
theorem dX7_sure_70 : decode cX7_sure 70 = .ok (.iand, 1) := by decide +kernel
theorem dX7_sure_71 : decode cX7_sure 71 = .ok (.istore 4, 2) := by decide +kernel
theorem dX7_sure_73 : decode cX7_sure 73 = .ok (.iinc 5 1, 3) := by decide +kernel
theorem dX7_sure_76 : decode cX7_sure 76 = .ok (.goto (-42), 3) := by decide +kernel
theorem dX7_sure_79 : decode cX7_sure 79 = .ok (.iload 4, 2) := by decide +kernel
theorem dX7_sure_81 : decode cX7_sure 81 = .ok (.ireturn, 1) := by decide +kernel
theorem dX7_judge_0 : decode cX7_judge 0 = .ok (.aload_n 0, 1) := by decide +kernel
theorem dX7_judge_1 : decode cX7_judge 1 = .ok (.invokevirtual 208, 3) := by decide +kernel
theorem dX7_judge_4 : decode cX7_judge 4 = .ok (.pop, 1) := by decide +kernel
theorem dX7_judge_5 : decode cX7_judge 5 = .ok (.aload_n 0, 1) := by decide +kernel
theorem dX7_judge_6 : decode cX7_judge 6 = .ok (.getfield 73, 3) := by decide +kernel
theorem dX7_judge_9 : decode cX7_judge 9 = .ok (.ireturn, 1) := by decide +kernel
theorem dX7_guess_0 : decode cX7_guess 0 = .ok (.aload_n 0, 1) := by decide +kernel
theorem dX7_guess_1 : decode cX7_guess 1 = .ok (.iload_n 1, 1) := by decide +kernel
theorem dX7_guess_2 : decode cX7_guess 2 = .ok (.invokevirtual 139, 3) := by decide +kernel
theorem dX7_guess_5 : decode cX7_guess 5 = .ok (.ifCond .eq 11, 3) := by decide +kernel
theorem dX7_guess_8 : decode cX7_guess 8 = .ok (.iload_n 2, 1) := by decide +kernel
theorem dX7_guess_9 : decode cX7_guess 9 = .ok (.iconst 3, 1) := by decide +kernel
theorem dX7_guess_10 : decode cX7_guess 10 = .ok (.invokestatic 170, 3) := by decide +kernel
theorem dX7_guess_13 : decode cX7_guess 13 = .ok (.ifCond .ne 7, 3) := by decide +kernel
theorem dX7_guess_16 : decode cX7_guess 16 = .ok (.ldc2_w 212, 3) := by decide +kernel
theorem dX7_guess_19 : decode cX7_guess 19 = .ok (.lreturn, 1) := by decide +kernel
theorem dX7_guess_20 : decode cX7_guess 20 = .ok (.aload_n 0, 1) := by decide +kernel
theorem dX7_guess_21 : decode cX7_guess 21 = .ok (.invokevirtual 208, 3) := by decide +kernel
theorem dX7_guess_24 : decode cX7_guess 24 = .ok (.astore_n 3, 1) := by decide +kernel
theorem dX7_guess_25 : decode cX7_guess 25 = .ok (.aload_n 3, 1) := by decide +kernel
theorem dX7_guess_26 : decode cX7_guess 26 = .ok (.getfield 106, 3) := by decide +kernel
theorem dX7_guess_29 : decode cX7_guess 29 = .ok (.ifCond .ne 7, 3) := by decide +kernel
theorem dX7_guess_32 : decode cX7_guess 32 = .ok (.ldc2_w 214, 3) := by decide +kernel
theorem dX7_guess_35 : decode cX7_guess 35 = .ok (.lreturn, 1) := by decide +kernel
theorem dX7_guess_36 : decode cX7_guess 36 = .ok (.aload_n 0, 1) := by decide +kernel
theorem dX7_guess_37 : decode cX7_guess 37 = .ok (.aload_n 3, 1) := by decide +kernel
theorem dX7_guess_38 : decode cX7_guess 38 = .ok (.iload_n 1, 1) := by decide +kernel
theorem dX7_guess_39 : decode cX7_guess 39 = .ok (.invokevirtual 223, 3) := by decide +kernel
theorem dX7_guess_42 : decode cX7_guess 42 = .ok (.lstore 4, 2) := by decide +kernel
theorem dX7_guess_44 : decode cX7_guess 44 = .ok (.iconst 0, 1) := by decide +kernel
theorem dX7_guess_45 : decode cX7_guess 45 = .ok (.istore 6, 2) := by decide +kernel
theorem dX7_guess_47 : decode cX7_guess 47 = .ok (.iconst 1, 1) := by decide +kernel
theorem dX7_guess_48 : decode cX7_guess 48 = .ok (.istore 7, 2) := by decide +kernel
theorem dX7_guess_50 : decode cX7_guess 50 = .ok (.iload 7, 2) := by decide +kernel
theorem dX7_guess_52 : decode cX7_guess 52 = .ok (.aload_n 0, 1) := by decide +kernel
theorem dX7_guess_53 : decode cX7_guess 53 = .ok (.getfield 65, 3) := by decide +kernel
theorem dX7_guess_56 : decode cX7_guess 56 = .ok (.arraylength, 1) := by decide +kernel
theorem dX7_guess_57 : decode cX7_guess 57 = .ok (.if_icmp .ge 31, 3) := by decide +kernel
theorem dX7_guess_60 : decode cX7_guess 60 = .ok (.aload_n 0, 1) := by decide +kernel
theorem dX7_guess_61 : decode cX7_guess 61 = .ok (.getfield 65, 3) := by decide +kernel
theorem dX7_guess_64 : decode cX7_guess 64 = .ok (.iload 7, 2) := by decide +kernel
theorem dX7_guess_66 : decode cX7_guess 66 = .ok (.laload, 1) := by decide +kernel
theorem dX7_guess_67 : decode cX7_guess 67 = .ok (.aload_n 0, 1) := by decide +kernel
theorem dX7_guess_68 : decode cX7_guess 68 = .ok (.getfield 65, 3) := by decide +kernel
theorem dX7_guess_71 : decode cX7_guess 71 = .ok (.iload 6, 2) := by decide +kernel
theorem dX7_guess_73 : decode cX7_guess 73 = .ok (.laload, 1) := by decide +kernel
theorem dX7_guess_74 : decode cX7_guess 74 = .ok (.lcmp, 1) := by decide +kernel
theorem dX7_guess_75 : decode cX7_guess 75 = .ok (.ifCond .le 7, 3) := by decide +kernel
theorem dX7_guess_78 : decode cX7_guess 78 = .ok (.iload 7, 2) := by decide +kernel
theorem dX7_guess_80 : decode cX7_guess 80 = .ok (.istore 6, 2) := by decide +kernel
theorem dX7_guess_82 : decode cX7_guess 82 = .ok (.iinc 7 1, 3) := by decide +kernel
theorem dX7_guess_85 : decode cX7_guess 85 = .ok (.goto (-35), 3) := by decide +kernel
theorem dX7_guess_88 : decode cX7_guess 88 = .ok (.iload_n 2, 1) := by decide +kernel
theorem dX7_guess_89 : decode cX7_guess 89 = .ok (.ifCond .ne 9, 3) := by decide +kernel
theorem dX7_guess_92 : decode cX7_guess 92 = .ok (.iload 6, 2) := by decide +kernel
theorem dX7_guess_94 : decode cX7_guess 94 = .ok (.i2l, 1) := by decide +kernel
theorem dX7_guess_95 : decode cX7_guess 95 = .ok (.goto 18, 3) := by decide +kernel
theorem dX7_guess_98 : decode cX7_guess 98 = .ok (.aload_n 0, 1) := by decide +kernel
theorem dX7_guess_99 : decode cX7_guess 99 = .ok (.getfield 65, 3) := by decide +kernel
theorem dX7_guess_102 : decode cX7_guess 102 = .ok (.iload 6, 2) := by decide +kernel
theorem dX7_guess_104 : decode cX7_guess 104 = .ok (.laload, 1) := by decide +kernel
theorem dX7_guess_105 : decode cX7_guess 105 = .ok (.lload 4, 2) := by decide +kernel
theorem dX7_guess_107 : decode cX7_guess 107 = .ok (.iload_n 2, 1) := by decide +kernel
theorem dX7_guess_108 : decode cX7_guess 108 = .ok (.iconst 1, 1) := by decide +kernel
theorem dX7_guess_109 : decode cX7_guess 109 = .ok (.isub, 1) := by decide +kernel
theorem dX7_guess_110 : decode cX7_guess 110 = .ok (.invokestatic 219, 3) := by decide +kernel
theorem dX7_guess_113 : decode cX7_guess 113 = .ok (.lreturn, 1) := by decide +kernel
theorem dX7_next_0 : decode cX7_next 0 = .ok (.iload_n 1, 1) := by decide +kernel
theorem dX7_next_1 : decode cX7_next 1 = .ok (.iconst 2, 1) := by decide +kernel
theorem dX7_next_2 : decode cX7_next 2 = .ok (.invokestatic 170, 3) := by decide +kernel
theorem dX7_next_5 : decode cX7_next 5 = .ok (.ifCond .ne 5, 3) := by decide +kernel
theorem dX7_next_8 : decode cX7_next 8 = .ok (.iconst (-1), 1) := by decide +kernel
theorem dX7_next_9 : decode cX7_next 9 = .ok (.ireturn, 1) := by decide +kernel
theorem dX7_next_10 : decode cX7_next 10 = .ok (.aload_n 0, 1) := by decide +kernel
theorem dX7_next_11 : decode cX7_next 11 = .ok (.invokevirtual 208, 3) := by decide +kernel
theorem dX7_next_14 : decode cX7_next 14 = .ok (.astore_n 2, 1) := by decide +kernel
theorem dX7_next_15 : decode cX7_next 15 = .ok (.aload_n 2, 1) := by decide +kernel
theorem dX7_next_16 : decode cX7_next 16 = .ok (.getfield 106, 3) := by decide +kernel
theorem dX7_next_19 : decode cX7_next 19 = .ok (.ifCond .ne 6, 3) := by decide +kernel
theorem dX7_next_22 : decode cX7_next 22 = .ok (.bipush (-4), 2) := by decide +kernel
theorem dX7_next_24 : decode cX7_next 24 = .ok (.ireturn, 1) := by decide +kernel
theorem dX7_next_25 : decode cX7_next 25 = .ok (.aload_n 0, 1) := by decide +kernel
theorem dX7_next_26 : decode cX7_next 26 = .ok (.getfield 42, 3) := by decide +kernel
theorem dX7_next_29 : decode cX7_next 29 = .ok (.aload_n 0, 1) := by decide +kernel
theorem dX7_next_30 : decode cX7_next 30 = .ok (.getfield 19, 3) := by decide +kernel
theorem dX7_next_33 : decode cX7_next 33 = .ok (.aload_n 2, 1) := by decide +kernel
theorem dX7_next_34 : decode cX7_next 34 = .ok (.invokevirtual 227, 3) := by decide +kernel
theorem dX7_next_37 : decode cX7_next 37 = .ok (.iload_n 1, 1) := by decide +kernel
theorem dX7_next_38 : decode cX7_next 38 = .ok (.ifCond .ne 13, 3) := by decide +kernel
theorem dX7_next_41 : decode cX7_next 41 = .ok (.aload_n 0, 1) := by decide +kernel
theorem dX7_next_42 : decode cX7_next 42 = .ok (.getfield 42, 3) := by decide +kernel
theorem dX7_next_45 : decode cX7_next 45 = .ok (.getfield 231, 3) := by decide +kernel
theorem dX7_next_48 : decode cX7_next 48 = .ok (.goto 10, 3) := by decide +kernel
theorem dX7_next_51 : decode cX7_next 51 = .ok (.aload_n 0, 1) := by decide +kernel
theorem dX7_next_52 : decode cX7_next 52 = .ok (.getfield 42, 3) := by decide +kernel
theorem dX7_next_55 : decode cX7_next 55 = .ok (.getfield 234, 3) := by decide +kernel
theorem dX7_next_58 : decode cX7_next 58 = .ok (.ireturn, 1) := by decide +kernel
theorem dX7_few_0 : decode cX7_few 0 = .ok (.aload_n 0, 1) := by decide +kernel
theorem dX7_few_1 : decode cX7_few 1 = .ok (.iload_n 1, 1) := by decide +kernel
theorem dX7_few_2 : decode cX7_few 2 = .ok (.invokevirtual 139, 3) := by decide +kernel
theorem dX7_few_5 : decode cX7_few 5 = .ok (.ifCond .ne 5, 3) := by decide +kernel
theorem dX7_few_8 : decode cX7_few 8 = .ok (.iconst (-1), 1) := by decide +kernel
theorem dX7_few_9 : decode cX7_few 9 = .ok (.ireturn, 1) := by decide +kernel
theorem dX7_few_10 : decode cX7_few 10 = .ok (.aload_n 0, 1) := by decide +kernel
theorem dX7_few_11 : decode cX7_few 11 = .ok (.getfield 42, 3) := by decide +kernel
theorem dX7_few_14 : decode cX7_few 14 = .ok (.aload_n 0, 1) := by decide +kernel
theorem dX7_few_15 : decode cX7_few 15 = .ok (.getfield 19, 3) := by decide +kernel
theorem dX7_few_18 : decode cX7_few 18 = .ok (.aload_n 0, 1) := by decide +kernel
theorem dX7_few_19 : decode cX7_few 19 = .ok (.invokevirtual 208, 3) := by decide +kernel
theorem dX7_few_22 : decode cX7_few 22 = .ok (.aload_n 0, 1) := by decide +kernel
theorem dX7_few_23 : decode cX7_few 23 = .ok (.getfield 36, 3) := by decide +kernel
theorem dX7_few_26 : decode cX7_few 26 = .ok (.iload_n 1, 1) := by decide +kernel
theorem dX7_few_27 : decode cX7_few 27 = .ok (.invokevirtual 237, 3) := by decide +kernel
theorem dX7_few_30 : decode cX7_few 30 = .ok (.ireturn, 1) := by decide +kernel
theorem dX7_solved_0 : decode cX7_solved 0 = .ok (.iload_n 1, 1) := by decide +kernel
theorem dX7_solved_1 : decode cX7_solved 1 = .ok (.iconst 2, 1) := by decide +kernel
theorem dX7_solved_2 : decode cX7_solved 2 = .ok (.invokestatic 170, 3) := by decide +kernel
theorem dX7_solved_5 : decode cX7_solved 5 = .ok (.ifCond .ne 5, 3) := by decide +kernel
theorem dX7_solved_8 : decode cX7_solved 8 = .ok (.iconst (-1), 1) := by decide +kernel
theorem dX7_solved_9 : decode cX7_solved 9 = .ok (.ireturn, 1) := by decide +kernel
theorem dX7_solved_10 : decode cX7_solved 10 = .ok (.aload_n 0, 1) := by decide +kernel
theorem dX7_solved_11 : decode cX7_solved 11 = .ok (.aload_n 0, 1) := by decide +kernel
theorem dX7_solved_12 : decode cX7_solved 12 = .ok (.invokevirtual 208, 3) := by decide +kernel
theorem dX7_solved_15 : decode cX7_solved 15 = .ok (.aload_n 0, 1) := by decide +kernel
theorem dX7_solved_16 : decode cX7_solved 16 = .ok (.getfield 49, 3) := by decide +kernel
theorem dX7_solved_19 : decode cX7_solved 19 = .ok (.getfield 151, 3) := by decide +kernel
theorem dX7_solved_22 : decode cX7_solved 22 = .ok (.iload_n 1, 1) := by decide +kernel
theorem dX7_solved_23 : decode cX7_solved 23 = .ok (.invokevirtual 241, 3) := by decide +kernel
theorem dX7_solved_26 : decode cX7_solved 26 = .ok (.ireturn, 1) := by decide +kernel
theorem dX7_risk_0 : decode cX7_risk 0 = .ok (.iload_n 1, 1) := by decide +kernel
theorem dX7_risk_1 : decode cX7_risk 1 = .ok (.iconst 2, 1) := by decide +kernel
theorem dX7_risk_2 : decode cX7_risk 2 = .ok (.invokestatic 170, 3) := by decide +kernel
theorem dX7_risk_5 : decode cX7_risk 5 = .ok (.ifCond .ne 7, 3) := by decide +kernel
theorem dX7_risk_8 : decode cX7_risk 8 = .ok (.ldc2_w 212, 3) := by decide +kernel
theorem dX7_risk_11 : decode cX7_risk 11 = .ok (.lreturn, 1) := by decide +kernel
theorem dX7_risk_12 : decode cX7_risk 12 = .ok (.lconst 1, 1) := by decide +kernel
theorem dX7_risk_13 : decode cX7_risk 13 = .ok (.lstore_n 2, 1) := by decide +kernel
theorem dX7_risk_14 : decode cX7_risk 14 = .ok (.lconst 1, 1) := by decide +kernel
theorem dX7_risk_15 : decode cX7_risk 15 = .ok (.lstore 4, 2) := by decide +kernel
theorem dX7_risk_17 : decode cX7_risk 17 = .ok (.iconst 0, 1) := by decide +kernel
theorem dX7_risk_18 : decode cX7_risk 18 = .ok (.istore 6, 2) := by decide +kernel
theorem dX7_risk_20 : decode cX7_risk 20 = .ok (.iload 6, 2) := by decide +kernel
theorem dX7_risk_22 : decode cX7_risk 22 = .ok (.aload_n 0, 1) := by decide +kernel
theorem dX7_risk_23 : decode cX7_risk 23 = .ok (.getfield 49, 3) := by decide +kernel
theorem dX7_risk_26 : decode cX7_risk 26 = .ok (.getfield 185, 3) := by decide +kernel
theorem dX7_risk_29 : decode cX7_risk 29 = .ok (.if_icmp .ge 49, 3) := by decide +kernel
theorem dX7_risk_32 : decode cX7_risk 32 = .ok (.lload_n 2, 1) := by decide +kernel
theorem dX7_risk_33 : decode cX7_risk 33 = .ok (.bipush 10, 2) := by decide +kernel
theorem dX7_risk_35 : decode cX7_risk 35 = .ok (.aload_n 0, 1) := by decide +kernel
theorem dX7_risk_36 : decode cX7_risk 36 = .ok (.getfield 19, 3) := by decide +kernel
theorem dX7_risk_39 : decode cX7_risk 39 = .ok (.getfield 245, 3) := by decide +kernel
theorem dX7_risk_42 : decode cX7_risk 42 = .ok (.aload_n 0, 1) := by decide +kernel
theorem dX7_risk_43 : decode cX7_risk 43 = .ok (.getfield 49, 3) := by decide +kernel
theorem dX7_risk_46 : decode cX7_risk 46 = .ok (.getfield 248, 3) := by decide +kernel
theorem dX7_risk_49 : decode cX7_risk 49 = .ok (.iload 6, 2) := by decide +kernel
theorem dX7_risk_51 : decode cX7_risk 51 = .ok (.invokestatic 122, 3) := by decide +kernel
theorem dX7_risk_54 : decode cX7_risk 54 = .ok (.invokestatic 251, 3) := by decide +kernel
theorem dX7_risk_57 : decode cX7_risk 57 = .ok (.invokestatic 122, 3) := by decide +kernel
theorem dX7_risk_60 : decode cX7_risk 60 = .ok (.isub, 1) := by decide +kernel
theorem dX7_risk_61 : decode cX7_risk 61 = .ok (.i2l, 1) := by decide +kernel
theorem dX7_risk_62 : decode cX7_risk 62 = .ok (.lmul, 1) := by decide +kernel
theorem dX7_risk_63 : decode cX7_risk 63 = .ok (.lstore_n 2, 1) := by decide +kernel
theorem dX7_risk_64 : decode cX7_risk 64 = .ok (.lload 4, 2) := by decide +kernel
theorem dX7_risk_66 : decode cX7_risk 66 = .ok (.ldc2_w 254, 3) := by decide +kernel
theorem dX7_risk_69 : decode cX7_risk 69 = .ok (.lmul, 1) := by decide +kernel
theorem dX7_risk_70 : decode cX7_risk 70 = .ok (.lstore 4, 2) := by decide +kernel
theorem dX7_risk_72 : decode cX7_risk 72 = .ok (.iinc 6 1, 3) := by decide +kernel
theorem dX7_risk_75 : decode cX7_risk 75 = .ok (.goto (-55), 3) := by decide +kernel
theorem dX7_risk_78 : decode cX7_risk 78 = .ok (.lload 4, 2) := by decide +kernel
theorem dX7_risk_80 : decode cX7_risk 80 = .ok (.lload_n 2, 1) := by decide +kernel
theorem dX7_risk_81 : decode cX7_risk 81 = .ok (.lsub, 1) := by decide +kernel
theorem dX7_risk_82 : decode cX7_risk 82 = .ok (.lload 4, 2) := by decide +kernel
theorem dX7_risk_84 : decode cX7_risk 84 = .ok (.iload_n 1, 1) := by decide +kernel
theorem dX7_risk_85 : decode cX7_risk 85 = .ok (.invokestatic 219, 3) := by decide +kernel
theorem dX7_risk_88 : decode cX7_risk 88 = .ok (.lreturn, 1) := by decide +kernel
theorem dX7_seconds_0 : decode cX7_seconds 0 = .ok (.iconst 0, 1) := by decide +kernel
theorem dX7_seconds_1 : decode cX7_seconds 1 = .ok (.istore_n 1, 1) := by decide +kernel
theorem dX7_seconds_2 : decode cX7_seconds 2 = .ok (.iconst 0, 1) := by decide +kernel
theorem dX7_seconds_3 : decode cX7_seconds 3 = .ok (.istore_n 2, 1) := by decide +kernel
theorem dX7_seconds_4 : decode cX7_seconds 4 = .ok (.iload_n 2, 1) := by decide +kernel
theorem dX7_seconds_5 : decode cX7_seconds 5 = .ok (.aload_n 0, 1) := by decide +kernel
theorem dX7_seconds_6 : decode cX7_seconds 6 = .ok (.getfield 49, 3) := by decide +kernel
theorem dX7_seconds_9 : decode cX7_seconds 9 = .ok (.getfield 185, 3) := by decide +kernel
theorem dX7_seconds_12 : decode cX7_seconds 12 = .ok (.if_icmp .ge 36, 3) := by decide +kernel
theorem dX7_seconds_15 : decode cX7_seconds 15 = .ok (.iload_n 1, 1) := by decide +kernel
theorem dX7_seconds_16 : decode cX7_seconds 16 = .ok (.aload_n 0, 1) := by decide +kernel
theorem dX7_seconds_17 : decode cX7_seconds 17 = .ok (.getfield 19, 3) := by decide +kernel
theorem dX7_seconds_20 : decode cX7_seconds 20 = .ok (.getfield 256, 3) := by decide +kernel
theorem dX7_seconds_23 : decode cX7_seconds 23 = .ok (.aload_n 0, 1) := by decide +kernel
theorem dX7_seconds_24 : decode cX7_seconds 24 = .ok (.getfield 49, 3) := by decide +kernel
theorem dX7_seconds_27 : decode cX7_seconds 27 = .ok (.getfield 248, 3) := by decide +kernel
theorem dX7_seconds_30 : decode cX7_seconds 30 = .ok (.iload_n 2, 1) := by decide +kernel
theorem dX7_seconds_31 : decode cX7_seconds 31 = .ok (.invokestatic 122, 3) := by decide +kernel
theorem dX7_seconds_34 : decode cX7_seconds 34 = .ok (.invokestatic 251, 3) := by decide +kernel
theorem dX7_seconds_37 : decode cX7_seconds 37 = .ok (.invokestatic 122, 3) := by decide +kernel
theorem dX7_seconds_40 : decode cX7_seconds 40 = .ok (.iadd, 1) := by decide +kernel
theorem dX7_seconds_41 : decode cX7_seconds 41 = .ok (.istore_n 1, 1) := by decide +kernel
theorem dX7_seconds_42 : decode cX7_seconds 42 = .ok (.iinc 2 1, 3) := by decide +kernel
theorem dX7_seconds_45 : decode cX7_seconds 45 = .ok (.goto (-41), 3) := by decide +kernel
theorem dX7_seconds_48 : decode cX7_seconds 48 = .ok (.iload_n 1, 1) := by decide +kernel
theorem dX7_seconds_49 : decode cX7_seconds 49 = .ok (.ireturn, 1) := by decide +kernel
theorem dX7_misled_0 : decode cX7_misled 0 = .ok (.aload_n 0, 1) := by decide +kernel
theorem dX7_misled_1 : decode cX7_misled 1 = .ok (.iload_n 1, 1) := by decide +kernel
theorem dX7_misled_2 : decode cX7_misled 2 = .ok (.invokevirtual 139, 3) := by decide +kernel
theorem dX7_misled_5 : decode cX7_misled 5 = .ok (.ifCond .eq 11, 3) := by decide +kernel
theorem dX7_misled_8 : decode cX7_misled 8 = .ok (.iload_n 2, 1) := by decide +kernel
theorem dX7_misled_9 : decode cX7_misled 9 = .ok (.iconst 2, 1) := by decide +kernel
theorem dX7_misled_10 : decode cX7_misled 10 = .ok (.invokestatic 170, 3) := by decide +kernel
theorem dX7_misled_13 : decode cX7_misled 13 = .ok (.ifCond .ne 5, 3) := by decide +kernel
theorem dX7_misled_16 : decode cX7_misled 16 = .ok (.iconst (-1), 1) := by decide +kernel
theorem dX7_misled_17 : decode cX7_misled 17 = .ok (.ireturn, 1) := by decide +kernel
theorem dX7_misled_18 : decode cX7_misled 18 = .ok (.aload_n 0, 1) := by decide +kernel
theorem dX7_misled_19 : decode cX7_misled 19 = .ok (.getfield 42, 3) := by decide +kernel
theorem dX7_misled_22 : decode cX7_misled 22 = .ok (.aload_n 0, 1) := by decide +kernel
theorem dX7_misled_23 : decode cX7_misled 23 = .ok (.invokevirtual 208, 3) := by decide +kernel
theorem dX7_misled_26 : decode cX7_misled 26 = .ok (.iload_n 1, 1) := by decide +kernel
theorem dX7_misled_27 : decode cX7_misled 27 = .ok (.invokevirtual 259, 3) := by decide +kernel
theorem dX7_misled_30 : decode cX7_misled 30 = .ok (.aload_n 0, 1) := by decide +kernel
theorem dX7_misled_31 : decode cX7_misled 31 = .ok (.getfield 42, 3) := by decide +kernel
theorem dX7_misled_34 : decode cX7_misled 34 = .ok (.aload_n 0, 1) := by decide +kernel
theorem dX7_misled_35 : decode cX7_misled 35 = .ok (.getfield 19, 3) := by decide +kernel
theorem dX7_misled_38 : decode cX7_misled 38 = .ok (.iload_n 1, 1) := by decide +kernel
theorem dX7_misled_39 : decode cX7_misled 39 = .ok (.iconst 0, 1) := by decide +kernel
theorem dX7_misled_40 : decode cX7_misled 40 = .ok (.invokevirtual 263, 3) := by decide +kernel
theorem dX7_misled_43 : decode cX7_misled 43 = .ok (.pop, 1) := by decide +kernel
theorem dX7_misled_44 : decode cX7_misled 44 = .ok (.iconst 0, 1) := by decide +kernel
theorem dX7_misled_45 : decode cX7_misled 45 = .ok (.istore_n 3, 1) := by decide +kernel
theorem dX7_misled_46 : decode cX7_misled 46 = .ok (.iconst 0, 1) := by decide +kernel
theorem dX7_misled_47 : decode cX7_misled 47 = .ok (.istore 4, 2) := by decide +kernel
theorem dX7_misled_49 : decode cX7_misled 49 = .ok (.iconst 0, 1) := by decide +kernel
theorem dX7_misled_50 : decode cX7_misled 50 = .ok (.istore 5, 2) := by decide +kernel
theorem dX7_misled_52 : decode cX7_misled 52 = .ok (.iload 5, 2) := by decide +kernel
theorem dX7_misled_54 : decode cX7_misled 54 = .ok (.bipush 10, 2) := by decide +kernel
theorem dX7_misled_56 : decode cX7_misled 56 = .ok (.if_icmp .ge 57, 3) := by decide +kernel
theorem dX7_misled_59 : decode cX7_misled 59 = .ok (.aload_n 0, 1) := by decide +kernel
theorem dX7_misled_60 : decode cX7_misled 60 = .ok (.getfield 42, 3) := by decide +kernel
theorem dX7_misled_63 : decode cX7_misled 63 = .ok (.getfield 267, 3) := by decide +kernel
theorem dX7_misled_66 : decode cX7_misled 66 = .ok (.aload_n 0, 1) := by decide +kernel
theorem dX7_misled_67 : decode cX7_misled 67 = .ok (.getfield 19, 3) := by decide +kernel
theorem dX7_misled_70 : decode cX7_misled 70 = .ok (.iload_n 1, 1) := by decide +kernel
theorem dX7_misled_71 : decode cX7_misled 71 = .ok (.iconst 0, 1) := by decide +kernel
theorem dX7_misled_72 : decode cX7_misled 72 = .ok (.aload_n 0, 1) := by decide +kernel
theorem dX7_misled_73 : decode cX7_misled 73 = .ok (.getfield 49, 3) := by decide +kernel
theorem dX7_misled_76 : decode cX7_misled 76 = .ok (.getfield 151, 3) := by decide +kernel
theorem dX7_misled_79 : decode cX7_misled 79 = .ok (.iload_n 1, 1) := by decide +kernel
theorem dX7_misled_80 : decode cX7_misled 80 = .ok (.invokestatic 154, 3) := by decide +kernel
theorem dX7_misled_83 : decode cX7_misled 83 = .ok (.iload 5, 2) := by decide +kernel
theorem dX7_misled_85 : decode cX7_misled 85 = .ok (.invokevirtual 174, 3) := by decide +kernel
theorem dX7_misled_88 : decode cX7_misled 88 = .ok (.invokestatic 122, 3) := by decide +kernel
theorem dX7_misled_91 : decode cX7_misled 91 = .ok (.istore 6, 2) := by decide +kernel
theorem dX7_misled_93 : decode cX7_misled 93 = .ok (.iload 6, 2) := by decide +kernel
theorem dX7_misled_95 : decode cX7_misled 95 = .ok (.iload 4, 2) := by decide +kernel
theorem dX7_misled_97 : decode cX7_misled 97 = .ok (.if_icmp .le 10, 3) := by decide +kernel
theorem dX7_misled_100 : decode cX7_misled 100 = .ok (.iload 5, 2) := by decide +kernel
theorem dX7_misled_102 : decode cX7_misled 102 = .ok (.istore_n 3, 1) := by decide +kernel
theorem dX7_misled_103 : decode cX7_misled 103 = .ok (.iload 6, 2) := by decide +kernel
theorem dX7_misled_105 : decode cX7_misled 105 = .ok (.istore 4, 2) := by decide +kernel
theorem dX7_misled_107 : decode cX7_misled 107 = .ok (.iinc 5 1, 3) := by decide +kernel
theorem dX7_misled_110 : decode cX7_misled 110 = .ok (.goto (-58), 3) := by decide +kernel
theorem dX7_misled_113 : decode cX7_misled 113 = .ok (.iload_n 2, 1) := by decide +kernel
theorem dX7_misled_114 : decode cX7_misled 114 = .ok (.ifCond .ne 7, 3) := by decide +kernel
theorem dX7_misled_117 : decode cX7_misled 117 = .ok (.iload_n 3, 1) := by decide +kernel
theorem dX7_misled_118 : decode cX7_misled 118 = .ok (.goto 5, 3) := by decide +kernel
theorem dX7_misled_121 : decode cX7_misled 121 = .ok (.iload 4, 2) := by decide +kernel
theorem dX7_misled_123 : decode cX7_misled 123 = .ok (.ireturn, 1) := by decide +kernel
theorem dX7_more_0 : decode cX7_more 0 = .ok (.iload_n 1, 1) := by decide +kernel
theorem dX7_more_1 : decode cX7_more 1 = .ok (.iconst 3, 1) := by decide +kernel
theorem dX7_more_2 : decode cX7_more 2 = .ok (.invokestatic 170, 3) := by decide +kernel
theorem dX7_more_5 : decode cX7_more 5 = .ok (.ifCond .ne 5, 3) := by decide +kernel
theorem dX7_more_8 : decode cX7_more 8 = .ok (.iconst (-1), 1) := by decide +kernel
theorem dX7_more_9 : decode cX7_more 9 = .ok (.ireturn, 1) := by decide +kernel
theorem dX7_more_10 : decode cX7_more 10 = .ok (.aload_n 0, 1) := by decide +kernel
theorem dX7_more_11 : decode cX7_more 11 = .ok (.invokevirtual 208, 3) := by decide +kernel
theorem dX7_more_14 : decode cX7_more 14 = .ok (.astore_n 2, 1) := by decide +kernel
theorem dX7_more_15 : decode cX7_more 15 = .ok (.iconst 0, 1) := by decide +kernel
theorem dX7_more_16 : decode cX7_more 16 = .ok (.istore_n 3, 1) := by decide +kernel
theorem dX7_more_17 : decode cX7_more 17 = .ok (.iconst 0, 1) := by decide +kernel
theorem dX7_more_18 : decode cX7_more 18 = .ok (.istore 4, 2) := by decide +kernel
theorem dX7_more_20 : decode cX7_more 20 = .ok (.iload 4, 2) := by decide +kernel
theorem dX7_more_22 : decode cX7_more 22 = .ok (.aload_n 2, 1) := by decide +kernel
theorem dX7_more_23 : decode cX7_more 23 = .ok (.getfield 106, 3) := by decide +kernel
theorem dX7_more_26 : decode cX7_more 26 = .ok (.if_icmp .ge 53, 3) := by decide +kernel
theorem dX7_more_29 : decode cX7_more 29 = .ok (.aload_n 2, 1) := by decide +kernel
theorem dX7_more_30 : decode cX7_more 30 = .ok (.iload 4, 2) := by decide +kernel
theorem dX7_more_32 : decode cX7_more 32 = .ok (.invokevirtual 161, 3) := by decide +kernel
theorem dX7_more_35 : decode cX7_more 35 = .ok (.istore 5, 2) := by decide +kernel
theorem dX7_more_37 : decode cX7_more 37 = .ok (.aload_n 0, 1) := by decide +kernel
theorem dX7_more_38 : decode cX7_more 38 = .ok (.getfield 19, 3) := by decide +kernel
theorem dX7_more_41 : decode cX7_more 41 = .ok (.iload 5, 2) := by decide +kernel
theorem dX7_more_43 : decode cX7_more 43 = .ok (.iconst 1, 1) := by decide +kernel
theorem dX7_more_44 : decode cX7_more 44 = .ok (.invokevirtual 270, 3) := by decide +kernel
theorem dX7_more_47 : decode cX7_more 47 = .ok (.aload_n 0, 1) := by decide +kernel
theorem dX7_more_48 : decode cX7_more 48 = .ok (.getfield 19, 3) := by decide +kernel
theorem dX7_more_51 : decode cX7_more 51 = .ok (.iload 5, 2) := by decide +kernel
theorem dX7_more_53 : decode cX7_more 53 = .ok (.iconst 0, 1) := by decide +kernel
theorem dX7_more_54 : decode cX7_more 54 = .ok (.invokevirtual 270, 3) := by decide +kernel
theorem dX7_more_57 : decode cX7_more 57 = .ok (.invokestatic 273, 3) := by decide +kernel
theorem dX7_more_60 : decode cX7_more 60 = .ok (.istore 6, 2) := by decide +kernel
theorem dX7_more_62 : decode cX7_more 62 = .ok (.iload 6, 2) := by decide +kernel
theorem dX7_more_64 : decode cX7_more 64 = .ok (.iload_n 1, 1) := by decide +kernel
theorem dX7_more_65 : decode cX7_more 65 = .ok (.iconst 1, 1) := by decide +kernel
theorem dX7_more_66 : decode cX7_more 66 = .ok (.isub, 1) := by decide +kernel
theorem dX7_more_67 : decode cX7_more 67 = .ok (.if_icmp .ne 6, 3) := by decide +kernel
theorem dX7_more_70 : decode cX7_more 70 = .ok (.iinc 3 1, 3) := by decide +kernel
theorem dX7_more_73 : decode cX7_more 73 = .ok (.iinc 4 1, 3) := by decide +kernel
theorem dX7_more_76 : decode cX7_more 76 = .ok (.goto (-56), 3) := by decide +kernel
theorem dX7_more_79 : decode cX7_more 79 = .ok (.iload_n 3, 1) := by decide +kernel
theorem dX7_more_80 : decode cX7_more 80 = .ok (.ireturn, 1) := by decide +kernel
theorem dX7_heavier_0 : decode cX7_heavier 0 = .ok (.aload_n 0, 1) := by decide +kernel
theorem dX7_heavier_1 : decode cX7_heavier 1 = .ok (.iload_n 1, 1) := by decide +kernel
theorem dX7_heavier_2 : decode cX7_heavier 2 = .ok (.invokevirtual 139, 3) := by decide +kernel
theorem dX7_heavier_5 : decode cX7_heavier 5 = .ok (.ifCond .eq 16, 3) := by decide +kernel
theorem dX7_heavier_8 : decode cX7_heavier 8 = .ok (.aload_n 0, 1) := by decide +kernel
theorem dX7_heavier_9 : decode cX7_heavier 9 = .ok (.iload_n 2, 1) := by decide +kernel
theorem dX7_heavier_10 : decode cX7_heavier 10 = .ok (.invokevirtual 139, 3) := by decide +kernel
theorem dX7_heavier_13 : decode cX7_heavier 13 = .ok (.ifCond .eq 8, 3) := by decide +kernel
theorem dX7_heavier_16 : decode cX7_heavier 16 = .ok (.iload_n 1, 1) := by decide +kernel
theorem dX7_heavier_17 : decode cX7_heavier 17 = .ok (.iload_n 2, 1) := by decide +kernel
theorem dX7_heavier_18 : decode cX7_heavier 18 = .ok (.if_icmp .ne 5, 3) := by decide +kernel
theorem dX7_heavier_21 : decode cX7_heavier 21 = .ok (.iconst (-1), 1) := by decide +kernel
theorem dX7_heavier_22 : decode cX7_heavier 22 = .ok (.ireturn, 1) := by decide +kernel
theorem dX7_heavier_23 : decode cX7_heavier 23 = .ok (.aload_n 0, 1) := by decide +kernel
theorem dX7_heavier_24 : decode cX7_heavier 24 = .ok (.invokevirtual 208, 3) := by decide +kernel
theorem dX7_heavier_27 : decode cX7_heavier 27 = .ok (.astore_n 3, 1) := by decide +kernel
theorem dX7_heavier_28 : decode cX7_heavier 28 = .ok (.iconst 0, 1) := by decide +kernel
theorem dX7_heavier_29 : decode cX7_heavier 29 = .ok (.istore 4, 2) := by decide +kernel
theorem dX7_heavier_31 : decode cX7_heavier 31 = .ok (.iconst 0, 1) := by decide +kernel
theorem dX7_heavier_32 : decode cX7_heavier 32 = .ok (.istore 5, 2) := by decide +kernel
theorem dX7_heavier_34 : decode cX7_heavier 34 = .ok (.iload 5, 2) := by decide +kernel
theorem dX7_heavier_36 : decode cX7_heavier 36 = .ok (.aload_n 3, 1) := by decide +kernel
theorem dX7_heavier_37 : decode cX7_heavier 37 = .ok (.getfield 106, 3) := by decide +kernel
theorem dX7_heavier_40 : decode cX7_heavier 40 = .ok (.if_icmp .ge 51, 3) := by decide +kernel
theorem dX7_heavier_43 : decode cX7_heavier 43 = .ok (.aload_n 3, 1) := by decide +kernel
theorem dX7_heavier_44 : decode cX7_heavier 44 = .ok (.iload 5, 2) := by decide +kernel
theorem dX7_heavier_46 : decode cX7_heavier 46 = .ok (.invokevirtual 161, 3) := by decide +kernel
theorem dX7_heavier_49 : decode cX7_heavier 49 = .ok (.istore 6, 2) := by decide +kernel
theorem dX7_heavier_51 : decode cX7_heavier 51 = .ok (.aload_n 0, 1) := by decide +kernel
theorem dX7_heavier_52 : decode cX7_heavier 52 = .ok (.getfield 19, 3) := by decide +kernel
theorem dX7_heavier_55 : decode cX7_heavier 55 = .ok (.iload_n 1, 1) := by decide +kernel
theorem dX7_heavier_56 : decode cX7_heavier 56 = .ok (.iload 6, 2) := by decide +kernel
theorem dX7_heavier_58 : decode cX7_heavier 58 = .ok (.iload_n 1, 1) := by decide +kernel
theorem dX7_heavier_59 : decode cX7_heavier 59 = .ok (.invokestatic 154, 3) := by decide +kernel
theorem dX7_heavier_62 : decode cX7_heavier 62 = .ok (.invokevirtual 278, 3) := by decide +kernel
theorem dX7_heavier_65 : decode cX7_heavier 65 = .ok (.aload_n 0, 1) := by decide +kernel
theorem dX7_heavier_66 : decode cX7_heavier 66 = .ok (.getfield 19, 3) := by decide +kernel
theorem dX7_heavier_69 : decode cX7_heavier 69 = .ok (.iload_n 2, 1) := by decide +kernel
theorem dX7_heavier_70 : decode cX7_heavier 70 = .ok (.iload 6, 2) := by decide +kernel
theorem dX7_heavier_72 : decode cX7_heavier 72 = .ok (.iload_n 2, 1) := by decide +kernel
theorem dX7_heavier_73 : decode cX7_heavier 73 = .ok (.invokestatic 154, 3) := by decide +kernel
theorem dX7_heavier_76 : decode cX7_heavier 76 = .ok (.invokevirtual 278, 3) := by decide +kernel
theorem dX7_heavier_79 : decode cX7_heavier 79 = .ok (.if_icmp .le 6, 3) := by decide +kernel
theorem dX7_heavier_82 : decode cX7_heavier 82 = .ok (.iinc 4 1, 3) := by decide +kernel
theorem dX7_heavier_85 : decode cX7_heavier 85 = .ok (.iinc 5 1, 3) := by decide +kernel
theorem dX7_heavier_88 : decode cX7_heavier 88 = .ok (.goto (-54), 3) := by decide +kernel
theorem dX7_heavier_91 : decode cX7_heavier 91 = .ok (.iload 4, 2) := by decide +kernel
theorem dX7_heavier_93 : decode cX7_heavier 93 = .ok (.ireturn, 1) := by decide +kernel
theorem dX7_morning_0 : decode cX7_morning 0 = .ok (.iload_n 1, 1) := by decide +kernel
theorem dX7_morning_1 : decode cX7_morning 1 = .ok (.sipush 10000, 3) := by decide +kernel
theorem dX7_morning_4 : decode cX7_morning 4 = .ok (.invokestatic 170, 3) := by decide +kernel
theorem dX7_morning_7 : decode cX7_morning 7 = .ok (.ifCond .eq 11, 3) := by decide +kernel
theorem dX7_morning_10 : decode cX7_morning 10 = .ok (.iload_n 2, 1) := by decide +kernel
theorem dX7_morning_11 : decode cX7_morning 11 = .ok (.iconst 2, 1) := by decide +kernel
theorem dX7_morning_12 : decode cX7_morning 12 = .ok (.invokestatic 170, 3) := by decide +kernel
theorem dX7_morning_15 : decode cX7_morning 15 = .ok (.ifCond .ne 5, 3) := by decide +kernel
theorem dX7_morning_18 : decode cX7_morning 18 = .ok (.iconst (-1), 1) := by decide +kernel
theorem dX7_morning_19 : decode cX7_morning 19 = .ok (.ireturn, 1) := by decide +kernel
theorem dX7_morning_20 : decode cX7_morning 20 = .ok (.aload_n 0, 1) := by decide +kernel
theorem dX7_morning_21 : decode cX7_morning 21 = .ok (.getfield 29, 3) := by decide +kernel
theorem dX7_morning_24 : decode cX7_morning 24 = .ok (.getfield 106, 3) := by decide +kernel
theorem dX7_morning_27 : decode cX7_morning 27 = .ok (.ifCond .ne 6, 3) := by decide +kernel
theorem dX7_morning_30 : decode cX7_morning 30 = .ok (.bipush (-4), 2) := by decide +kernel
theorem dX7_morning_32 : decode cX7_morning 32 = .ok (.ireturn, 1) := by decide +kernel
theorem dX7_morning_33 : decode cX7_morning 33 = .ok (.ldc2_w 281, 3) := by decide +kernel
theorem dX7_morning_36 : decode cX7_morning 36 = .ok (.iload_n 1, 1) := by decide +kernel
theorem dX7_morning_37 : decode cX7_morning 37 = .ok (.i2l, 1) := by decide +kernel
theorem dX7_morning_38 : decode cX7_morning 38 = .ok (.lmul, 1) := by decide +kernel
theorem dX7_morning_39 : decode cX7_morning 39 = .ok (.lconst 1, 1) := by decide +kernel
theorem dX7_morning_40 : decode cX7_morning 40 = .ok (.ladd, 1) := by decide +kernel
theorem dX7_morning_41 : decode cX7_morning 41 = .ok (.lstore_n 3, 1) := by decide +kernel
theorem dX7_morning_42 : decode cX7_morning 42 = .ok (.lload_n 3, 1) := by decide +kernel
theorem dX7_morning_43 : decode cX7_morning 43 = .ok (.lload_n 3, 1) := by decide +kernel
theorem dX7_morning_44 : decode cX7_morning 44 = .ok (.lmul, 1) := by decide +kernel
theorem dX7_morning_45 : decode cX7_morning 45 = .ok (.ldc2_w 283, 3) := by decide +kernel
theorem dX7_morning_48 : decode cX7_morning 48 = .ok (.lrem, 1) := by decide +kernel
theorem dX7_morning_49 : decode cX7_morning 49 = .ok (.l2i, 1) := by decide +kernel
theorem dX7_morning_50 : decode cX7_morning 50 = .ok (.istore 5, 2) := by decide +kernel
theorem dX7_morning_52 : decode cX7_morning 52 = .ok (.aload_n 0, 1) := by decide +kernel
theorem dX7_morning_53 : decode cX7_morning 53 = .ok (.aload_n 0, 1) := by decide +kernel
theorem dX7_morning_54 : decode cX7_morning 54 = .ok (.getfield 29, 3) := by decide +kernel
theorem dX7_morning_57 : decode cX7_morning 57 = .ok (.aload_n 0, 1) := by decide +kernel
theorem dX7_morning_58 : decode cX7_morning 58 = .ok (.getfield 29, 3) := by decide +kernel
theorem dX7_morning_61 : decode cX7_morning 61 = .ok (.iload 5, 2) := by decide +kernel
theorem dX7_morning_63 : decode cX7_morning 63 = .ok (.aload_n 0, 1) := by decide +kernel
theorem dX7_morning_64 : decode cX7_morning 64 = .ok (.getfield 29, 3) := by decide +kernel
theorem dX7_morning_67 : decode cX7_morning 67 = .ok (.getfield 106, 3) := by decide +kernel
theorem dX7_morning_70 : decode cX7_morning 70 = .ok (.irem, 1) := by decide +kernel
theorem dX7_morning_71 : decode cX7_morning 71 = .ok (.invokevirtual 161, 3) := by decide +kernel
theorem dX7_morning_74 : decode cX7_morning 74 = .ok (.iload_n 2, 1) := by decide +kernel
theorem dX7_morning_75 : decode cX7_morning 75 = .ok (.invokevirtual 241, 3) := by decide +kernel
theorem dX7_morning_78 : decode cX7_morning 78 = .ok (.ireturn, 1) := by decide +kernel
theorem dX7_keep_0 : decode cX7_keep 0 = .ok (.aload_n 0, 1) := by decide +kernel
theorem dX7_keep_1 : decode cX7_keep 1 = .ok (.getfield 62, 3) := by decide +kernel
theorem dX7_keep_4 : decode cX7_keep 4 = .ok (.invokevirtual 285, 3) := by decide +kernel
theorem dX7_keep_7 : decode cX7_keep 7 = .ok (.ifCond .eq 6, 3) := by decide +kernel
theorem dX7_keep_10 : decode cX7_keep 10 = .ok (.bipush (-3), 2) := by decide +kernel
theorem dX7_keep_12 : decode cX7_keep 12 = .ok (.ireturn, 1) := by decide +kernel
theorem dX7_keep_13 : decode cX7_keep 13 = .ok (.aload_n 0, 1) := by decide +kernel
theorem dX7_keep_14 : decode cX7_keep 14 = .ok (.getfield 62, 3) := by decide +kernel
theorem dX7_keep_17 : decode cX7_keep 17 = .ok (.aload_n 0, 1) := by decide +kernel
theorem dX7_keep_18 : decode cX7_keep 18 = .ok (.getfield 49, 3) := by decide +kernel
theorem dX7_keep_21 : decode cX7_keep 21 = .ok (.invokevirtual 195, 3) := by decide +kernel
theorem dX7_keep_24 : decode cX7_keep 24 = .ok (.aload_n 0, 1) := by decide +kernel
theorem dX7_keep_25 : decode cX7_keep 25 = .ok (.getfield 62, 3) := by decide +kernel
theorem dX7_keep_28 : decode cX7_keep 28 = .ok (.getfield 207, 3) := by decide +kernel
theorem dX7_keep_31 : decode cX7_keep 31 = .ok (.ireturn, 1) := by decide +kernel
theorem dX7_back_0 : decode cX7_back 0 = .ok (.aload_n 0, 1) := by decide +kernel
theorem dX7_back_1 : decode cX7_back 1 = .ok (.getfield 62, 3) := by decide +kernel
theorem dX7_back_4 : decode cX7_back 4 = .ok (.aload_n 0, 1) := by decide +kernel
theorem dX7_back_5 : decode cX7_back 5 = .ok (.getfield 49, 3) := by decide +kernel
theorem dX7_back_8 : decode cX7_back 8 = .ok (.invokevirtual 203, 3) := by decide +kernel
theorem dX7_back_11 : decode cX7_back 11 = .ok (.ifCond .ne 6, 3) := by decide +kernel
theorem dX7_back_14 : decode cX7_back 14 = .ok (.bipush (-2), 2) := by decide +kernel
theorem dX7_back_16 : decode cX7_back 16 = .ok (.ireturn, 1) := by decide +kernel
theorem dX7_back_17 : decode cX7_back 17 = .ok (.aload_n 0, 1) := by decide +kernel
theorem dX7_back_18 : decode cX7_back 18 = .ok (.getfield 58, 3) := by decide +kernel
theorem dX7_back_21 : decode cX7_back 21 = .ok (.invokevirtual 286, 3) := by decide +kernel
theorem dX7_back_24 : decode cX7_back 24 = .ok (.aload_n 0, 1) := by decide +kernel
theorem dX7_back_25 : decode cX7_back 25 = .ok (.iconst 1, 1) := by decide +kernel
theorem dX7_back_26 : decode cX7_back 26 = .ok (.putfield 69, 3) := by decide +kernel
theorem dX7_back_29 : decode cX7_back 29 = .ok (.aload_n 0, 1) := by decide +kernel
theorem dX7_back_30 : decode cX7_back 30 = .ok (.getfield 62, 3) := by decide +kernel
theorem dX7_back_33 : decode cX7_back 33 = .ok (.getfield 207, 3) := by decide +kernel
theorem dX7_back_36 : decode cX7_back 36 = .ok (.ireturn, 1) := by decide +kernel
theorem dX7_count_0 : decode cX7_count 0 = .ok (.iload_n 1, 1) := by decide +kernel
theorem dX7_count_1 : decode cX7_count 1 = .ok (.tableswitch 102 0 6 #[43, 54, 62, 70, 78, 86, 94], 43) := by decide +kernel
theorem dX7_count_44 : decode cX7_count 44 = .ok (.aload_n 0, 1) := by decide +kernel
theorem dX7_count_45 : decode cX7_count 45 = .ok (.getfield 19, 3) := by decide +kernel
theorem dX7_count_48 : decode cX7_count 48 = .ok (.getfield 112, 3) := by decide +kernel
theorem dX7_count_51 : decode cX7_count 51 = .ok (.getfield 167, 3) := by decide +kernel
theorem dX7_count_54 : decode cX7_count 54 = .ok (.ireturn, 1) := by decide +kernel
theorem dX7_count_55 : decode cX7_count 55 = .ok (.aload_n 0, 1) := by decide +kernel
theorem dX7_count_56 : decode cX7_count 56 = .ok (.getfield 19, 3) := by decide +kernel
theorem dX7_count_59 : decode cX7_count 59 = .ok (.getfield 287, 3) := by decide +kernel
theorem dX7_count_62 : decode cX7_count 62 = .ok (.ireturn, 1) := by decide +kernel
theorem dX7_count_63 : decode cX7_count 63 = .ok (.aload_n 0, 1) := by decide +kernel
theorem dX7_count_64 : decode cX7_count 64 = .ok (.getfield 29, 3) := by decide +kernel
theorem dX7_count_67 : decode cX7_count 67 = .ok (.getfield 106, 3) := by decide +kernel
theorem dX7_count_70 : decode cX7_count 70 = .ok (.ireturn, 1) := by decide +kernel
theorem dX7_count_71 : decode cX7_count 71 = .ok (.aload_n 0, 1) := by decide +kernel
theorem dX7_count_72 : decode cX7_count 72 = .ok (.getfield 49, 3) := by decide +kernel
theorem dX7_count_75 : decode cX7_count 75 = .ok (.getfield 185, 3) := by decide +kernel
theorem dX7_count_78 : decode cX7_count 78 = .ok (.ireturn, 1) := by decide +kernel
theorem dX7_count_79 : decode cX7_count 79 = .ok (.aload_n 0, 1) := by decide +kernel
theorem dX7_count_80 : decode cX7_count 80 = .ok (.getfield 58, 3) := by decide +kernel
theorem dX7_count_83 : decode cX7_count 83 = .ok (.getfield 207, 3) := by decide +kernel
theorem dX7_count_86 : decode cX7_count 86 = .ok (.ireturn, 1) := by decide +kernel
theorem dX7_count_87 : decode cX7_count 87 = .ok (.aload_n 0, 1) := by decide +kernel
theorem dX7_count_88 : decode cX7_count 88 = .ok (.getfield 62, 3) := by decide +kernel
theorem dX7_count_91 : decode cX7_count 91 = .ok (.getfield 207, 3) := by decide +kernel
theorem dX7_count_94 : decode cX7_count 94 = .ok (.ireturn, 1) := by decide +kernel
theorem dX7_count_95 : decode cX7_count 95 = .ok (.aload_n 0, 1) := by decide +kernel
theorem dX7_count_96 : decode cX7_count 96 = .ok (.getfield 12, 3) := by decide +kernel
theorem dX7_count_99 : decode cX7_count 99 = .ok (.getfield 100, 3) := by decide +kernel
theorem dX7_count_102 : decode cX7_count 102 = .ok (.ireturn, 1) := by decide +kernel
theorem dX7_count_103 : decode cX7_count 103 = .ok (.iconst (-1), 1) := by decide +kernel
theorem dX7_count_104 : decode cX7_count 104 = .ok (.ireturn, 1) := by decide +kernel
theorem dX7_layText_0 : decode cX7_layText 0 = .ok (.aload_n 0, 1) := by decide +kernel
theorem dX7_layText_1 : decode cX7_layText 1 = .ok (.getfield 12, 3) := by decide +kernel
theorem dX7_layText_4 : decode cX7_layText 4 = .ok (.aload_n 0, 1) := by decide +kernel
theorem dX7_layText_5 : decode cX7_layText 5 = .ok (.getfield 23, 3) := by decide +kernel
theorem dX7_layText_8 : decode cX7_layText 8 = .ok (.invokevirtual 102, 3) := by decide +kernel
theorem dX7_layText_11 : decode cX7_layText 11 = .ok (.bipush (-4), 2) := by decide +kernel
theorem dX7_layText_13 : decode cX7_layText 13 = .ok (.if_icmp .ne 30, 3) := by decide +kernel
theorem dX7_layText_16 : decode cX7_layText 16 = .ok (.aload_n 0, 1) := by decide +kernel
theorem dX7_layText_17 : decode cX7_layText 17 = .ok (.getfield 23, 3) := by decide +kernel
theorem dX7_layText_20 : decode cX7_layText 20 = .ok (.getfield 287, 3) := by decide +kernel
theorem dX7_layText_23 : decode cX7_layText 23 = .ok (.ifCond .eq 20, 3) := by decide +kernel
theorem dX7_layText_26 : decode cX7_layText 26 = .ok (.aload_n 0, 1) := by decide +kernel
theorem dX7_layText_27 : decode cX7_layText 27 = .ok (.getfield 23, 3) := by decide +kernel
theorem dX7_layText_30 : decode cX7_layText 30 = .ok (.aload_n 0, 1) := by decide +kernel
theorem dX7_layText_31 : decode cX7_layText 31 = .ok (.getfield 23, 3) := by decide +kernel
theorem dX7_layText_34 : decode cX7_layText 34 = .ok (.getfield 290, 3) := by decide +kernel
theorem dX7_layText_37 : decode cX7_layText 37 = .ok (.invokevirtual 192, 3) := by decide +kernel
theorem dX7_layText_40 : decode cX7_layText 40 = .ok (.ifCond .ne 5, 3) := by decide +kernel
theorem dX7_layText_43 : decode cX7_layText 43 = .ok (.iconst 0, 1) := by decide +kernel
theorem dX7_layText_44 : decode cX7_layText 44 = .ok (.ireturn, 1) := by decide +kernel
theorem dX7_layText_45 : decode cX7_layText 45 = .ok (.aload_n 0, 1) := by decide +kernel
theorem dX7_layText_46 : decode cX7_layText 46 = .ok (.getfield 19, 3) := by decide +kernel
theorem dX7_layText_49 : decode cX7_layText 49 = .ok (.astore_n 1, 1) := by decide +kernel
theorem dX7_layText_50 : decode cX7_layText 50 = .ok (.aload_n 0, 1) := by decide +kernel
theorem dX7_layText_51 : decode cX7_layText 51 = .ok (.aload_n 0, 1) := by decide +kernel
theorem dX7_layText_52 : decode cX7_layText 52 = .ok (.getfield 23, 3) := by decide +kernel
theorem dX7_layText_55 : decode cX7_layText 55 = .ok (.putfield 19, 3) := by decide +kernel
theorem dX7_layText_58 : decode cX7_layText 58 = .ok (.aload_n 0, 1) := by decide +kernel
theorem dX7_layText_59 : decode cX7_layText 59 = .ok (.aload_n 1, 1) := by decide +kernel
theorem dX7_layText_60 : decode cX7_layText 60 = .ok (.putfield 23, 3) := by decide +kernel
theorem dX7_layText_63 : decode cX7_layText 63 = .ok (.aload_n 0, 1) := by decide +kernel
theorem dX7_layText_64 : decode cX7_layText 64 = .ok (.getfield 19, 3) := by decide +kernel
theorem dX7_layText_67 : decode cX7_layText 67 = .ok (.invokevirtual 293, 3) := by decide +kernel
theorem dX7_layText_70 : decode cX7_layText 70 = .ok (.istore_n 2, 1) := by decide +kernel
theorem dX7_layText_71 : decode cX7_layText 71 = .ok (.aload_n 0, 1) := by decide +kernel
theorem dX7_layText_72 : decode cX7_layText 72 = .ok (.getfield 29, 3) := by decide +kernel
theorem dX7_layText_75 : decode cX7_layText 75 = .ok (.iload_n 2, 1) := by decide +kernel
theorem dX7_layText_76 : decode cX7_layText 76 = .ok (.invokevirtual 296, 3) := by decide +kernel
theorem dX7_layText_79 : decode cX7_layText 79 = .ok (.aload_n 0, 1) := by decide +kernel
theorem dX7_layText_80 : decode cX7_layText 80 = .ok (.getfield 33, 3) := by decide +kernel
theorem dX7_layText_83 : decode cX7_layText 83 = .ok (.iload_n 2, 1) := by decide +kernel
theorem dX7_layText_84 : decode cX7_layText 84 = .ok (.invokevirtual 296, 3) := by decide +kernel
theorem dX7_layText_87 : decode cX7_layText 87 = .ok (.aload_n 0, 1) := by decide +kernel
theorem dX7_layText_88 : decode cX7_layText 88 = .ok (.getfield 36, 3) := by decide +kernel
theorem dX7_layText_91 : decode cX7_layText 91 = .ok (.iload_n 2, 1) := by decide +kernel
theorem dX7_layText_92 : decode cX7_layText 92 = .ok (.invokevirtual 296, 3) := by decide +kernel
theorem dX7_layText_95 : decode cX7_layText 95 = .ok (.aload_n 0, 1) := by decide +kernel
theorem dX7_layText_96 : decode cX7_layText 96 = .ok (.getfield 19, 3) := by decide +kernel
theorem dX7_layText_99 : decode cX7_layText 99 = .ok (.aload_n 0, 1) := by decide +kernel
theorem dX7_layText_100 : decode cX7_layText 100 = .ok (.getfield 29, 3) := by decide +kernel
theorem dX7_layText_103 : decode cX7_layText 103 = .ok (.invokevirtual 299, 3) := by decide +kernel
theorem dX7_layText_106 : decode cX7_layText 106 = .ok (.aload_n 0, 1) := by decide +kernel
theorem dX7_layText_107 : decode cX7_layText 107 = .ok (.getfield 49, 3) := by decide +kernel
theorem dX7_layText_110 : decode cX7_layText 110 = .ok (.aload_n 0, 1) := by decide +kernel
theorem dX7_layText_111 : decode cX7_layText 111 = .ok (.getfield 19, 3) := by decide +kernel
theorem dX7_layText_114 : decode cX7_layText 114 = .ok (.getfield 290, 3) := by decide +kernel
theorem dX7_layText_117 : decode cX7_layText 117 = .ok (.invokevirtual 303, 3) := by decide +kernel
theorem dX7_layText_120 : decode cX7_layText 120 = .ok (.aload_n 0, 1) := by decide +kernel
theorem dX7_layText_121 : decode cX7_layText 121 = .ok (.getfield 58, 3) := by decide +kernel
theorem dX7_layText_124 : decode cX7_layText 124 = .ok (.invokevirtual 286, 3) := by decide +kernel
theorem dX7_layText_127 : decode cX7_layText 127 = .ok (.aload_n 0, 1) := by decide +kernel
theorem dX7_layText_128 : decode cX7_layText 128 = .ok (.getfield 62, 3) := by decide +kernel
theorem dX7_layText_131 : decode cX7_layText 131 = .ok (.invokevirtual 286, 3) := by decide +kernel
theorem dX7_layText_134 : decode cX7_layText 134 = .ok (.aload_n 0, 1) := by decide +kernel
theorem dX7_layText_135 : decode cX7_layText 135 = .ok (.iconst 1, 1) := by decide +kernel
theorem dX7_layText_136 : decode cX7_layText 136 = .ok (.putfield 69, 3) := by decide +kernel
theorem dX7_layText_139 : decode cX7_layText 139 = .ok (.iconst 1, 1) := by decide +kernel
theorem dX7_layText_140 : decode cX7_layText 140 = .ok (.ireturn, 1) := by decide +kernel
theorem dX7_isThing_0 : decode cX7_isThing 0 = .ok (.iload_n 1, 1) := by decide +kernel
theorem dX7_isThing_1 : decode cX7_isThing 1 = .ok (.aload_n 0, 1) := by decide +kernel
theorem dX7_isThing_2 : decode cX7_isThing 2 = .ok (.getfield 19, 3) := by decide +kernel
theorem dX7_isThing_5 : decode cX7_isThing 5 = .ok (.getfield 112, 3) := by decide +kernel
theorem dX7_isThing_8 : decode cX7_isThing 8 = .ok (.getfield 167, 3) := by decide +kernel
theorem dX7_isThing_11 : decode cX7_isThing 11 = .ok (.invokestatic 170, 3) := by decide +kernel
theorem dX7_isThing_14 : decode cX7_isThing 14 = .ok (.ireturn, 1) := by decide +kernel
theorem dX7_isParcel_0 : decode cX7_isParcel 0 = .ok (.iload_n 1, 1) := by decide +kernel
theorem dX7_isParcel_1 : decode cX7_isParcel 1 = .ok (.aload_n 0, 1) := by decide +kernel
theorem dX7_isParcel_2 : decode cX7_isParcel 2 = .ok (.getfield 19, 3) := by decide +kernel
theorem dX7_isParcel_5 : decode cX7_isParcel 5 = .ok (.getfield 287, 3) := by decide +kernel
theorem dX7_isParcel_8 : decode cX7_isParcel 8 = .ok (.invokestatic 170, 3) := by decide +kernel
theorem dX7_isParcel_11 : decode cX7_isParcel 11 = .ok (.ireturn, 1) := by decide +kernel
theorem dX7_parcelWith_0 : decode cX7_parcelWith 0 = .ok (.iconst 0, 1) := by decide +kernel
theorem dX7_parcelWith_1 : decode cX7_parcelWith 1 = .ok (.istore_n 2, 1) := by decide +kernel
theorem dX7_parcelWith_2 : decode cX7_parcelWith 2 = .ok (.iload_n 2, 1) := by decide +kernel
theorem dX7_parcelWith_3 : decode cX7_parcelWith 3 = .ok (.aload_n 0, 1) := by decide +kernel
theorem dX7_parcelWith_4 : decode cX7_parcelWith 4 = .ok (.getfield 19, 3) := by decide +kernel
theorem dX7_parcelWith_7 : decode cX7_parcelWith 7 = .ok (.getfield 287, 3) := by decide +kernel
theorem dX7_parcelWith_10 : decode cX7_parcelWith 10 = .ok (.if_icmp .ge 29, 3) := by decide +kernel
theorem dX7_parcelWith_13 : decode cX7_parcelWith 13 = .ok (.aload_n 0, 1) := by decide +kernel
theorem dX7_parcelWith_14 : decode cX7_parcelWith 14 = .ok (.getfield 49, 3) := by decide +kernel
theorem dX7_parcelWith_17 : decode cX7_parcelWith 17 = .ok (.getfield 151, 3) := by decide +kernel
theorem dX7_parcelWith_20 : decode cX7_parcelWith 20 = .ok (.iload_n 2, 1) := by decide +kernel
theorem dX7_parcelWith_21 : decode cX7_parcelWith 21 = .ok (.invokestatic 154, 3) := by decide +kernel
theorem dX7_parcelWith_24 : decode cX7_parcelWith 24 = .ok (.iconst 1, 1) := by decide +kernel
theorem dX7_parcelWith_25 : decode cX7_parcelWith 25 = .ok (.iload_n 1, 1) := by decide +kernel
theorem dX7_parcelWith_26 : decode cX7_parcelWith 26 = .ok (.ishl, 1) := by decide +kernel
theorem dX7_parcelWith_27 : decode cX7_parcelWith 27 = .ok (.iand, 1) := by decide +kernel
theorem dX7_parcelWith_28 : decode cX7_parcelWith 28 = .ok (.ifCond .eq 5, 3) := by decide +kernel
theorem dX7_parcelWith_31 : decode cX7_parcelWith 31 = .ok (.iload_n 2, 1) := by decide +kernel
theorem dX7_parcelWith_32 : decode cX7_parcelWith 32 = .ok (.ireturn, 1) := by decide +kernel
theorem dX7_parcelWith_33 : decode cX7_parcelWith 33 = .ok (.iinc 2 1, 3) := by decide +kernel
theorem dX7_parcelWith_36 : decode cX7_parcelWith 36 = .ok (.goto (-34), 3) := by decide +kernel
theorem dX7_parcelWith_39 : decode cX7_parcelWith 39 = .ok (.bipush (-4), 2) := by decide +kernel
theorem dX7_parcelWith_41 : decode cX7_parcelWith 41 = .ok (.ireturn, 1) := by decide +kernel
theorem dX7_note_0 : decode cX7_note 0 = .ok (.aload_n 0, 1) := by decide +kernel
theorem dX7_note_1 : decode cX7_note 1 = .ok (.getfield 58, 3) := by decide +kernel
theorem dX7_note_4 : decode cX7_note 4 = .ok (.aload_n 0, 1) := by decide +kernel
theorem dX7_note_5 : decode cX7_note 5 = .ok (.getfield 49, 3) := by decide +kernel
theorem dX7_note_8 : decode cX7_note 8 = .ok (.invokevirtual 195, 3) := by decide +kernel
theorem dX7_note_11 : decode cX7_note 11 = .ok (.aload_n 0, 1) := by decide +kernel
theorem dX7_note_12 : decode cX7_note 12 = .ok (.getfield 49, 3) := by decide +kernel
theorem dX7_note_15 : decode cX7_note 15 = .ok (.iload_n 1, 1) := by decide +kernel
theorem dX7_note_16 : decode cX7_note 16 = .ok (.iload_n 2, 1) := by decide +kernel
theorem dX7_note_17 : decode cX7_note 17 = .ok (.invokestatic 306, 3) := by decide +kernel
theorem dX7_note_20 : decode cX7_note 20 = .ok (.iload_n 3, 1) := by decide +kernel
theorem dX7_note_21 : decode cX7_note 21 = .ok (.invokevirtual 309, 3) := by decide +kernel
theorem dX7_note_24 : decode cX7_note 24 = .ok (.aload_n 0, 1) := by decide +kernel
theorem dX7_note_25 : decode cX7_note 25 = .ok (.iconst 1, 1) := by decide +kernel
theorem dX7_note_26 : decode cX7_note 26 = .ok (.putfield 69, 3) := by decide +kernel
theorem dX7_note_29 : decode cX7_note 29 = .ok (.return_, 1) := by decide +kernel
theorem dX7_findRemaining_0 : decode cX7_findRemaining 0 = .ok (.aload_n 0, 1) := by decide +kernel
theorem dX7_findRemaining_1 : decode cX7_findRemaining 1 = .ok (.getfield 69, 3) := by decide +kernel
theorem dX7_findRemaining_4 : decode cX7_findRemaining 4 = .ok (.ifCond .eq 110, 3) := by decide +kernel
theorem dX7_findRemaining_7 : decode cX7_findRemaining 7 = .ok (.aload_n 0, 1) := by decide +kernel
theorem dX7_findRemaining_8 : decode cX7_findRemaining 8 = .ok (.getfield 33, 3) := by decide +kernel
theorem dX7_findRemaining_11 : decode cX7_findRemaining 11 = .ok (.aload_n 0, 1) := by decide +kernel
theorem dX7_findRemaining_12 : decode cX7_findRemaining 12 = .ok (.getfield 29, 3) := by decide +kernel
theorem dX7_findRemaining_15 : decode cX7_findRemaining 15 = .ok (.invokevirtual 312, 3) := by decide +kernel
theorem dX7_findRemaining_18 : decode cX7_findRemaining 18 = .ok (.aload_n 0, 1) := by decide +kernel
theorem dX7_findRemaining_19 : decode cX7_findRemaining 19 = .ok (.bipush (-4), 2) := by decide +kernel
theorem dX7_findRemaining_21 : decode cX7_findRemaining 21 = .ok (.putfield 73, 3) := by decide +kernel
theorem dX7_findRemaining_24 : decode cX7_findRemaining 24 = .ok (.iconst 0, 1) := by decide +kernel
theorem dX7_findRemaining_25 : decode cX7_findRemaining 25 = .ok (.istore_n 1, 1) := by decide +kernel
theorem dX7_findRemaining_26 : decode cX7_findRemaining 26 = .ok (.iload_n 1, 1) := by decide +kernel
theorem dX7_findRemaining_27 : decode cX7_findRemaining 27 = .ok (.aload_n 0, 1) := by decide +kernel
theorem dX7_findRemaining_28 : decode cX7_findRemaining 28 = .ok (.getfield 49, 3) := by decide +kernel
theorem dX7_findRemaining_31 : decode cX7_findRemaining 31 = .ok (.getfield 185, 3) := by decide +kernel
theorem dX7_findRemaining_34 : decode cX7_findRemaining 34 = .ok (.if_icmp .ge 75, 3) := by decide +kernel
theorem dX7_findRemaining_37 : decode cX7_findRemaining 37 = .ok (.aload_n 0, 1) := by decide +kernel
theorem dX7_findRemaining_38 : decode cX7_findRemaining 38 = .ok (.getfield 49, 3) := by decide +kernel
theorem dX7_findRemaining_41 : decode cX7_findRemaining 41 = .ok (.getfield 248, 3) := by decide +kernel
theorem dX7_findRemaining_44 : decode cX7_findRemaining 44 = .ok (.iload_n 1, 1) := by decide +kernel
theorem dX7_findRemaining_45 : decode cX7_findRemaining 45 = .ok (.invokestatic 122, 3) := by decide +kernel
theorem dX7_findRemaining_48 : decode cX7_findRemaining 48 = .ok (.istore_n 2, 1) := by decide +kernel
theorem dX7_findRemaining_49 : decode cX7_findRemaining 49 = .ok (.aload_n 0, 1) := by decide +kernel
theorem dX7_findRemaining_50 : decode cX7_findRemaining 50 = .ok (.getfield 33, 3) := by decide +kernel
theorem dX7_findRemaining_53 : decode cX7_findRemaining 53 = .ok (.aload_n 0, 1) := by decide +kernel
theorem dX7_findRemaining_54 : decode cX7_findRemaining 54 = .ok (.getfield 19, 3) := by decide +kernel
theorem dX7_findRemaining_57 : decode cX7_findRemaining 57 = .ok (.iload_n 2, 1) := by decide +kernel
theorem dX7_findRemaining_58 : decode cX7_findRemaining 58 = .ok (.invokestatic 315, 3) := by decide +kernel
theorem dX7_findRemaining_61 : decode cX7_findRemaining 61 = .ok (.iload_n 2, 1) := by decide +kernel
theorem dX7_findRemaining_62 : decode cX7_findRemaining 62 = .ok (.invokestatic 251, 3) := by decide +kernel
theorem dX7_findRemaining_65 : decode cX7_findRemaining 65 = .ok (.aload_n 0, 1) := by decide +kernel
theorem dX7_findRemaining_66 : decode cX7_findRemaining 66 = .ok (.getfield 49, 3) := by decide +kernel
theorem dX7_findRemaining_69 : decode cX7_findRemaining 69 = .ok (.getfield 318, 3) := by decide +kernel
theorem dX7_findRemaining_72 : decode cX7_findRemaining 72 = .ok (.iload_n 1, 1) := by decide +kernel
theorem dX7_findRemaining_73 : decode cX7_findRemaining 73 = .ok (.invokestatic 122, 3) := by decide +kernel
theorem dX7_findRemaining_76 : decode cX7_findRemaining 76 = .ok (.invokevirtual 321, 3) := by decide +kernel
theorem dX7_findRemaining_79 : decode cX7_findRemaining 79 = .ok (.aload_n 0, 1) := by decide +kernel
theorem dX7_findRemaining_80 : decode cX7_findRemaining 80 = .ok (.getfield 33, 3) := by decide +kernel
theorem dX7_findRemaining_83 : decode cX7_findRemaining 83 = .ok (.getfield 106, 3) := by decide +kernel
theorem dX7_findRemaining_86 : decode cX7_findRemaining 86 = .ok (.ifCond .ne 17, 3) := by decide +kernel
theorem dX7_findRemaining_89 : decode cX7_findRemaining 89 = .ok (.aload_n 0, 1) := by decide +kernel
theorem dX7_findRemaining_90 : decode cX7_findRemaining 90 = .ok (.getfield 73, 3) := by decide +kernel
theorem dX7_findRemaining_93 : decode cX7_findRemaining 93 = .ok (.bipush (-4), 2) := by decide +kernel
theorem dX7_findRemaining_95 : decode cX7_findRemaining 95 = .ok (.if_icmp .ne 8, 3) := by decide +kernel
theorem dX7_findRemaining_98 : decode cX7_findRemaining 98 = .ok (.aload_n 0, 1) := by decide +kernel
theorem dX7_findRemaining_99 : decode cX7_findRemaining 99 = .ok (.iload_n 1, 1) := by decide +kernel
theorem dX7_findRemaining_100 : decode cX7_findRemaining 100 = .ok (.putfield 73, 3) := by decide +kernel
theorem dX7_findRemaining_103 : decode cX7_findRemaining 103 = .ok (.iinc 1 1, 3) := by decide +kernel
theorem dX7_findRemaining_106 : decode cX7_findRemaining 106 = .ok (.goto (-80), 3) := by decide +kernel
theorem dX7_findRemaining_109 : decode cX7_findRemaining 109 = .ok (.aload_n 0, 1) := by decide +kernel
theorem dX7_findRemaining_110 : decode cX7_findRemaining 110 = .ok (.iconst 0, 1) := by decide +kernel
theorem dX7_findRemaining_111 : decode cX7_findRemaining 111 = .ok (.putfield 69, 3) := by decide +kernel
theorem dX7_findRemaining_114 : decode cX7_findRemaining 114 = .ok (.aload_n 0, 1) := by decide +kernel
theorem dX7_findRemaining_115 : decode cX7_findRemaining 115 = .ok (.getfield 33, 3) := by decide +kernel
theorem dX7_findRemaining_118 : decode cX7_findRemaining 118 = .ok (.areturn, 1) := by decide +kernel
theorem dX7_sumChances_0 : decode cX7_sumChances 0 = .ok (.aload_n 0, 1) := by decide +kernel
theorem dX7_sumChances_1 : decode cX7_sumChances 1 = .ok (.getfield 65, 3) := by decide +kernel
theorem dX7_sumChances_4 : decode cX7_sumChances 4 = .ok (.lconst 0, 1) := by decide +kernel
theorem dX7_sumChances_5 : decode cX7_sumChances 5 = .ok (.invokestatic 325, 3) := by decide +kernel
theorem dX7_sumChances_8 : decode cX7_sumChances 8 = .ok (.lconst 0, 1) := by decide +kernel
theorem dX7_sumChances_9 : decode cX7_sumChances 9 = .ok (.lstore_n 3, 1) := by decide +kernel
theorem dX7_sumChances_10 : decode cX7_sumChances 10 = .ok (.iconst 0, 1) := by decide +kernel
theorem dX7_sumChances_11 : decode cX7_sumChances 11 = .ok (.istore 5, 2) := by decide +kernel
theorem dX7_sumChances_13 : decode cX7_sumChances 13 = .ok (.iload 5, 2) := by decide +kernel
theorem dX7_sumChances_15 : decode cX7_sumChances 15 = .ok (.aload_n 1, 1) := by decide +kernel
theorem dX7_sumChances_16 : decode cX7_sumChances 16 = .ok (.getfield 106, 3) := by decide +kernel
theorem dX7_sumChances_19 : decode cX7_sumChances 19 = .ok (.if_icmp .ge 64, 3) := by decide +kernel
theorem dX7_sumChances_22 : decode cX7_sumChances 22 = .ok (.aload_n 1, 1) := by decide +kernel
theorem dX7_sumChances_23 : decode cX7_sumChances 23 = .ok (.iload 5, 2) := by decide +kernel
theorem dX7_sumChances_25 : decode cX7_sumChances 25 = .ok (.invokevirtual 161, 3) := by decide +kernel
theorem dX7_sumChances_28 : decode cX7_sumChances 28 = .ok (.istore 6, 2) := by decide +kernel
theorem dX7_sumChances_30 : decode cX7_sumChances 30 = .ok (.aload_n 0, 1) := by decide +kernel
theorem dX7_sumChances_31 : decode cX7_sumChances 31 = .ok (.getfield 19, 3) := by decide +kernel
theorem dX7_sumChances_34 : decode cX7_sumChances 34 = .ok (.iload 6, 2) := by decide +kernel
theorem dX7_sumChances_36 : decode cX7_sumChances 36 = .ok (.invokevirtual 216, 3) := by decide +kernel
theorem dX7_sumChances_39 : decode cX7_sumChances 39 = .ok (.i2l, 1) := by decide +kernel
theorem dX7_sumChances_40 : decode cX7_sumChances 40 = .ok (.lstore 7, 2) := by decide +kernel
theorem dX7_sumChances_42 : decode cX7_sumChances 42 = .ok (.iload 6, 2) := by decide +kernel
theorem dX7_sumChances_44 : decode cX7_sumChances 44 = .ok (.iload_n 2, 1) := by decide +kernel
theorem dX7_sumChances_45 : decode cX7_sumChances 45 = .ok (.invokestatic 154, 3) := by decide +kernel
theorem dX7_sumChances_48 : decode cX7_sumChances 48 = .ok (.istore 9, 2) := by decide +kernel
theorem dX7_sumChances_50 : decode cX7_sumChances 50 = .ok (.iload 9, 2) := by decide +kernel
theorem dX7_sumChances_52 : decode cX7_sumChances 52 = .ok (.aload_n 0, 1) := by decide +kernel
theorem dX7_sumChances_53 : decode cX7_sumChances 53 = .ok (.getfield 65, 3) := by decide +kernel
theorem dX7_sumChances_56 : decode cX7_sumChances 56 = .ok (.arraylength, 1) := by decide +kernel
theorem dX7_sumChances_57 : decode cX7_sumChances 57 = .ok (.if_icmp .ge 15, 3) := by decide +kernel
theorem dX7_sumChances_60 : decode cX7_sumChances 60 = .ok (.aload_n 0, 1) := by decide +kernel
theorem dX7_sumChances_61 : decode cX7_sumChances 61 = .ok (.getfield 65, 3) := by decide +kernel
theorem dX7_sumChances_64 : decode cX7_sumChances 64 = .ok (.iload 9, 2) := by decide +kernel
theorem dX7_sumChances_66 : decode cX7_sumChances 66 = .ok (.dup2, 1) := by decide +kernel
theorem dX7_sumChances_67 : decode cX7_sumChances 67 = .ok (.laload, 1) := by decide +kernel
theorem dX7_sumChances_68 : decode cX7_sumChances 68 = .ok (.lload 7, 2) := by decide +kernel
theorem dX7_sumChances_70 : decode cX7_sumChances 70 = .ok (.ladd, 1) := by decide +kernel
theorem dX7_sumChances_71 : decode cX7_sumChances 71 = .ok (.lastore, 1) := by decide +kernel
theorem dX7_sumChances_72 : decode cX7_sumChances 72 = .ok (.lload_n 3, 1) := by decide +kernel
theorem dX7_sumChances_73 : decode cX7_sumChances 73 = .ok (.lload 7, 2) := by decide +kernel
theorem dX7_sumChances_75 : decode cX7_sumChances 75 = .ok (.ladd, 1) := by decide +kernel
theorem dX7_sumChances_76 : decode cX7_sumChances 76 = .ok (.lstore_n 3, 1) := by decide +kernel
theorem dX7_sumChances_77 : decode cX7_sumChances 77 = .ok (.iinc 5 1, 3) := by decide +kernel
theorem dX7_sumChances_80 : decode cX7_sumChances 80 = .ok (.goto (-67), 3) := by decide +kernel
theorem dX7_sumChances_83 : decode cX7_sumChances 83 = .ok (.lload_n 3, 1) := by decide +kernel
theorem dX7_sumChances_84 : decode cX7_sumChances 84 = .ok (.lreturn, 1) := by decide +kernel
theorem dX7_solve_0 : decode cX7_solve 0 = .ok (.aload_n 0, 1) := by decide +kernel
theorem dX7_solve_1 : decode cX7_solve 1 = .ok (.getfield 36, 3) := by decide +kernel
theorem dX7_solve_4 : decode cX7_solve 4 = .ok (.aload_n 1, 1) := by decide +kernel
theorem dX7_solve_5 : decode cX7_solve 5 = .ok (.invokevirtual 312, 3) := by decide +kernel
theorem dX7_solve_8 : decode cX7_solve 8 = .ok (.aload_n 0, 1) := by decide +kernel
theorem dX7_solve_9 : decode cX7_solve 9 = .ok (.getfield 42, 3) := by decide +kernel
theorem dX7_solve_12 : decode cX7_solve 12 = .ok (.aload_n 0, 1) := by decide +kernel
theorem dX7_solve_13 : decode cX7_solve 13 = .ok (.getfield 19, 3) := by decide +kernel
theorem dX7_solve_16 : decode cX7_solve 16 = .ok (.aload_n 0, 1) := by decide +kernel
theorem dX7_solve_17 : decode cX7_solve 17 = .ok (.getfield 36, 3) := by decide +kernel
theorem dX7_solve_20 : decode cX7_solve 20 = .ok (.iload_n 2, 1) := by decide +kernel
theorem dX7_solve_21 : decode cX7_solve 21 = .ok (.invokevirtual 331, 3) := by decide +kernel
theorem dX7_solve_24 : decode cX7_solve 24 = .ok (.ifCond .ne 6, 3) := by decide +kernel
theorem dX7_solve_27 : decode cX7_solve 27 = .ok (.bipush (-4), 2) := by decide +kernel
theorem dX7_solve_29 : decode cX7_solve 29 = .ok (.ireturn, 1) := by decide +kernel
theorem dX7_solve_30 : decode cX7_solve 30 = .ok (.iload_n 3, 1) := by decide +kernel
theorem dX7_solve_31 : decode cX7_solve 31 = .ok (.ifCond .ne 13, 3) := by decide +kernel
theorem dX7_solve_34 : decode cX7_solve 34 = .ok (.aload_n 0, 1) := by decide +kernel
theorem dX7_solve_35 : decode cX7_solve 35 = .ok (.getfield 42, 3) := by decide +kernel
theorem dX7_solve_38 : decode cX7_solve 38 = .ok (.getfield 335, 3) := by decide +kernel
theorem dX7_solve_41 : decode cX7_solve 41 = .ok (.goto 10, 3) := by decide +kernel
theorem dX7_solve_44 : decode cX7_solve 44 = .ok (.aload_n 0, 1) := by decide +kernel
theorem dX7_solve_45 : decode cX7_solve 45 = .ok (.getfield 42, 3) := by decide +kernel
theorem dX7_solve_48 : decode cX7_solve 48 = .ok (.getfield 337, 3) := by decide +kernel
theorem dX7_solve_51 : decode cX7_solve 51 = .ok (.ireturn, 1) := by decide +kernel
theorem dX7_isSort_0 : decode cX7_isSort 0 = .ok (.iload_n 0, 1) := by decide +kernel
theorem dX7_isSort_1 : decode cX7_isSort 1 = .ok (.iconst 4, 1) := by decide +kernel
theorem dX7_isSort_2 : decode cX7_isSort 2 = .ok (.invokestatic 170, 3) := by decide +kernel
theorem dX7_isSort_5 : decode cX7_isSort 5 = .ok (.ireturn, 1) := by decide +kernel
theorem dX7_isBelow_0 : decode cX7_isBelow 0 = .ok (.iload_n 0, 1) := by decide +kernel
theorem dX7_isBelow_1 : decode cX7_isBelow 1 = .ok (.ifCond .lt 12, 3) := by decide +kernel
theorem dX7_isBelow_4 : decode cX7_isBelow 4 = .ok (.iload_n 0, 1) := by decide +kernel
theorem dX7_isBelow_5 : decode cX7_isBelow 5 = .ok (.iload_n 1, 1) := by decide +kernel
theorem dX7_isBelow_6 : decode cX7_isBelow 6 = .ok (.if_icmp .ge 7, 3) := by decide +kernel
theorem dX7_isBelow_9 : decode cX7_isBelow 9 = .ok (.iconst 1, 1) := by decide +kernel
theorem dX7_isBelow_10 : decode cX7_isBelow 10 = .ok (.goto 4, 3) := by decide +kernel
theorem dX7_isBelow_13 : decode cX7_isBelow 13 = .ok (.iconst 0, 1) := by decide +kernel
theorem dX7_isBelow_14 : decode cX7_isBelow 14 = .ok (.ireturn, 1) := by decide +kernel
theorem dX7_isWithin_0 : decode cX7_isWithin 0 = .ok (.iload_n 0, 1) := by decide +kernel
theorem dX7_isWithin_1 : decode cX7_isWithin 1 = .ok (.iload_n 1, 1) := by decide +kernel
theorem dX7_isWithin_2 : decode cX7_isWithin 2 = .ok (.if_icmp .lt 12, 3) := by decide +kernel
theorem dX7_isWithin_5 : decode cX7_isWithin 5 = .ok (.iload_n 0, 1) := by decide +kernel
theorem dX7_isWithin_6 : decode cX7_isWithin 6 = .ok (.iload_n 2, 1) := by decide +kernel
theorem dX7_isWithin_7 : decode cX7_isWithin 7 = .ok (.if_icmp .gt 7, 3) := by decide +kernel
theorem dX7_isWithin_10 : decode cX7_isWithin 10 = .ok (.iconst 1, 1) := by decide +kernel
theorem dX7_isWithin_11 : decode cX7_isWithin 11 = .ok (.goto 4, 3) := by decide +kernel
theorem dX7_isWithin_14 : decode cX7_isWithin 14 = .ok (.iconst 0, 1) := by decide +kernel
theorem dX7_isWithin_15 : decode cX7_isWithin 15 = .ok (.ireturn, 1) := by decide +kernel
theorem dX7_at_0 : decode cX7_at 0 = .ok (.iload_n 1, 1) := by decide +kernel
theorem dX7_at_1 : decode cX7_at 1 = .ok (.ifCond .lt 15, 3) := by decide +kernel
theorem dX7_at_4 : decode cX7_at 4 = .ok (.iload_n 1, 1) := by decide +kernel
theorem dX7_at_5 : decode cX7_at 5 = .ok (.aload_n 0, 1) := by decide +kernel
theorem dX7_at_6 : decode cX7_at 6 = .ok (.arraylength, 1) := by decide +kernel
theorem dX7_at_7 : decode cX7_at 7 = .ok (.if_icmp .ge 9, 3) := by decide +kernel
theorem dX7_at_10 : decode cX7_at 10 = .ok (.aload_n 0, 1) := by decide +kernel
theorem dX7_at_11 : decode cX7_at 11 = .ok (.iload_n 1, 1) := by decide +kernel
theorem dX7_at_12 : decode cX7_at 12 = .ok (.iaload, 1) := by decide +kernel
theorem dX7_at_13 : decode cX7_at 13 = .ok (.goto 4, 3) := by decide +kernel
theorem dX7_at_16 : decode cX7_at 16 = .ok (.iconst 0, 1) := by decide +kernel
theorem dX7_at_17 : decode cX7_at 17 = .ok (.ireturn, 1) := by decide +kernel
theorem dX7_put_0 : decode cX7_put 0 = .ok (.iload_n 1, 1) := by decide +kernel
theorem dX7_put_1 : decode cX7_put 1 = .ok (.ifCond .lt 13, 3) := by decide +kernel
theorem dX7_put_4 : decode cX7_put 4 = .ok (.iload_n 1, 1) := by decide +kernel
theorem dX7_put_5 : decode cX7_put 5 = .ok (.aload_n 0, 1) := by decide +kernel
theorem dX7_put_6 : decode cX7_put 6 = .ok (.arraylength, 1) := by decide +kernel
theorem dX7_put_7 : decode cX7_put 7 = .ok (.if_icmp .ge 7, 3) := by decide +kernel
theorem dX7_put_10 : decode cX7_put 10 = .ok (.aload_n 0, 1) := by decide +kernel
theorem dX7_put_11 : decode cX7_put 11 = .ok (.iload_n 1, 1) := by decide +kernel
theorem dX7_put_12 : decode cX7_put 12 = .ok (.iload_n 2, 1) := by decide +kernel
theorem dX7_put_13 : decode cX7_put 13 = .ok (.iastore, 1) := by decide +kernel
theorem dX7_put_14 : decode cX7_put 14 = .ok (.return_, 1) := by decide +kernel
theorem dX7_raise_0 : decode cX7_raise 0 = .ok (.iload_n 1, 1) := by decide +kernel
theorem dX7_raise_1 : decode cX7_raise 1 = .ok (.ifCond .lt 16, 3) := by decide +kernel
theorem dX7_raise_4 : decode cX7_raise 4 = .ok (.iload_n 1, 1) := by decide +kernel
theorem dX7_raise_5 : decode cX7_raise 5 = .ok (.aload_n 0, 1) := by decide +kernel
theorem dX7_raise_6 : decode cX7_raise 6 = .ok (.arraylength, 1) := by decide +kernel
theorem dX7_raise_7 : decode cX7_raise 7 = .ok (.if_icmp .ge 10, 3) := by decide +kernel
theorem dX7_raise_10 : decode cX7_raise 10 = .ok (.aload_n 0, 1) := by decide +kernel
theorem dX7_raise_11 : decode cX7_raise 11 = .ok (.iload_n 1, 1) := by decide +kernel
theorem dX7_raise_12 : decode cX7_raise 12 = .ok (.dup2, 1) := by decide +kernel
theorem dX7_raise_13 : decode cX7_raise 13 = .ok (.iaload, 1) := by decide +kernel
theorem dX7_raise_14 : decode cX7_raise 14 = .ok (.iload_n 2, 1) := by decide +kernel
theorem dX7_raise_15 : decode cX7_raise 15 = .ok (.iadd, 1) := by decide +kernel
theorem dX7_raise_16 : decode cX7_raise 16 = .ok (.iastore, 1) := by decide +kernel
theorem dX7_raise_17 : decode cX7_raise 17 = .ok (.return_, 1) := by decide +kernel
theorem dX7_inside_0 : decode cX7_inside 0 = .ok (.iload_n 0, 1) := by decide +kernel
theorem dX7_inside_1 : decode cX7_inside 1 = .ok (.bipush 8, 2) := by decide +kernel
theorem dX7_inside_3 : decode cX7_inside 3 = .ok (.iload_n 1, 1) := by decide +kernel
theorem dX7_inside_4 : decode cX7_inside 4 = .ok (.imul, 1) := by decide +kernel
theorem dX7_inside_5 : decode cX7_inside 5 = .ok (.iushr, 1) := by decide +kernel
theorem dX7_inside_6 : decode cX7_inside 6 = .ok (.sipush 255, 3) := by decide +kernel
theorem dX7_inside_9 : decode cX7_inside 9 = .ok (.iand, 1) := by decide +kernel
theorem dX7_inside_10 : decode cX7_inside 10 = .ok (.ireturn, 1) := by decide +kernel
theorem dX7_swapped_0 : decode cX7_swapped 0 = .ok (.iload_n 0, 1) := by decide +kernel
theorem dX7_swapped_1 : decode cX7_swapped 1 = .ok (.iload_n 1, 1) := by decide +kernel
theorem dX7_swapped_2 : decode cX7_swapped 2 = .ok (.invokestatic 154, 3) := by decide +kernel
theorem dX7_swapped_5 : decode cX7_swapped 5 = .ok (.iload_n 0, 1) := by decide +kernel
theorem dX7_swapped_6 : decode cX7_swapped 6 = .ok (.iload_n 2, 1) := by decide +kernel
theorem dX7_swapped_7 : decode cX7_swapped 7 = .ok (.invokestatic 154, 3) := by decide +kernel
theorem dX7_swapped_10 : decode cX7_swapped 10 = .ok (.ixor, 1) := by decide +kernel
theorem dX7_swapped_11 : decode cX7_swapped 11 = .ok (.istore_n 3, 1) := by decide +kernel
theorem dX7_swapped_12 : decode cX7_swapped 12 = .ok (.iload_n 0, 1) := by decide +kernel
theorem dX7_swapped_13 : decode cX7_swapped 13 = .ok (.iload_n 3, 1) := by decide +kernel
theorem dX7_swapped_14 : decode cX7_swapped 14 = .ok (.bipush 8, 2) := by decide +kernel
theorem dX7_swapped_16 : decode cX7_swapped 16 = .ok (.iload_n 1, 1) := by decide +kernel
theorem dX7_swapped_17 : decode cX7_swapped 17 = .ok (.imul, 1) := by decide +kernel
theorem dX7_swapped_18 : decode cX7_swapped 18 = .ok (.ishl, 1) := by decide +kernel
theorem dX7_swapped_19 : decode cX7_swapped 19 = .ok (.ixor, 1) := by decide +kernel
theorem dX7_swapped_20 : decode cX7_swapped 20 = .ok (.iload_n 3, 1) := by decide +kernel
theorem dX7_swapped_21 : decode cX7_swapped 21 = .ok (.bipush 8, 2) := by decide +kernel
theorem dX7_swapped_23 : decode cX7_swapped 23 = .ok (.iload_n 2, 1) := by decide +kernel
theorem dX7_swapped_24 : decode cX7_swapped 24 = .ok (.imul, 1) := by decide +kernel
theorem dX7_swapped_25 : decode cX7_swapped 25 = .ok (.ishl, 1) := by decide +kernel
theorem dX7_swapped_26 : decode cX7_swapped 26 = .ok (.ixor, 1) := by decide +kernel
theorem dX7_swapped_27 : decode cX7_swapped 27 = .ok (.ireturn, 1) := by decide +kernel
theorem dX7_trialOf_0 : decode cX7_trialOf 0 = .ok (.iconst 4, 1) := by decide +kernel
theorem dX7_trialOf_1 : decode cX7_trialOf 1 = .ok (.iload_n 0, 1) := by decide +kernel
theorem dX7_trialOf_2 : decode cX7_trialOf 2 = .ok (.imul, 1) := by decide +kernel
theorem dX7_trialOf_3 : decode cX7_trialOf 3 = .ok (.iload_n 1, 1) := by decide +kernel
theorem dX7_trialOf_4 : decode cX7_trialOf 4 = .ok (.iadd, 1) := by decide +kernel
theorem dX7_trialOf_5 : decode cX7_trialOf 5 = .ok (.ireturn, 1) := by decide +kernel
theorem dX7_parcelOf_0 : decode cX7_parcelOf 0 = .ok (.iload_n 0, 1) := by decide +kernel
theorem dX7_parcelOf_1 : decode cX7_parcelOf 1 = .ok (.iconst 4, 1) := by decide +kernel
theorem dX7_parcelOf_2 : decode cX7_parcelOf 2 = .ok (.idiv, 1) := by decide +kernel
theorem dX7_parcelOf_3 : decode cX7_parcelOf 3 = .ok (.ireturn, 1) := by decide +kernel
theorem dX7_sortOf_0 : decode cX7_sortOf 0 = .ok (.iload_n 0, 1) := by decide +kernel
theorem dX7_sortOf_1 : decode cX7_sortOf 1 = .ok (.iconst 4, 1) := by decide +kernel
theorem dX7_sortOf_2 : decode cX7_sortOf 2 = .ok (.irem, 1) := by decide +kernel
theorem dX7_sortOf_3 : decode cX7_sortOf 3 = .ok (.ireturn, 1) := by decide +kernel
theorem dX7_inLowestTerms_0 : decode cX7_inLowestTerms 0 = .ok (.lload_n 0, 1) := by decide +kernel
theorem dX7_inLowestTerms_1 : decode cX7_inLowestTerms 1 = .ok (.lstore 5, 2) := by decide +kernel
theorem dX7_inLowestTerms_3 : decode cX7_inLowestTerms 3 = .ok (.lload_n 2, 1) := by decide +kernel
theorem dX7_inLowestTerms_4 : decode cX7_inLowestTerms 4 = .ok (.lstore 7, 2) := by decide +kernel
theorem dX7_inLowestTerms_6 : decode cX7_inLowestTerms 6 = .ok (.iconst 0, 1) := by decide +kernel
theorem dX7_inLowestTerms_7 : decode cX7_inLowestTerms 7 = .ok (.istore 9, 2) := by decide +kernel
theorem dX7_inLowestTerms_9 : decode cX7_inLowestTerms 9 = .ok (.iload 9, 2) := by decide +kernel
theorem dX7_inLowestTerms_11 : decode cX7_inLowestTerms 11 = .ok (.sipush 200, 3) := by decide +kernel
theorem dX7_inLowestTerms_14 : decode cX7_inLowestTerms 14 = .ok (.if_icmp .ge 31, 3) := by decide +kernel
theorem dX7_inLowestTerms_17 : decode cX7_inLowestTerms 17 = .ok (.lload 7, 2) := by decide +kernel
theorem dX7_inLowestTerms_19 : decode cX7_inLowestTerms 19 = .ok (.lconst 0, 1) := by decide +kernel
theorem dX7_inLowestTerms_20 : decode cX7_inLowestTerms 20 = .ok (.lcmp, 1) := by decide +kernel
theorem dX7_inLowestTerms_21 : decode cX7_inLowestTerms 21 = .ok (.ifCond .eq 24, 3) := by decide +kernel
theorem dX7_inLowestTerms_24 : decode cX7_inLowestTerms 24 = .ok (.lload 5, 2) := by decide +kernel
theorem dX7_inLowestTerms_26 : decode cX7_inLowestTerms 26 = .ok (.lload 7, 2) := by decide +kernel
theorem dX7_inLowestTerms_28 : decode cX7_inLowestTerms 28 = .ok (.lrem, 1) := by decide +kernel
theorem dX7_inLowestTerms_29 : decode cX7_inLowestTerms 29 = .ok (.lstore 10, 2) := by decide +kernel
theorem dX7_inLowestTerms_31 : decode cX7_inLowestTerms 31 = .ok (.lload 7, 2) := by decide +kernel
theorem dX7_inLowestTerms_33 : decode cX7_inLowestTerms 33 = .ok (.lstore 5, 2) := by decide +kernel
theorem dX7_inLowestTerms_35 : decode cX7_inLowestTerms 35 = .ok (.lload 10, 2) := by decide +kernel
theorem dX7_inLowestTerms_37 : decode cX7_inLowestTerms 37 = .ok (.lstore 7, 2) := by decide +kernel
theorem dX7_inLowestTerms_39 : decode cX7_inLowestTerms 39 = .ok (.iinc 9 1, 3) := by decide +kernel
theorem dX7_inLowestTerms_42 : decode cX7_inLowestTerms 42 = .ok (.goto (-33), 3) := by decide +kernel
theorem dX7_inLowestTerms_45 : decode cX7_inLowestTerms 45 = .ok (.iload 4, 2) := by decide +kernel
theorem dX7_inLowestTerms_47 : decode cX7_inLowestTerms 47 = .ok (.ifCond .ne 7, 3) := by decide +kernel
theorem dX7_inLowestTerms_50 : decode cX7_inLowestTerms 50 = .ok (.lload_n 0, 1) := by decide +kernel
theorem dX7_inLowestTerms_51 : decode cX7_inLowestTerms 51 = .ok (.goto 4, 3) := by decide +kernel
theorem dX7_inLowestTerms_54 : decode cX7_inLowestTerms 54 = .ok (.lload_n 2, 1) := by decide +kernel
theorem dX7_inLowestTerms_55 : decode cX7_inLowestTerms 55 = .ok (.lstore 9, 2) := by decide +kernel
theorem dX7_inLowestTerms_57 : decode cX7_inLowestTerms 57 = .ok (.lload 5, 2) := by decide +kernel
theorem dX7_inLowestTerms_59 : decode cX7_inLowestTerms 59 = .ok (.lconst 0, 1) := by decide +kernel
theorem dX7_inLowestTerms_60 : decode cX7_inLowestTerms 60 = .ok (.lcmp, 1) := by decide +kernel
theorem dX7_inLowestTerms_61 : decode cX7_inLowestTerms 61 = .ok (.ifCond .ne 8, 3) := by decide +kernel
theorem dX7_inLowestTerms_64 : decode cX7_inLowestTerms 64 = .ok (.lload 9, 2) := by decide +kernel
theorem dX7_inLowestTerms_66 : decode cX7_inLowestTerms 66 = .ok (.goto 8, 3) := by decide +kernel
theorem dX7_inLowestTerms_69 : decode cX7_inLowestTerms 69 = .ok (.lload 9, 2) := by decide +kernel
theorem dX7_inLowestTerms_71 : decode cX7_inLowestTerms 71 = .ok (.lload 5, 2) := by decide +kernel
theorem dX7_inLowestTerms_73 : decode cX7_inLowestTerms 73 = .ok (.ldiv, 1) := by decide +kernel
theorem dX7_inLowestTerms_74 : decode cX7_inLowestTerms 74 = .ok (.lreturn, 1) := by decide +kernel
theorem dX8_init_0 : decode cX8_init 0 = .ok (.aload_n 0, 1) := by decide +kernel
theorem dX8_init_1 : decode cX8_init 1 = .ok (.invokespecial 1, 3) := by decide +kernel
theorem dX8_init_4 : decode cX8_init 4 = .ok (.aload_n 0, 1) := by decide +kernel
theorem dX8_init_5 : decode cX8_init 5 = .ok (.sipush 200, 3) := by decide +kernel
theorem dX8_init_8 : decode cX8_init 8 = .ok (.newarray .int, 2) := by decide +kernel
theorem dX8_init_10 : decode cX8_init 10 = .ok (.putfield 7, 3) := by decide +kernel
theorem dX8_init_13 : decode cX8_init 13 = .ok (.aload_n 0, 1) := by decide +kernel
theorem dX8_init_14 : decode cX8_init 14 = .ok (.iconst 2, 1) := by decide +kernel
theorem dX8_init_15 : decode cX8_init 15 = .ok (.newarray .int, 2) := by decide +kernel
theorem dX8_init_17 : decode cX8_init 17 = .ok (.putfield 13, 3) := by decide +kernel
theorem dX8_init_20 : decode cX8_init 20 = .ok (.aload_n 0, 1) := by decide +kernel
theorem dX8_init_21 : decode cX8_init 21 = .ok (.bipush 16, 2) := by decide +kernel
theorem dX8_init_23 : decode cX8_init 23 = .ok (.newarray .int, 2) := by decide +kernel
theorem dX8_init_25 : decode cX8_init 25 = .ok (.putfield 16, 3) := by decide +kernel
theorem dX8_init_28 : decode cX8_init 28 = .ok (.aload_n 0, 1) := by decide +kernel
theorem dX8_init_29 : decode cX8_init 29 = .ok (.bipush 16, 2) := by decide +kernel
theorem dX8_init_31 : decode cX8_init 31 = .ok (.newarray .int, 2) := by decide +kernel
theorem dX8_init_33 : decode cX8_init 33 = .ok (.putfield 19, 3) := by decide +kernel
theorem dX8_init_36 : decode cX8_init 36 = .ok (.aload_n 0, 1) := by decide +kernel
theorem dX8_init_37 : decode cX8_init 37 = .ok (.bipush 16, 2) := by decide +kernel
theorem dX8_init_39 : decode cX8_init 39 = .ok (.newarray .int, 2) := by decide +kernel
theorem dX8_init_41 : decode cX8_init 41 = .ok (.putfield 22, 3) := by decide +kernel
theorem dX8_init_44 : decode cX8_init 44 = .ok (.aload_n 0, 1) := by decide +kernel
theorem dX8_init_45 : decode cX8_init 45 = .ok (.bipush 16, 2) := by decide +kernel
theorem dX8_init_47 : decode cX8_init 47 = .ok (.newarray .int, 2) := by decide +kernel
theorem dX8_init_49 : decode cX8_init 49 = .ok (.putfield 25, 3) := by decide +kernel
theorem dX8_init_52 : decode cX8_init 52 = .ok (.aload_n 0, 1) := by decide +kernel
theorem dX8_init_53 : decode cX8_init 53 = .ok (.iconst 2, 1) := by decide +kernel
theorem dX8_init_54 : decode cX8_init 54 = .ok (.newarray .int, 2) := by decide +kernel
theorem dX8_init_56 : decode cX8_init 56 = .ok (.putfield 28, 3) := by decide +kernel
theorem dX8_init_59 : decode cX8_init 59 = .ok (.aload_n 0, 1) := by decide +kernel
theorem dX8_init_60 : decode cX8_init 60 = .ok (.bipush 8, 2) := by decide +kernel
theorem dX8_init_62 : decode cX8_init 62 = .ok (.newarray .int, 2) := by decide +kernel
theorem dX8_init_64 : decode cX8_init 64 = .ok (.putfield 31, 3) := by decide +kernel
theorem dX8_init_67 : decode cX8_init 67 = .ok (.aload_n 0, 1) := by decide +kernel
theorem dX8_init_68 : decode cX8_init 68 = .ok (.bipush 8, 2) := by decide +kernel
theorem dX8_init_70 : decode cX8_init 70 = .ok (.newarray .int, 2) := by decide +kernel
theorem dX8_init_72 : decode cX8_init 72 = .ok (.putfield 34, 3) := by decide +kernel
theorem dX8_init_75 : decode cX8_init 75 = .ok (.aload_n 0, 1) := by decide +kernel
theorem dX8_init_76 : decode cX8_init 76 = .ok (.bipush 8, 2) := by decide +kernel
theorem dX8_init_78 : decode cX8_init 78 = .ok (.newarray .int, 2) := by decide +kernel
theorem dX8_init_80 : decode cX8_init 80 = .ok (.putfield 37, 3) := by decide +kernel
theorem dX8_init_83 : decode cX8_init 83 = .ok (.aload_n 0, 1) := by decide +kernel
theorem dX8_init_84 : decode cX8_init 84 = .ok (.iconst 2, 1) := by decide +kernel
theorem dX8_init_85 : decode cX8_init 85 = .ok (.newarray .int, 2) := by decide +kernel
theorem dX8_init_87 : decode cX8_init 87 = .ok (.putfield 40, 3) := by decide +kernel
theorem dX8_init_90 : decode cX8_init 90 = .ok (.aload_n 0, 1) := by decide +kernel
theorem dX8_init_91 : decode cX8_init 91 = .ok (.iconst 2, 1) := by decide +kernel
theorem dX8_init_92 : decode cX8_init 92 = .ok (.newarray .int, 2) := by decide +kernel
theorem dX8_init_94 : decode cX8_init 94 = .ok (.putfield 43, 3) := by decide +kernel
theorem dX8_init_97 : decode cX8_init 97 = .ok (.aload_n 0, 1) := by decide +kernel
theorem dX8_init_98 : decode cX8_init 98 = .ok (.bipush 8, 2) := by decide +kernel
theorem dX8_init_100 : decode cX8_init 100 = .ok (.newarray .int, 2) := by decide +kernel
theorem dX8_init_102 : decode cX8_init 102 = .ok (.putfield 46, 3) := by decide +kernel
theorem dX8_init_105 : decode cX8_init 105 = .ok (.aload_n 0, 1) := by decide +kernel
theorem dX8_init_106 : decode cX8_init 106 = .ok (.bipush 8, 2) := by decide +kernel
theorem dX8_init_108 : decode cX8_init 108 = .ok (.newarray .int, 2) := by decide +kernel
theorem dX8_init_110 : decode cX8_init 110 = .ok (.putfield 49, 3) := by decide +kernel
theorem dX8_init_113 : decode cX8_init 113 = .ok (.aload_n 0, 1) := by decide +kernel
theorem dX8_init_114 : decode cX8_init 114 = .ok (.iconst 4, 1) := by decide +kernel
theorem dX8_init_115 : decode cX8_init 115 = .ok (.newarray .int, 2) := by decide +kernel
theorem dX8_init_117 : decode cX8_init 117 = .ok (.putfield 52, 3) := by decide +kernel
theorem dX8_init_120 : decode cX8_init 120 = .ok (.aload_n 0, 1) := by decide +kernel
theorem dX8_init_121 : decode cX8_init 121 = .ok (.sipush 5040, 3) := by decide +kernel
theorem dX8_init_124 : decode cX8_init 124 = .ok (.newarray .int, 2) := by decide +kernel
theorem dX8_init_126 : decode cX8_init 126 = .ok (.putfield 55, 3) := by decide +kernel
theorem dX8_init_129 : decode cX8_init 129 = .ok (.aload_n 0, 1) := by decide +kernel
theorem dX8_init_130 : decode cX8_init 130 = .ok (.bipush 21, 2) := by decide +kernel
theorem dX8_init_132 : decode cX8_init 132 = .ok (.newarray .int, 2) := by decide +kernel
theorem dX8_init_134 : decode cX8_init 134 = .ok (.putfield 58, 3) := by decide +kernel
theorem dX8_init_137 : decode cX8_init 137 = .ok (.aload_n 0, 1) := by decide +kernel
theorem dX8_init_138 : decode cX8_init 138 = .ok (.sipush 168, 3) := by decide +kernel
theorem dX8_init_141 : decode cX8_init 141 = .ok (.newarray .int, 2) := by decide +kernel
theorem dX8_init_143 : decode cX8_init 143 = .ok (.putfield 61, 3) := by decide +kernel
theorem dX8_init_146 : decode cX8_init 146 = .ok (.aload_n 0, 1) := by decide +kernel
theorem dX8_init_147 : decode cX8_init 147 = .ok (.bipush 42, 2) := by decide +kernel
theorem dX8_init_149 : decode cX8_init 149 = .ok (.newarray .int, 2) := by decide +kernel
theorem dX8_init_151 : decode cX8_init 151 = .ok (.putfield 64, 3) := by decide +kernel
theorem dX8_init_154 : decode cX8_init 154 = .ok (.aload_n 0, 1) := by decide +kernel
theorem dX8_init_155 : decode cX8_init 155 = .ok (.iconst 4, 1) := by decide +kernel
theorem dX8_init_156 : decode cX8_init 156 = .ok (.newarray .int, 2) := by decide +kernel
theorem dX8_init_158 : decode cX8_init 158 = .ok (.putfield 67, 3) := by decide +kernel
theorem dX8_init_161 : decode cX8_init 161 = .ok (.aload_n 0, 1) := by decide +kernel
theorem dX8_init_162 : decode cX8_init 162 = .ok (.sipush 5040, 3) := by decide +kernel
theorem dX8_init_165 : decode cX8_init 165 = .ok (.newarray .int, 2) := by decide +kernel
theorem dX8_init_167 : decode cX8_init 167 = .ok (.putfield 70, 3) := by decide +kernel
theorem dX8_init_170 : decode cX8_init 170 = .ok (.aload_n 0, 1) := by decide +kernel
theorem dX8_init_171 : decode cX8_init 171 = .ok (.sipush 5040, 3) := by decide +kernel
theorem dX8_init_174 : decode cX8_init 174 = .ok (.newarray .boolean, 2) := by decide +kernel
theorem dX8_init_176 : decode cX8_init 176 = .ok (.putfield 73, 3) := by decide +kernel
theorem dX8_init_179 : decode cX8_init 179 = .ok (.aload_n 0, 1) := by decide +kernel
theorem dX8_init_180 : decode cX8_init 180 = .ok (.sipush 256, 3) := by decide +kernel
theorem dX8_init_183 : decode cX8_init 183 = .ok (.newarray .long, 2) := by decide +kernel
theorem dX8_init_185 : decode cX8_init 185 = .ok (.putfield 77, 3) := by decide +kernel
theorem dX8_init_188 : decode cX8_init 188 = .ok (.aload_n 0, 1) := by decide +kernel
theorem dX8_init_189 : decode cX8_init 189 = .ok (.bipush 60, 2) := by decide +kernel
theorem dX8_init_191 : decode cX8_init 191 = .ok (.newarray .int, 2) := by decide +kernel
theorem dX8_init_193 : decode cX8_init 193 = .ok (.putfield 81, 3) := by decide +kernel
theorem dX8_init_196 : decode cX8_init 196 = .ok (.aload_n 0, 1) := by decide +kernel
theorem dX8_init_197 : decode cX8_init 197 = .ok (.sipush 3600, 3) := by decide +kernel
theorem dX8_init_200 : decode cX8_init 200 = .ok (.newarray .int, 2) := by decide +kernel
theorem dX8_init_202 : decode cX8_init 202 = .ok (.putfield 84, 3) := by decide +kernel
theorem dX8_init_205 : decode cX8_init 205 = .ok (.aload_n 0, 1) := by decide +kernel
theorem dX8_init_206 : decode cX8_init 206 = .ok (.bipush 60, 2) := by decide +kernel
theorem dX8_init_208 : decode cX8_init 208 = .ok (.newarray .boolean, 2) := by decide +kernel
theorem dX8_init_210 : decode cX8_init 210 = .ok (.putfield 87, 3) := by decide +kernel
theorem dX8_init_213 : decode cX8_init 213 = .ok (.aload_n 0, 1) := by decide +kernel
theorem dX8_init_214 : decode cX8_init 214 = .ok (.iconst 0, 1) := by decide +kernel
theorem dX8_init_215 : decode cX8_init 215 = .ok (.invokevirtual 90, 3) := by decide +kernel
theorem dX8_init_218 : decode cX8_init 218 = .ok (.aload_n 0, 1) := by decide +kernel
theorem dX8_init_219 : decode cX8_init 219 = .ok (.iconst 0, 1) := by decide +kernel
theorem dX8_init_220 : decode cX8_init 220 = .ok (.iconst 5, 1) := by decide +kernel
theorem dX8_init_221 : decode cX8_init 221 = .ok (.iconst 0, 1) := by decide +kernel
theorem dX8_init_222 : decode cX8_init 222 = .ok (.iconst 3, 1) := by decide +kernel
theorem dX8_init_223 : decode cX8_init 223 = .ok (.iconst 4, 1) := by decide +kernel
theorem dX8_init_224 : decode cX8_init 224 = .ok (.invokevirtual 94, 3) := by decide +kernel
theorem dX8_init_227 : decode cX8_init 227 = .ok (.aload_n 0, 1) := by decide +kernel
theorem dX8_init_228 : decode cX8_init 228 = .ok (.iconst 0, 1) := by decide +kernel
theorem dX8_init_229 : decode cX8_init 229 = .ok (.bipush 9, 2) := by decide +kernel
theorem dX8_init_231 : decode cX8_init 231 = .ok (.iconst 1, 1) := by decide +kernel
theorem dX8_init_232 : decode cX8_init 232 = .ok (.iconst 3, 1) := by decide +kernel
theorem dX8_init_233 : decode cX8_init 233 = .ok (.iconst 2, 1) := by decide +kernel
theorem dX8_init_234 : decode cX8_init 234 = .ok (.invokevirtual 94, 3) := by decide +kernel
theorem dX8_init_237 : decode cX8_init 237 = .ok (.aload_n 0, 1) := by decide +kernel
theorem dX8_init_238 : decode cX8_init 238 = .ok (.iconst 0, 1) := by decide +kernel
theorem dX8_init_239 : decode cX8_init 239 = .ok (.iconst 5, 1) := by decide +kernel
theorem dX8_init_240 : decode cX8_init 240 = .ok (.iconst 2, 1) := by decide +kernel
theorem dX8_init_241 : decode cX8_init 241 = .ok (.iconst 4, 1) := by decide +kernel
theorem dX8_init_242 : decode cX8_init 242 = .ok (.iconst 1, 1) := by decide +kernel
theorem dX8_init_243 : decode cX8_init 243 = .ok (.invokevirtual 94, 3) := by decide +kernel
theorem dX8_init_246 : decode cX8_init 246 = .ok (.aload_n 0, 1) := by decide +kernel
theorem dX8_init_247 : decode cX8_init 247 = .ok (.iconst 0, 1) := by decide +kernel
theorem dX8_init_248 : decode cX8_init 248 = .ok (.bipush 7, 2) := by decide +kernel
theorem dX8_init_250 : decode cX8_init 250 = .ok (.iconst 3, 1) := by decide +kernel
theorem dX8_init_251 : decode cX8_init 251 = .ok (.iconst 2, 1) := by decide +kernel
theorem dX8_init_252 : decode cX8_init 252 = .ok (.iconst 3, 1) := by decide +kernel
theorem dX8_init_253 : decode cX8_init 253 = .ok (.invokevirtual 94, 3) := by decide +kernel
theorem dX8_init_256 : decode cX8_init 256 = .ok (.aload_n 0, 1) := by decide +kernel
theorem dX8_init_257 : decode cX8_init 257 = .ok (.iconst 0, 1) := by decide +kernel
theorem dX8_init_258 : decode cX8_init 258 = .ok (.iconst 1, 1) := by decide +kernel
theorem dX8_init_259 : decode cX8_init 259 = .ok (.iconst 0, 1) := by decide +kernel
theorem dX8_init_260 : decode cX8_init 260 = .ok (.iconst 1, 1) := by decide +kernel
theorem dX8_init_261 : decode cX8_init 261 = .ok (.invokevirtual 98, 3) := by decide +kernel
theorem dX8_init_264 : decode cX8_init 264 = .ok (.aload_n 0, 1) := by decide +kernel
theorem dX8_init_265 : decode cX8_init 265 = .ok (.iconst 0, 1) := by decide +kernel
theorem dX8_init_266 : decode cX8_init 266 = .ok (.iconst 2, 1) := by decide +kernel
theorem dX8_init_267 : decode cX8_init 267 = .ok (.iconst 1, 1) := by decide +kernel
theorem dX8_init_268 : decode cX8_init 268 = .ok (.iconst 2, 1) := by decide +kernel
theorem dX8_init_269 : decode cX8_init 269 = .ok (.invokevirtual 98, 3) := by decide +kernel
theorem dX8_init_272 : decode cX8_init 272 = .ok (.aload_n 0, 1) := by decide +kernel
theorem dX8_init_273 : decode cX8_init 273 = .ok (.getfield 40, 3) := by decide +kernel
theorem dX8_init_276 : decode cX8_init 276 = .ok (.iconst 0, 1) := by decide +kernel
theorem dX8_init_277 : decode cX8_init 277 = .ok (.iconst 2, 1) := by decide +kernel
theorem dX8_init_278 : decode cX8_init 278 = .ok (.iastore, 1) := by decide +kernel
theorem dX8_init_279 : decode cX8_init 279 = .ok (.aload_n 0, 1) := by decide +kernel
theorem dX8_init_280 : decode cX8_init 280 = .ok (.getfield 43, 3) := by decide +kernel
theorem dX8_init_283 : decode cX8_init 283 = .ok (.iconst 0, 1) := by decide +kernel
theorem dX8_init_284 : decode cX8_init 284 = .ok (.iconst 5, 1) := by decide +kernel
theorem dX8_init_285 : decode cX8_init 285 = .ok (.iastore, 1) := by decide +kernel
theorem dX8_init_286 : decode cX8_init 286 = .ok (.aload_n 0, 1) := by decide +kernel
theorem dX8_init_287 : decode cX8_init 287 = .ok (.getfield 46, 3) := by decide +kernel
theorem dX8_init_290 : decode cX8_init 290 = .ok (.iconst 0, 1) := by decide +kernel
theorem dX8_init_291 : decode cX8_init 291 = .ok (.iconst 1, 1) := by decide +kernel
theorem dX8_init_292 : decode cX8_init 292 = .ok (.iastore, 1) := by decide +kernel
theorem dX8_init_293 : decode cX8_init 293 = .ok (.aload_n 0, 1) := by decide +kernel
theorem dX8_init_294 : decode cX8_init 294 = .ok (.getfield 49, 3) := by decide +kernel
theorem dX8_init_297 : decode cX8_init 297 = .ok (.iconst 0, 1) := by decide +kernel
theorem dX8_init_298 : decode cX8_init 298 = .ok (.bipush 20, 2) := by decide +kernel
theorem dX8_init_300 : decode cX8_init 300 = .ok (.iastore, 1) := by decide +kernel
theorem dX8_init_301 : decode cX8_init 301 = .ok (.aload_n 0, 1) := by decide +kernel
theorem dX8_init_302 : decode cX8_init 302 = .ok (.getfield 46, 3) := by decide +kernel
theorem dX8_init_305 : decode cX8_init 305 = .ok (.iconst 2, 1) := by decide +kernel
theorem dX8_init_306 : decode cX8_init 306 = .ok (.iconst 3, 1) := by decide +kernel
theorem dX8_init_307 : decode cX8_init 307 = .ok (.iastore, 1) := by decide +kernel
theorem dX8_init_308 : decode cX8_init 308 = .ok (.aload_n 0, 1) := by decide +kernel
theorem dX8_init_309 : decode cX8_init 309 = .ok (.getfield 49, 3) := by decide +kernel
theorem dX8_init_312 : decode cX8_init 312 = .ok (.iconst 2, 1) := by decide +kernel
theorem dX8_init_313 : decode cX8_init 313 = .ok (.iconst 5, 1) := by decide +kernel
theorem dX8_init_314 : decode cX8_init 314 = .ok (.iastore, 1) := by decide +kernel
theorem dX8_init_315 : decode cX8_init 315 = .ok (.aload_n 0, 1) := by decide +kernel
theorem dX8_init_316 : decode cX8_init 316 = .ok (.getfield 52, 3) := by decide +kernel
theorem dX8_init_319 : decode cX8_init 319 = .ok (.iconst 0, 1) := by decide +kernel
theorem dX8_init_320 : decode cX8_init 320 = .ok (.iconst 4, 1) := by decide +kernel
theorem dX8_init_321 : decode cX8_init 321 = .ok (.iastore, 1) := by decide +kernel
theorem dX8_init_322 : decode cX8_init 322 = .ok (.aload_n 0, 1) := by decide +kernel
theorem dX8_init_323 : decode cX8_init 323 = .ok (.getfield 52, 3) := by decide +kernel
theorem dX8_init_326 : decode cX8_init 326 = .ok (.iconst 1, 1) := by decide +kernel
theorem dX8_init_327 : decode cX8_init 327 = .ok (.bipush 9, 2) := by decide +kernel
theorem dX8_init_329 : decode cX8_init 329 = .ok (.iastore, 1) := by decide +kernel
theorem dX8_init_330 : decode cX8_init 330 = .ok (.aload_n 0, 1) := by decide +kernel
theorem dX8_init_331 : decode cX8_init 331 = .ok (.invokevirtual 102, 3) := by decide +kernel
theorem dX8_init_334 : decode cX8_init 334 = .ok (.return_, 1) := by decide +kernel
theorem dX8_in_0 : decode cX8_in 0 = .ok (.lload_n 0, 1) := by decide +kernel
theorem dX8_in_1 : decode cX8_in 1 = .ok (.lload_n 2, 1) := by decide +kernel
theorem dX8_in_2 : decode cX8_in 2 = .ok (.lcmp, 1) := by decide +kernel
theorem dX8_in_3 : decode cX8_in 3 = .ok (.ifCond .lt 14, 3) := by decide +kernel
theorem dX8_in_6 : decode cX8_in 6 = .ok (.lload_n 0, 1) := by decide +kernel
theorem dX8_in_7 : decode cX8_in 7 = .ok (.lload 4, 2) := by decide +kernel
theorem dX8_in_9 : decode cX8_in 9 = .ok (.lcmp, 1) := by decide +kernel
theorem dX8_in_10 : decode cX8_in 10 = .ok (.ifCond .gt 7, 3) := by decide +kernel
theorem dX8_in_13 : decode cX8_in 13 = .ok (.iconst 1, 1) := by decide +kernel
theorem dX8_in_14 : decode cX8_in 14 = .ok (.goto 4, 3) := by decide +kernel
theorem dX8_in_17 : decode cX8_in 17 = .ok (.iconst 0, 1) := by decide +kernel
theorem dX8_in_18 : decode cX8_in 18 = .ok (.ireturn, 1) := by decide +kernel
theorem dX8_has_0 : decode cX8_has 0 = .ok (.iload_n 0, 1) := by decide +kernel
theorem dX8_has_1 : decode cX8_has 1 = .ok (.iload_n 1, 1) := by decide +kernel
theorem dX8_has_2 : decode cX8_has 2 = .ok (.ishr, 1) := by decide +kernel
theorem dX8_has_3 : decode cX8_has 3 = .ok (.iconst 1, 1) := by decide +kernel
theorem dX8_has_4 : decode cX8_has 4 = .ok (.iand, 1) := by decide +kernel
theorem dX8_has_5 : decode cX8_has 5 = .ok (.iconst 1, 1) := by decide +kernel
theorem dX8_has_6 : decode cX8_has 6 = .ok (.if_icmp .ne 7, 3) := by decide +kernel
theorem dX8_has_9 : decode cX8_has 9 = .ok (.iconst 1, 1) := by decide +kernel
theorem dX8_has_10 : decode cX8_has 10 = .ok (.goto 4, 3) := by decide +kernel
theorem dX8_has_13 : decode cX8_has 13 = .ok (.iconst 0, 1) := by decide +kernel
theorem dX8_has_14 : decode cX8_has 14 = .ok (.ireturn, 1) := by decide +kernel
theorem dX8_bits_0 : decode cX8_bits 0 = .ok (.iconst 0, 1) := by decide +kernel
theorem dX8_bits_1 : decode cX8_bits 1 = .ok (.istore_n 1, 1) := by decide +kernel
theorem dX8_bits_2 : decode cX8_bits 2 = .ok (.iload_n 0, 1) := by decide +kernel
theorem dX8_bits_3 : decode cX8_bits 3 = .ok (.istore_n 2, 1) := by decide +kernel
theorem dX8_bits_4 : decode cX8_bits 4 = .ok (.iload_n 2, 1) := by decide +kernel
theorem dX8_bits_5 : decode cX8_bits 5 = .ok (.ifCond .eq 15, 3) := by decide +kernel
theorem dX8_bits_8 : decode cX8_bits 8 = .ok (.iinc 1 1, 3) := by decide +kernel
theorem dX8_bits_11 : decode cX8_bits 11 = .ok (.iload_n 2, 1) := by decide +kernel
theorem dX8_bits_12 : decode cX8_bits 12 = .ok (.iload_n 2, 1) := by decide +kernel
theorem dX8_bits_13 : decode cX8_bits 13 = .ok (.iconst 1, 1) := by decide +kernel
theorem dX8_bits_14 : decode cX8_bits 14 = .ok (.isub, 1) := by decide +kernel
theorem dX8_bits_15 : decode cX8_bits 15 = .ok (.iand, 1) := by decide +kernel
theorem dX8_bits_16 : decode cX8_bits 16 = .ok (.istore_n 2, 1) := by decide +kernel
theorem dX8_bits_17 : decode cX8_bits 17 = .ok (.goto (-13), 3) := by decide +kernel
theorem dX8_bits_20 : decode cX8_bits 20 = .ok (.iload_n 1, 1) := by decide +kernel
theorem dX8_bits_21 : decode cX8_bits 21 = .ok (.ireturn, 1) := by decide +kernel
theorem dX8_noTree_0 : decode cX8_noTree 0 = .ok (.aload_n 0, 1) := by decide +kernel
theorem dX8_noTree_1 : decode cX8_noTree 1 = .ok (.getfield 13, 3) := by decide +kernel
theorem dX8_noTree_4 : decode cX8_noTree 4 = .ok (.iload_n 1, 1) := by decide +kernel
theorem dX8_noTree_5 : decode cX8_noTree 5 = .ok (.iconst 0, 1) := by decide +kernel
theorem dX8_noTree_6 : decode cX8_noTree 6 = .ok (.iastore, 1) := by decide +kernel
theorem dX8_noTree_7 : decode cX8_noTree 7 = .ok (.aload_n 0, 1) := by decide +kernel
theorem dX8_noTree_8 : decode cX8_noTree 8 = .ok (.getfield 28, 3) := by decide +kernel
theorem dX8_noTree_11 : decode cX8_noTree 11 = .ok (.iload_n 1, 1) := by decide +kernel
theorem dX8_noTree_12 : decode cX8_noTree 12 = .ok (.iconst 0, 1) := by decide +kernel
theorem dX8_noTree_13 : decode cX8_noTree 13 = .ok (.iastore, 1) := by decide +kernel
theorem dX8_noTree_14 : decode cX8_noTree 14 = .ok (.aload_n 0, 1) := by decide +kernel
theorem dX8_noTree_15 : decode cX8_noTree 15 = .ok (.getfield 40, 3) := by decide +kernel
theorem dX8_noTree_18 : decode cX8_noTree 18 = .ok (.iload_n 1, 1) := by decide +kernel
theorem dX8_noTree_19 : decode cX8_noTree 19 = .ok (.iconst 1, 1) := by decide +kernel
theorem dX8_noTree_20 : decode cX8_noTree 20 = .ok (.iastore, 1) := by decide +kernel
theorem dX8_noTree_21 : decode cX8_noTree 21 = .ok (.aload_n 0, 1) := by decide +kernel
theorem dX8_noTree_22 : decode cX8_noTree 22 = .ok (.getfield 43, 3) := by decide +kernel
theorem dX8_noTree_25 : decode cX8_noTree 25 = .ok (.iload_n 1, 1) := by decide +kernel
theorem dX8_noTree_26 : decode cX8_noTree 26 = .ok (.bipush 40, 2) := by decide +kernel
theorem dX8_noTree_28 : decode cX8_noTree 28 = .ok (.iastore, 1) := by decide +kernel
theorem dX8_noTree_29 : decode cX8_noTree 29 = .ok (.iconst 0, 1) := by decide +kernel
theorem dX8_noTree_30 : decode cX8_noTree 30 = .ok (.istore_n 2, 1) := by decide +kernel
theorem dX8_noTree_31 : decode cX8_noTree 31 = .ok (.iload_n 2, 1) := by decide +kernel
theorem dX8_noTree_32 : decode cX8_noTree 32 = .ok (.iconst 4, 1) := by decide +kernel
theorem dX8_noTree_33 : decode cX8_noTree 33 = .ok (.if_icmp .ge 32, 3) := by decide +kernel
theorem dX8_noTree_36 : decode cX8_noTree 36 = .ok (.aload_n 0, 1) := by decide +kernel
theorem dX8_noTree_37 : decode cX8_noTree 37 = .ok (.getfield 46, 3) := by decide +kernel
theorem dX8_noTree_40 : decode cX8_noTree 40 = .ok (.iconst 4, 1) := by decide +kernel
theorem dX8_noTree_41 : decode cX8_noTree 41 = .ok (.iload_n 1, 1) := by decide +kernel
theorem dX8_noTree_42 : decode cX8_noTree 42 = .ok (.imul, 1) := by decide +kernel
theorem dX8_noTree_43 : decode cX8_noTree 43 = .ok (.iload_n 2, 1) := by decide +kernel
theorem dX8_noTree_44 : decode cX8_noTree 44 = .ok (.iadd, 1) := by decide +kernel
theorem dX8_noTree_45 : decode cX8_noTree 45 = .ok (.iconst 0, 1) := by decide +kernel
theorem dX8_noTree_46 : decode cX8_noTree 46 = .ok (.iastore, 1) := by decide +kernel
theorem dX8_noTree_47 : decode cX8_noTree 47 = .ok (.aload_n 0, 1) := by decide +kernel
theorem dX8_noTree_48 : decode cX8_noTree 48 = .ok (.getfield 49, 3) := by decide +kernel
theorem dX8_noTree_51 : decode cX8_noTree 51 = .ok (.iconst 4, 1) := by decide +kernel
theorem dX8_noTree_52 : decode cX8_noTree 52 = .ok (.iload_n 1, 1) := by decide +kernel
theorem dX8_noTree_53 : decode cX8_noTree 53 = .ok (.imul, 1) := by decide +kernel
theorem dX8_noTree_54 : decode cX8_noTree 54 = .ok (.iload_n 2, 1) := by decide +kernel
theorem dX8_noTree_55 : decode cX8_noTree 55 = .ok (.iadd, 1) := by decide +kernel
theorem dX8_noTree_56 : decode cX8_noTree 56 = .ok (.bipush 10, 2) := by decide +kernel
theorem dX8_noTree_58 : decode cX8_noTree 58 = .ok (.iastore, 1) := by decide +kernel
theorem dX8_noTree_59 : decode cX8_noTree 59 = .ok (.iinc 2 1, 3) := by decide +kernel
theorem dX8_noTree_62 : decode cX8_noTree 62 = .ok (.goto (-31), 3) := by decide +kernel
theorem dX8_noTree_65 : decode cX8_noTree 65 = .ok (.return_, 1) := by decide +kernel
theorem dX8_addThing_0 : decode cX8_addThing 0 = .ok (.bipush 8, 2) := by decide +kernel
theorem dX8_addThing_2 : decode cX8_addThing 2 = .ok (.iload_n 1, 1) := by decide +kernel
theorem dX8_addThing_3 : decode cX8_addThing 3 = .ok (.imul, 1) := by decide +kernel
theorem dX8_addThing_4 : decode cX8_addThing 4 = .ok (.aload_n 0, 1) := by decide +kernel
theorem dX8_addThing_5 : decode cX8_addThing 5 = .ok (.getfield 13, 3) := by decide +kernel
theorem dX8_addThing_8 : decode cX8_addThing 8 = .ok (.iload_n 1, 1) := by decide +kernel
theorem dX8_addThing_9 : decode cX8_addThing 9 = .ok (.iaload, 1) := by decide +kernel
theorem dX8_addThing_10 : decode cX8_addThing 10 = .ok (.iadd, 1) := by decide +kernel
theorem dX8_addThing_11 : decode cX8_addThing 11 = .ok (.istore 6, 2) := by decide +kernel
theorem dX8_addThing_13 : decode cX8_addThing 13 = .ok (.aload_n 0, 1) := by decide +kernel
theorem dX8_addThing_14 : decode cX8_addThing 14 = .ok (.getfield 16, 3) := by decide +kernel
theorem dX8_addThing_17 : decode cX8_addThing 17 = .ok (.iload 6, 2) := by decide +kernel
theorem dX8_addThing_19 : decode cX8_addThing 19 = .ok (.iload_n 2, 1) := by decide +kernel
theorem dX8_addThing_20 : decode cX8_addThing 20 = .ok (.iastore, 1) := by decide +kernel
theorem dX8_addThing_21 : decode cX8_addThing 21 = .ok (.aload_n 0, 1) := by decide +kernel
theorem dX8_addThing_22 : decode cX8_addThing 22 = .ok (.getfield 19, 3) := by decide +kernel
theorem dX8_addThing_25 : decode cX8_addThing 25 = .ok (.iload 6, 2) := by decide +kernel
theorem dX8_addThing_27 : decode cX8_addThing 27 = .ok (.iload_n 3, 1) := by decide +kernel
theorem dX8_addThing_28 : decode cX8_addThing 28 = .ok (.iastore, 1) := by decide +kernel
theorem dX8_addThing_29 : decode cX8_addThing 29 = .ok (.aload_n 0, 1) := by decide +kernel
theorem dX8_addThing_30 : decode cX8_addThing 30 = .ok (.getfield 22, 3) := by decide +kernel
theorem dX8_addThing_33 : decode cX8_addThing 33 = .ok (.iload 6, 2) := by decide +kernel
theorem dX8_addThing_35 : decode cX8_addThing 35 = .ok (.iload 4, 2) := by decide +kernel
theorem dX8_addThing_37 : decode cX8_addThing 37 = .ok (.iastore, 1) := by decide +kernel
theorem dX8_addThing_38 : decode cX8_addThing 38 = .ok (.aload_n 0, 1) := by decide +kernel
theorem dX8_addThing_39 : decode cX8_addThing 39 = .ok (.getfield 25, 3) := by decide +kernel
theorem dX8_addThing_42 : decode cX8_addThing 42 = .ok (.iload 6, 2) := by decide +kernel
theorem dX8_addThing_44 : decode cX8_addThing 44 = .ok (.iload 5, 2) := by decide +kernel
theorem dX8_addThing_46 : decode cX8_addThing 46 = .ok (.iastore, 1) := by decide +kernel
theorem dX8_addThing_47 : decode cX8_addThing 47 = .ok (.aload_n 0, 1) := by decide +kernel
theorem dX8_addThing_48 : decode cX8_addThing 48 = .ok (.getfield 13, 3) := by decide +kernel
theorem dX8_addThing_51 : decode cX8_addThing 51 = .ok (.iload_n 1, 1) := by decide +kernel
theorem dX8_addThing_52 : decode cX8_addThing 52 = .ok (.dup2, 1) := by decide +kernel
theorem dX8_addThing_53 : decode cX8_addThing 53 = .ok (.iaload, 1) := by decide +kernel
theorem dX8_addThing_54 : decode cX8_addThing 54 = .ok (.iconst 1, 1) := by decide +kernel
theorem dX8_addThing_55 : decode cX8_addThing 55 = .ok (.iadd, 1) := by decide +kernel
theorem dX8_addThing_56 : decode cX8_addThing 56 = .ok (.iastore, 1) := by decide +kernel
theorem dX8_addThing_57 : decode cX8_addThing 57 = .ok (.return_, 1) := by decide +kernel
theorem dX8_addParcel_0 : decode cX8_addParcel 0 = .ok (.iconst 4, 1) := by decide +kernel
theorem dX8_addParcel_1 : decode cX8_addParcel 1 = .ok (.iload_n 1, 1) := by decide +kernel
theorem dX8_addParcel_2 : decode cX8_addParcel 2 = .ok (.imul, 1) := by decide +kernel
theorem dX8_addParcel_3 : decode cX8_addParcel 3 = .ok (.aload_n 0, 1) := by decide +kernel
theorem dX8_addParcel_4 : decode cX8_addParcel 4 = .ok (.getfield 28, 3) := by decide +kernel
theorem dX8_addParcel_7 : decode cX8_addParcel 7 = .ok (.iload_n 1, 1) := by decide +kernel
theorem dX8_addParcel_8 : decode cX8_addParcel 8 = .ok (.iaload, 1) := by decide +kernel
theorem dX8_addParcel_9 : decode cX8_addParcel 9 = .ok (.iadd, 1) := by decide +kernel
theorem dX8_addParcel_10 : decode cX8_addParcel 10 = .ok (.istore 5, 2) := by decide +kernel
theorem dX8_addParcel_12 : decode cX8_addParcel 12 = .ok (.aload_n 0, 1) := by decide +kernel
theorem dX8_addParcel_13 : decode cX8_addParcel 13 = .ok (.getfield 31, 3) := by decide +kernel
theorem dX8_addParcel_16 : decode cX8_addParcel 16 = .ok (.iload 5, 2) := by decide +kernel
theorem dX8_addParcel_18 : decode cX8_addParcel 18 = .ok (.iload_n 2, 1) := by decide +kernel
theorem dX8_addParcel_19 : decode cX8_addParcel 19 = .ok (.iastore, 1) := by decide +kernel
theorem dX8_addParcel_20 : decode cX8_addParcel 20 = .ok (.aload_n 0, 1) := by decide +kernel
theorem dX8_addParcel_21 : decode cX8_addParcel 21 = .ok (.getfield 34, 3) := by decide +kernel
theorem dX8_addParcel_24 : decode cX8_addParcel 24 = .ok (.iload 5, 2) := by decide +kernel
theorem dX8_addParcel_26 : decode cX8_addParcel 26 = .ok (.iload_n 3, 1) := by decide +kernel
theorem dX8_addParcel_27 : decode cX8_addParcel 27 = .ok (.iastore, 1) := by decide +kernel
theorem dX8_addParcel_28 : decode cX8_addParcel 28 = .ok (.aload_n 0, 1) := by decide +kernel
theorem dX8_addParcel_29 : decode cX8_addParcel 29 = .ok (.getfield 37, 3) := by decide +kernel
theorem dX8_addParcel_32 : decode cX8_addParcel 32 = .ok (.iload 5, 2) := by decide +kernel
theorem dX8_addParcel_34 : decode cX8_addParcel 34 = .ok (.iload 4, 2) := by decide +kernel
theorem dX8_addParcel_36 : decode cX8_addParcel 36 = .ok (.iastore, 1) := by decide +kernel
theorem dX8_addParcel_37 : decode cX8_addParcel 37 = .ok (.aload_n 0, 1) := by decide +kernel
theorem dX8_addParcel_38 : decode cX8_addParcel 38 = .ok (.getfield 28, 3) := by decide +kernel
theorem dX8_addParcel_41 : decode cX8_addParcel 41 = .ok (.iload_n 1, 1) := by decide +kernel
theorem dX8_addParcel_42 : decode cX8_addParcel 42 = .ok (.dup2, 1) := by decide +kernel
theorem dX8_addParcel_43 : decode cX8_addParcel 43 = .ok (.iaload, 1) := by decide +kernel
theorem dX8_addParcel_44 : decode cX8_addParcel 44 = .ok (.iconst 1, 1) := by decide +kernel
theorem dX8_addParcel_45 : decode cX8_addParcel 45 = .ok (.iadd, 1) := by decide +kernel
theorem dX8_addParcel_46 : decode cX8_addParcel 46 = .ok (.iastore, 1) := by decide +kernel
theorem dX8_addParcel_47 : decode cX8_addParcel 47 = .ok (.return_, 1) := by decide +kernel
theorem dX8_write_0 : decode cX8_write 0 = .ok (.iload_n 1, 1) := by decide +kernel
theorem dX8_write_1 : decode cX8_write 1 = .ok (.i2l, 1) := by decide +kernel
theorem dX8_write_2 : decode cX8_write 2 = .ok (.ldc2_w 105, 3) := by decide +kernel
theorem dX8_write_5 : decode cX8_write 5 = .ok (.ldc2_w 107, 3) := by decide +kernel
theorem dX8_write_8 : decode cX8_write 8 = .ok (.invokestatic 109, 3) := by decide +kernel
theorem dX8_write_11 : decode cX8_write 11 = .ok (.ifCond .ne 5, 3) := by decide +kernel
theorem dX8_write_14 : decode cX8_write 14 = .ok (.iconst (-1), 1) := by decide +kernel
theorem dX8_write_15 : decode cX8_write 15 = .ok (.ireturn, 1) := by decide +kernel
theorem dX8_write_16 : decode cX8_write 16 = .ok (.aload_n 0, 1) := by decide +kernel
theorem dX8_write_17 : decode cX8_write 17 = .ok (.getfield 113, 3) := by decide +kernel
theorem dX8_write_20 : decode cX8_write 20 = .ok (.sipush 200, 3) := by decide +kernel
theorem dX8_write_23 : decode cX8_write 23 = .ok (.if_icmp .ne 6, 3) := by decide +kernel
theorem dX8_write_26 : decode cX8_write 26 = .ok (.bipush (-3), 2) := by decide +kernel
theorem dX8_write_28 : decode cX8_write 28 = .ok (.ireturn, 1) := by decide +kernel
theorem dX8_write_29 : decode cX8_write 29 = .ok (.aload_n 0, 1) := by decide +kernel
theorem dX8_write_30 : decode cX8_write 30 = .ok (.getfield 7, 3) := by decide +kernel
theorem dX8_write_33 : decode cX8_write 33 = .ok (.aload_n 0, 1) := by decide +kernel
theorem dX8_write_34 : decode cX8_write 34 = .ok (.getfield 113, 3) := by decide +kernel
theorem dX8_write_37 : decode cX8_write 37 = .ok (.iload_n 1, 1) := by decide +kernel
theorem dX8_write_38 : decode cX8_write 38 = .ok (.iastore, 1) := by decide +kernel
theorem dX8_write_39 : decode cX8_write 39 = .ok (.aload_n 0, 1) := by decide +kernel
theorem dX8_write_40 : decode cX8_write 40 = .ok (.dup, 1) := by decide +kernel
theorem dX8_write_41 : decode cX8_write 41 = .ok (.getfield 113, 3) := by decide +kernel
theorem dX8_write_44 : decode cX8_write 44 = .ok (.iconst 1, 1) := by decide +kernel
theorem dX8_write_45 : decode cX8_write 45 = .ok (.iadd, 1) := by decide +kernel
