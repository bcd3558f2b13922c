theorem dX8_note_84 : decode cX8_note 84 = .ok (.dup, 1) := by decide +kernel
theorem dX8_note_85 : decode cX8_note 85 = .ok (.getfield 175, 3) := by decide +kernel
theorem dX8_note_88 : decode cX8_note 88 = .ok (.iconst 1, 1) := by decide +kernel
theorem dX8_note_89 : decode cX8_note 89 = .ok (.iadd, 1) := by decide +kernel
theorem dX8_note_90 : decode cX8_note 90 = .ok (.putfield 175, 3) := by decide +kernel
theorem dX8_note_93 : decode cX8_note 93 = .ok (.return_, 1) := by decide +kernel
theorem dX8_addAnswer_0 : decode cX8_addAnswer 0 = .ok (.aload_n 0, 1) := by decide +kernel
theorem dX8_addAnswer_1 : decode cX8_addAnswer 1 = .ok (.invokevirtual 206, 3) := by decide +kernel
theorem dX8_addAnswer_4 : decode cX8_addAnswer 4 = .ok (.aload_n 0, 1) := by decide +kernel
theorem dX8_addAnswer_5 : decode cX8_addAnswer 5 = .ok (.getfield 58, 3) := by decide +kernel
theorem dX8_addAnswer_8 : decode cX8_addAnswer 8 = .ok (.bipush 9, 2) := by decide +kernel
theorem dX8_addAnswer_10 : decode cX8_addAnswer 10 = .ok (.aload_n 0, 1) := by decide +kernel
theorem dX8_addAnswer_11 : decode cX8_addAnswer 11 = .ok (.getfield 58, 3) := by decide +kernel
theorem dX8_addAnswer_14 : decode cX8_addAnswer 14 = .ok (.bipush 8, 2) := by decide +kernel
theorem dX8_addAnswer_16 : decode cX8_addAnswer 16 = .ok (.iaload, 1) := by decide +kernel
theorem dX8_addAnswer_17 : decode cX8_addAnswer 17 = .ok (.iadd, 1) := by decide +kernel
theorem dX8_addAnswer_18 : decode cX8_addAnswer 18 = .ok (.bipush 16, 2) := by decide +kernel
theorem dX8_addAnswer_20 : decode cX8_addAnswer 20 = .ok (.iload_n 3, 1) := by decide +kernel
theorem dX8_addAnswer_21 : decode cX8_addAnswer 21 = .ok (.imul, 1) := by decide +kernel
theorem dX8_addAnswer_22 : decode cX8_addAnswer 22 = .ok (.iconst 4, 1) := by decide +kernel
theorem dX8_addAnswer_23 : decode cX8_addAnswer 23 = .ok (.iload_n 1, 1) := by decide +kernel
theorem dX8_addAnswer_24 : decode cX8_addAnswer 24 = .ok (.imul, 1) := by decide +kernel
theorem dX8_addAnswer_25 : decode cX8_addAnswer 25 = .ok (.iadd, 1) := by decide +kernel
theorem dX8_addAnswer_26 : decode cX8_addAnswer 26 = .ok (.iload_n 2, 1) := by decide +kernel
theorem dX8_addAnswer_27 : decode cX8_addAnswer 27 = .ok (.iadd, 1) := by decide +kernel
theorem dX8_addAnswer_28 : decode cX8_addAnswer 28 = .ok (.iastore, 1) := by decide +kernel
theorem dX8_addAnswer_29 : decode cX8_addAnswer 29 = .ok (.aload_n 0, 1) := by decide +kernel
theorem dX8_addAnswer_30 : decode cX8_addAnswer 30 = .ok (.getfield 58, 3) := by decide +kernel
theorem dX8_addAnswer_33 : decode cX8_addAnswer 33 = .ok (.bipush 8, 2) := by decide +kernel
theorem dX8_addAnswer_35 : decode cX8_addAnswer 35 = .ok (.dup2, 1) := by decide +kernel
theorem dX8_addAnswer_36 : decode cX8_addAnswer 36 = .ok (.iaload, 1) := by decide +kernel
theorem dX8_addAnswer_37 : decode cX8_addAnswer 37 = .ok (.iconst 1, 1) := by decide +kernel
theorem dX8_addAnswer_38 : decode cX8_addAnswer 38 = .ok (.iadd, 1) := by decide +kernel
theorem dX8_addAnswer_39 : decode cX8_addAnswer 39 = .ok (.iastore, 1) := by decide +kernel
theorem dX8_addAnswer_40 : decode cX8_addAnswer 40 = .ok (.return_, 1) := by decide +kernel
theorem dX8_attempt_0 : decode cX8_attempt 0 = .ok (.aload_n 0, 1) := by decide +kernel
theorem dX8_attempt_1 : decode cX8_attempt 1 = .ok (.iload_n 1, 1) := by decide +kernel
theorem dX8_attempt_2 : decode cX8_attempt 2 = .ok (.invokevirtual 189, 3) := by decide +kernel
theorem dX8_attempt_5 : decode cX8_attempt 5 = .ok (.ifCond .eq 15, 3) := by decide +kernel
theorem dX8_attempt_8 : decode cX8_attempt 8 = .ok (.iload_n 2, 1) := by decide +kernel
theorem dX8_attempt_9 : decode cX8_attempt 9 = .ok (.i2l, 1) := by decide +kernel
theorem dX8_attempt_10 : decode cX8_attempt 10 = .ok (.lconst 0, 1) := by decide +kernel
theorem dX8_attempt_11 : decode cX8_attempt 11 = .ok (.ldc2_w 201, 3) := by decide +kernel
theorem dX8_attempt_14 : decode cX8_attempt 14 = .ok (.invokestatic 109, 3) := by decide +kernel
theorem dX8_attempt_17 : decode cX8_attempt 17 = .ok (.ifCond .ne 5, 3) := by decide +kernel
theorem dX8_attempt_20 : decode cX8_attempt 20 = .ok (.iconst (-1), 1) := by decide +kernel
theorem dX8_attempt_21 : decode cX8_attempt 21 = .ok (.ireturn, 1) := by decide +kernel
theorem dX8_attempt_22 : decode cX8_attempt 22 = .ok (.aload_n 0, 1) := by decide +kernel
theorem dX8_attempt_23 : decode cX8_attempt 23 = .ok (.getfield 58, 3) := by decide +kernel
theorem dX8_attempt_26 : decode cX8_attempt 26 = .ok (.bipush 8, 2) := by decide +kernel
theorem dX8_attempt_28 : decode cX8_attempt 28 = .ok (.iaload, 1) := by decide +kernel
theorem dX8_attempt_29 : decode cX8_attempt 29 = .ok (.bipush 12, 2) := by decide +kernel
theorem dX8_attempt_31 : decode cX8_attempt 31 = .ok (.if_icmp .ne 6, 3) := by decide +kernel
theorem dX8_attempt_34 : decode cX8_attempt 34 = .ok (.bipush (-3), 2) := by decide +kernel
theorem dX8_attempt_36 : decode cX8_attempt 36 = .ok (.ireturn, 1) := by decide +kernel
theorem dX8_attempt_37 : decode cX8_attempt 37 = .ok (.aload_n 0, 1) := by decide +kernel
theorem dX8_attempt_38 : decode cX8_attempt 38 = .ok (.iload_n 1, 1) := by decide +kernel
theorem dX8_attempt_39 : decode cX8_attempt 39 = .ok (.iload_n 2, 1) := by decide +kernel
theorem dX8_attempt_40 : decode cX8_attempt 40 = .ok (.aload_n 0, 1) := by decide +kernel
theorem dX8_attempt_41 : decode cX8_attempt 41 = .ok (.getfield 58, 3) := by decide +kernel
theorem dX8_attempt_44 : decode cX8_attempt 44 = .ok (.iload_n 1, 1) := by decide +kernel
theorem dX8_attempt_45 : decode cX8_attempt 45 = .ok (.iaload, 1) := by decide +kernel
theorem dX8_attempt_46 : decode cX8_attempt 46 = .ok (.aload_n 0, 1) := by decide +kernel
theorem dX8_attempt_47 : decode cX8_attempt 47 = .ok (.getfield 58, 3) := by decide +kernel
theorem dX8_attempt_50 : decode cX8_attempt 50 = .ok (.iconst 4, 1) := by decide +kernel
theorem dX8_attempt_51 : decode cX8_attempt 51 = .ok (.iload_n 1, 1) := by decide +kernel
theorem dX8_attempt_52 : decode cX8_attempt 52 = .ok (.iadd, 1) := by decide +kernel
theorem dX8_attempt_53 : decode cX8_attempt 53 = .ok (.iaload, 1) := by decide +kernel
theorem dX8_attempt_54 : decode cX8_attempt 54 = .ok (.invokevirtual 203, 3) := by decide +kernel
theorem dX8_attempt_57 : decode cX8_attempt 57 = .ok (.istore_n 3, 1) := by decide +kernel
theorem dX8_attempt_58 : decode cX8_attempt 58 = .ok (.aload_n 0, 1) := by decide +kernel
theorem dX8_attempt_59 : decode cX8_attempt 59 = .ok (.iload_n 1, 1) := by decide +kernel
theorem dX8_attempt_60 : decode cX8_attempt 60 = .ok (.iload_n 2, 1) := by decide +kernel
theorem dX8_attempt_61 : decode cX8_attempt 61 = .ok (.iload_n 3, 1) := by decide +kernel
theorem dX8_attempt_62 : decode cX8_attempt 62 = .ok (.invokevirtual 209, 3) := by decide +kernel
theorem dX8_attempt_65 : decode cX8_attempt 65 = .ok (.iload_n 3, 1) := by decide +kernel
theorem dX8_attempt_66 : decode cX8_attempt 66 = .ok (.ireturn, 1) := by decide +kernel
theorem dX8_hear_0 : decode cX8_hear 0 = .ok (.aload_n 0, 1) := by decide +kernel
theorem dX8_hear_1 : decode cX8_hear 1 = .ok (.iload_n 1, 1) := by decide +kernel
theorem dX8_hear_2 : decode cX8_hear 2 = .ok (.invokevirtual 189, 3) := by decide +kernel
theorem dX8_hear_5 : decode cX8_hear 5 = .ok (.ifCond .eq 27, 3) := by decide +kernel
theorem dX8_hear_8 : decode cX8_hear 8 = .ok (.iload_n 2, 1) := by decide +kernel
theorem dX8_hear_9 : decode cX8_hear 9 = .ok (.i2l, 1) := by decide +kernel
theorem dX8_hear_10 : decode cX8_hear 10 = .ok (.lconst 0, 1) := by decide +kernel
theorem dX8_hear_11 : decode cX8_hear 11 = .ok (.ldc2_w 201, 3) := by decide +kernel
theorem dX8_hear_14 : decode cX8_hear 14 = .ok (.invokestatic 109, 3) := by decide +kernel
theorem dX8_hear_17 : decode cX8_hear 17 = .ok (.ifCond .eq 15, 3) := by decide +kernel
theorem dX8_hear_20 : decode cX8_hear 20 = .ok (.iload_n 3, 1) := by decide +kernel
theorem dX8_hear_21 : decode cX8_hear 21 = .ok (.i2l, 1) := by decide +kernel
theorem dX8_hear_22 : decode cX8_hear 22 = .ok (.lconst 0, 1) := by decide +kernel
theorem dX8_hear_23 : decode cX8_hear 23 = .ok (.ldc2_w 213, 3) := by decide +kernel
theorem dX8_hear_26 : decode cX8_hear 26 = .ok (.invokestatic 109, 3) := by decide +kernel
theorem dX8_hear_29 : decode cX8_hear 29 = .ok (.ifCond .ne 5, 3) := by decide +kernel
theorem dX8_hear_32 : decode cX8_hear 32 = .ok (.iconst (-1), 1) := by decide +kernel
theorem dX8_hear_33 : decode cX8_hear 33 = .ok (.ireturn, 1) := by decide +kernel
theorem dX8_hear_34 : decode cX8_hear 34 = .ok (.aload_n 0, 1) := by decide +kernel
theorem dX8_hear_35 : decode cX8_hear 35 = .ok (.getfield 58, 3) := by decide +kernel
theorem dX8_hear_38 : decode cX8_hear 38 = .ok (.bipush 8, 2) := by decide +kernel
theorem dX8_hear_40 : decode cX8_hear 40 = .ok (.iaload, 1) := by decide +kernel
theorem dX8_hear_41 : decode cX8_hear 41 = .ok (.bipush 12, 2) := by decide +kernel
theorem dX8_hear_43 : decode cX8_hear 43 = .ok (.if_icmp .ne 6, 3) := by decide +kernel
theorem dX8_hear_46 : decode cX8_hear 46 = .ok (.bipush (-3), 2) := by decide +kernel
theorem dX8_hear_48 : decode cX8_hear 48 = .ok (.ireturn, 1) := by decide +kernel
theorem dX8_hear_49 : decode cX8_hear 49 = .ok (.aload_n 0, 1) := by decide +kernel
theorem dX8_hear_50 : decode cX8_hear 50 = .ok (.iload_n 1, 1) := by decide +kernel
theorem dX8_hear_51 : decode cX8_hear 51 = .ok (.iload_n 2, 1) := by decide +kernel
theorem dX8_hear_52 : decode cX8_hear 52 = .ok (.iload_n 3, 1) := by decide +kernel
theorem dX8_hear_53 : decode cX8_hear 53 = .ok (.invokevirtual 209, 3) := by decide +kernel
theorem dX8_hear_56 : decode cX8_hear 56 = .ok (.aload_n 0, 1) := by decide +kernel
theorem dX8_hear_57 : decode cX8_hear 57 = .ok (.getfield 58, 3) := by decide +kernel
theorem dX8_hear_60 : decode cX8_hear 60 = .ok (.bipush 8, 2) := by decide +kernel
theorem dX8_hear_62 : decode cX8_hear 62 = .ok (.iaload, 1) := by decide +kernel
theorem dX8_hear_63 : decode cX8_hear 63 = .ok (.ireturn, 1) := by decide +kernel
theorem dX8_truth_0 : decode cX8_truth 0 = .ok (.aload_n 0, 1) := by decide +kernel
theorem dX8_truth_1 : decode cX8_truth 1 = .ok (.aload_n 0, 1) := by decide +kernel
theorem dX8_truth_2 : decode cX8_truth 2 = .ok (.getfield 58, 3) := by decide +kernel
theorem dX8_truth_5 : decode cX8_truth 5 = .ok (.iconst 0, 1) := by decide +kernel
theorem dX8_truth_6 : decode cX8_truth 6 = .ok (.iaload, 1) := by decide +kernel
theorem dX8_truth_7 : decode cX8_truth 7 = .ok (.aload_n 0, 1) := by decide +kernel
theorem dX8_truth_8 : decode cX8_truth 8 = .ok (.getfield 58, 3) := by decide +kernel
theorem dX8_truth_11 : decode cX8_truth 11 = .ok (.iconst 1, 1) := by decide +kernel
theorem dX8_truth_12 : decode cX8_truth 12 = .ok (.iaload, 1) := by decide +kernel
theorem dX8_truth_13 : decode cX8_truth 13 = .ok (.aload_n 0, 1) := by decide +kernel
theorem dX8_truth_14 : decode cX8_truth 14 = .ok (.getfield 58, 3) := by decide +kernel
theorem dX8_truth_17 : decode cX8_truth 17 = .ok (.iconst 2, 1) := by decide +kernel
theorem dX8_truth_18 : decode cX8_truth 18 = .ok (.iaload, 1) := by decide +kernel
theorem dX8_truth_19 : decode cX8_truth 19 = .ok (.aload_n 0, 1) := by decide +kernel
theorem dX8_truth_20 : decode cX8_truth 20 = .ok (.getfield 58, 3) := by decide +kernel
theorem dX8_truth_23 : decode cX8_truth 23 = .ok (.iconst 3, 1) := by decide +kernel
theorem dX8_truth_24 : decode cX8_truth 24 = .ok (.iaload, 1) := by decide +kernel
theorem dX8_truth_25 : decode cX8_truth 25 = .ok (.invokevirtual 162, 3) := by decide +kernel
theorem dX8_truth_28 : decode cX8_truth 28 = .ok (.ireturn, 1) := by decide +kernel
theorem dX8_change_0 : decode cX8_change 0 = .ok (.aload_n 0, 1) := by decide +kernel
theorem dX8_change_1 : decode cX8_change 1 = .ok (.iload_n 1, 1) := by decide +kernel
theorem dX8_change_2 : decode cX8_change 2 = .ok (.invokevirtual 189, 3) := by decide +kernel
theorem dX8_change_5 : decode cX8_change 5 = .ok (.ifCond .eq 16, 3) := by decide +kernel
theorem dX8_change_8 : decode cX8_change 8 = .ok (.aload_n 0, 1) := by decide +kernel
theorem dX8_change_9 : decode cX8_change 9 = .ok (.iload_n 2, 1) := by decide +kernel
theorem dX8_change_10 : decode cX8_change 10 = .ok (.invokevirtual 189, 3) := by decide +kernel
theorem dX8_change_13 : decode cX8_change 13 = .ok (.ifCond .eq 8, 3) := by decide +kernel
theorem dX8_change_16 : decode cX8_change 16 = .ok (.iload_n 1, 1) := by decide +kernel
theorem dX8_change_17 : decode cX8_change 17 = .ok (.iload_n 2, 1) := by decide +kernel
theorem dX8_change_18 : decode cX8_change 18 = .ok (.if_icmp .ne 5, 3) := by decide +kernel
theorem dX8_change_21 : decode cX8_change 21 = .ok (.iconst (-1), 1) := by decide +kernel
theorem dX8_change_22 : decode cX8_change 22 = .ok (.ireturn, 1) := by decide +kernel
theorem dX8_change_23 : decode cX8_change 23 = .ok (.aload_n 0, 1) := by decide +kernel
theorem dX8_change_24 : decode cX8_change 24 = .ok (.getfield 58, 3) := by decide +kernel
theorem dX8_change_27 : decode cX8_change 27 = .ok (.iload_n 1, 1) := by decide +kernel
theorem dX8_change_28 : decode cX8_change 28 = .ok (.iaload, 1) := by decide +kernel
theorem dX8_change_29 : decode cX8_change 29 = .ok (.aload_n 0, 1) := by decide +kernel
theorem dX8_change_30 : decode cX8_change 30 = .ok (.getfield 58, 3) := by decide +kernel
theorem dX8_change_33 : decode cX8_change 33 = .ok (.iload_n 2, 1) := by decide +kernel
theorem dX8_change_34 : decode cX8_change 34 = .ok (.iaload, 1) := by decide +kernel
theorem dX8_change_35 : decode cX8_change 35 = .ok (.ixor, 1) := by decide +kernel
theorem dX8_change_36 : decode cX8_change 36 = .ok (.istore_n 3, 1) := by decide +kernel
theorem dX8_change_37 : decode cX8_change 37 = .ok (.aload_n 0, 1) := by decide +kernel
theorem dX8_change_38 : decode cX8_change 38 = .ok (.invokevirtual 215, 3) := by decide +kernel
theorem dX8_change_41 : decode cX8_change 41 = .ok (.iload_n 3, 1) := by decide +kernel
theorem dX8_change_42 : decode cX8_change 42 = .ok (.bipush 8, 2) := by decide +kernel
theorem dX8_change_44 : decode cX8_change 44 = .ok (.iload_n 1, 1) := by decide +kernel
theorem dX8_change_45 : decode cX8_change 45 = .ok (.imul, 1) := by decide +kernel
theorem dX8_change_46 : decode cX8_change 46 = .ok (.ishl, 1) := by decide +kernel
theorem dX8_change_47 : decode cX8_change 47 = .ok (.ixor, 1) := by decide +kernel
theorem dX8_change_48 : decode cX8_change 48 = .ok (.iload_n 3, 1) := by decide +kernel
theorem dX8_change_49 : decode cX8_change 49 = .ok (.bipush 8, 2) := by decide +kernel
theorem dX8_change_51 : decode cX8_change 51 = .ok (.iload_n 2, 1) := by decide +kernel
theorem dX8_change_52 : decode cX8_change 52 = .ok (.imul, 1) := by decide +kernel
theorem dX8_change_53 : decode cX8_change 53 = .ok (.ishl, 1) := by decide +kernel
theorem dX8_change_54 : decode cX8_change 54 = .ok (.ixor, 1) := by decide +kernel
theorem dX8_change_55 : decode cX8_change 55 = .ok (.istore 4, 2) := by decide +kernel
theorem dX8_change_57 : decode cX8_change 57 = .ok (.aload_n 0, 1) := by decide +kernel
theorem dX8_change_58 : decode cX8_change 58 = .ok (.getfield 37, 3) := by decide +kernel
theorem dX8_change_61 : decode cX8_change 61 = .ok (.iload_n 1, 1) := by decide +kernel
theorem dX8_change_62 : decode cX8_change 62 = .ok (.iaload, 1) := by decide +kernel
theorem dX8_change_63 : decode cX8_change 63 = .ok (.aload_n 0, 1) := by decide +kernel
theorem dX8_change_64 : decode cX8_change 64 = .ok (.getfield 37, 3) := by decide +kernel
theorem dX8_change_67 : decode cX8_change 67 = .ok (.iload_n 2, 1) := by decide +kernel
theorem dX8_change_68 : decode cX8_change 68 = .ok (.iaload, 1) := by decide +kernel
theorem dX8_change_69 : decode cX8_change 69 = .ok (.if_icmp .ne 13, 3) := by decide +kernel
theorem dX8_change_72 : decode cX8_change 72 = .ok (.aload_n 0, 1) := by decide +kernel
theorem dX8_change_73 : decode cX8_change 73 = .ok (.iconst 0, 1) := by decide +kernel
theorem dX8_change_74 : decode cX8_change 74 = .ok (.iload 4, 2) := by decide +kernel
theorem dX8_change_76 : decode cX8_change 76 = .ok (.invokevirtual 166, 3) := by decide +kernel
theorem dX8_change_79 : decode cX8_change 79 = .ok (.ifCond .ne 6, 3) := by decide +kernel
theorem dX8_change_82 : decode cX8_change 82 = .ok (.bipush (-2), 2) := by decide +kernel
theorem dX8_change_84 : decode cX8_change 84 = .ok (.ireturn, 1) := by decide +kernel
theorem dX8_change_85 : decode cX8_change 85 = .ok (.aload_n 0, 1) := by decide +kernel
theorem dX8_change_86 : decode cX8_change 86 = .ok (.invokevirtual 206, 3) := by decide +kernel
theorem dX8_change_89 : decode cX8_change 89 = .ok (.aload_n 0, 1) := by decide +kernel
theorem dX8_change_90 : decode cX8_change 90 = .ok (.getfield 58, 3) := by decide +kernel
theorem dX8_change_93 : decode cX8_change 93 = .ok (.iload_n 1, 1) := by decide +kernel
theorem dX8_change_94 : decode cX8_change 94 = .ok (.dup2, 1) := by decide +kernel
theorem dX8_change_95 : decode cX8_change 95 = .ok (.iaload, 1) := by decide +kernel
theorem dX8_change_96 : decode cX8_change 96 = .ok (.iload_n 3, 1) := by decide +kernel
theorem dX8_change_97 : decode cX8_change 97 = .ok (.ixor, 1) := by decide +kernel
theorem dX8_change_98 : decode cX8_change 98 = .ok (.iastore, 1) := by decide +kernel
theorem dX8_change_99 : decode cX8_change 99 = .ok (.aload_n 0, 1) := by decide +kernel
theorem dX8_change_100 : decode cX8_change 100 = .ok (.getfield 58, 3) := by decide +kernel
theorem dX8_change_103 : decode cX8_change 103 = .ok (.iload_n 2, 1) := by decide +kernel
theorem dX8_change_104 : decode cX8_change 104 = .ok (.dup2, 1) := by decide +kernel
theorem dX8_change_105 : decode cX8_change 105 = .ok (.iaload, 1) := by decide +kernel
theorem dX8_change_106 : decode cX8_change 106 = .ok (.iload_n 3, 1) := by decide +kernel
theorem dX8_change_107 : decode cX8_change 107 = .ok (.ixor, 1) := by decide +kernel
theorem dX8_change_108 : decode cX8_change 108 = .ok (.iastore, 1) := by decide +kernel
theorem dX8_change_109 : decode cX8_change 109 = .ok (.aload_n 0, 1) := by decide +kernel
theorem dX8_change_110 : decode cX8_change 110 = .ok (.getfield 58, 3) := by decide +kernel
theorem dX8_change_113 : decode cX8_change 113 = .ok (.iload_n 1, 1) := by decide +kernel
theorem dX8_change_114 : decode cX8_change 114 = .ok (.iaload, 1) := by decide +kernel
theorem dX8_change_115 : decode cX8_change 115 = .ok (.ireturn, 1) := by decide +kernel
theorem dX8_hide_0 : decode cX8_hide 0 = .ok (.aload_n 0, 1) := by decide +kernel
theorem dX8_hide_1 : decode cX8_hide 1 = .ok (.iload_n 1, 1) := by decide +kernel
theorem dX8_hide_2 : decode cX8_hide 2 = .ok (.invokevirtual 189, 3) := by decide +kernel
theorem dX8_hide_5 : decode cX8_hide 5 = .ok (.ifCond .eq 15, 3) := by decide +kernel
theorem dX8_hide_8 : decode cX8_hide 8 = .ok (.iload_n 2, 1) := by decide +kernel
theorem dX8_hide_9 : decode cX8_hide 9 = .ok (.i2l, 1) := by decide +kernel
theorem dX8_hide_10 : decode cX8_hide 10 = .ok (.lconst 0, 1) := by decide +kernel
theorem dX8_hide_11 : decode cX8_hide 11 = .ok (.ldc2_w 132, 3) := by decide +kernel
theorem dX8_hide_14 : decode cX8_hide 14 = .ok (.invokestatic 109, 3) := by decide +kernel
theorem dX8_hide_17 : decode cX8_hide 17 = .ok (.ifCond .ne 5, 3) := by decide +kernel
theorem dX8_hide_20 : decode cX8_hide 20 = .ok (.iconst (-1), 1) := by decide +kernel
theorem dX8_hide_21 : decode cX8_hide 21 = .ok (.ireturn, 1) := by decide +kernel
theorem dX8_hide_22 : decode cX8_hide 22 = .ok (.aload_n 0, 1) := by decide +kernel
theorem dX8_hide_23 : decode cX8_hide 23 = .ok (.getfield 58, 3) := by decide +kernel
theorem dX8_hide_26 : decode cX8_hide 26 = .ok (.iconst 4, 1) := by decide +kernel
theorem dX8_hide_27 : decode cX8_hide 27 = .ok (.iload_n 1, 1) := by decide +kernel
theorem dX8_hide_28 : decode cX8_hide 28 = .ok (.iadd, 1) := by decide +kernel
theorem dX8_hide_29 : decode cX8_hide 29 = .ok (.iaload, 1) := by decide +kernel
theorem dX8_hide_30 : decode cX8_hide 30 = .ok (.istore_n 3, 1) := by decide +kernel
theorem dX8_hide_31 : decode cX8_hide 31 = .ok (.aload_n 0, 1) := by decide +kernel
theorem dX8_hide_32 : decode cX8_hide 32 = .ok (.invokevirtual 206, 3) := by decide +kernel
theorem dX8_hide_35 : decode cX8_hide 35 = .ok (.aload_n 0, 1) := by decide +kernel
theorem dX8_hide_36 : decode cX8_hide 36 = .ok (.getfield 58, 3) := by decide +kernel
theorem dX8_hide_39 : decode cX8_hide 39 = .ok (.iconst 4, 1) := by decide +kernel
theorem dX8_hide_40 : decode cX8_hide 40 = .ok (.iload_n 1, 1) := by decide +kernel
theorem dX8_hide_41 : decode cX8_hide 41 = .ok (.iadd, 1) := by decide +kernel
theorem dX8_hide_42 : decode cX8_hide 42 = .ok (.iload_n 2, 1) := by decide +kernel
theorem dX8_hide_43 : decode cX8_hide 43 = .ok (.iastore, 1) := by decide +kernel
theorem dX8_hide_44 : decode cX8_hide 44 = .ok (.iload_n 3, 1) := by decide +kernel
theorem dX8_hide_45 : decode cX8_hide 45 = .ok (.ireturn, 1) := by decide +kernel
theorem dX8_undo_0 : decode cX8_undo 0 = .ok (.aload_n 0, 1) := by decide +kernel
theorem dX8_undo_1 : decode cX8_undo 1 = .ok (.getfield 175, 3) := by decide +kernel
theorem dX8_undo_4 : decode cX8_undo 4 = .ok (.ifCond .ne 6, 3) := by decide +kernel
theorem dX8_undo_7 : decode cX8_undo 7 = .ok (.bipush (-2), 2) := by decide +kernel
theorem dX8_undo_9 : decode cX8_undo 9 = .ok (.ireturn, 1) := by decide +kernel
theorem dX8_undo_10 : decode cX8_undo 10 = .ok (.aload_n 0, 1) := by decide +kernel
theorem dX8_undo_11 : decode cX8_undo 11 = .ok (.dup, 1) := by decide +kernel
theorem dX8_undo_12 : decode cX8_undo 12 = .ok (.getfield 175, 3) := by decide +kernel
theorem dX8_undo_15 : decode cX8_undo 15 = .ok (.iconst 1, 1) := by decide +kernel
theorem dX8_undo_16 : decode cX8_undo 16 = .ok (.isub, 1) := by decide +kernel
theorem dX8_undo_17 : decode cX8_undo 17 = .ok (.putfield 175, 3) := by decide +kernel
theorem dX8_undo_20 : decode cX8_undo 20 = .ok (.iconst 0, 1) := by decide +kernel
theorem dX8_undo_21 : decode cX8_undo 21 = .ok (.istore_n 1, 1) := by decide +kernel
theorem dX8_undo_22 : decode cX8_undo 22 = .ok (.iload_n 1, 1) := by decide +kernel
theorem dX8_undo_23 : decode cX8_undo 23 = .ok (.bipush 21, 2) := by decide +kernel
theorem dX8_undo_25 : decode cX8_undo 25 = .ok (.if_icmp .ge 29, 3) := by decide +kernel
theorem dX8_undo_28 : decode cX8_undo 28 = .ok (.aload_n 0, 1) := by decide +kernel
theorem dX8_undo_29 : decode cX8_undo 29 = .ok (.getfield 58, 3) := by decide +kernel
theorem dX8_undo_32 : decode cX8_undo 32 = .ok (.iload_n 1, 1) := by decide +kernel
theorem dX8_undo_33 : decode cX8_undo 33 = .ok (.aload_n 0, 1) := by decide +kernel
theorem dX8_undo_34 : decode cX8_undo 34 = .ok (.getfield 61, 3) := by decide +kernel
theorem dX8_undo_37 : decode cX8_undo 37 = .ok (.bipush 21, 2) := by decide +kernel
theorem dX8_undo_39 : decode cX8_undo 39 = .ok (.aload_n 0, 1) := by decide +kernel
theorem dX8_undo_40 : decode cX8_undo 40 = .ok (.getfield 175, 3) := by decide +kernel
theorem dX8_undo_43 : decode cX8_undo 43 = .ok (.imul, 1) := by decide +kernel
theorem dX8_undo_44 : decode cX8_undo 44 = .ok (.iload_n 1, 1) := by decide +kernel
theorem dX8_undo_45 : decode cX8_undo 45 = .ok (.iadd, 1) := by decide +kernel
theorem dX8_undo_46 : decode cX8_undo 46 = .ok (.iaload, 1) := by decide +kernel
theorem dX8_undo_47 : decode cX8_undo 47 = .ok (.iastore, 1) := by decide +kernel
theorem dX8_undo_48 : decode cX8_undo 48 = .ok (.iinc 1 1, 3) := by decide +kernel
theorem dX8_undo_51 : decode cX8_undo 51 = .ok (.goto (-29), 3) := by decide +kernel
theorem dX8_undo_54 : decode cX8_undo 54 = .ok (.aload_n 0, 1) := by decide +kernel
theorem dX8_undo_55 : decode cX8_undo 55 = .ok (.getfield 175, 3) := by decide +kernel
theorem dX8_undo_58 : decode cX8_undo 58 = .ok (.ireturn, 1) := by decide +kernel
theorem dX8_fits_0 : decode cX8_fits 0 = .ok (.iconst 1, 1) := by decide +kernel
theorem dX8_fits_1 : decode cX8_fits 1 = .ok (.istore_n 3, 1) := by decide +kernel
theorem dX8_fits_2 : decode cX8_fits 2 = .ok (.iconst 0, 1) := by decide +kernel
theorem dX8_fits_3 : decode cX8_fits 3 = .ok (.istore 4, 2) := by decide +kernel
theorem dX8_fits_5 : decode cX8_fits 5 = .ok (.iload 4, 2) := by decide +kernel
theorem dX8_fits_7 : decode cX8_fits 7 = .ok (.iload_n 2, 1) := by decide +kernel
theorem dX8_fits_8 : decode cX8_fits 8 = .ok (.if_icmp .ge 81, 3) := by decide +kernel
theorem dX8_fits_11 : decode cX8_fits 11 = .ok (.iload_n 3, 1) := by decide +kernel
theorem dX8_fits_12 : decode cX8_fits 12 = .ok (.ifCond .eq 77, 3) := by decide +kernel
theorem dX8_fits_15 : decode cX8_fits 15 = .ok (.aload_n 0, 1) := by decide +kernel
theorem dX8_fits_16 : decode cX8_fits 16 = .ok (.getfield 58, 3) := by decide +kernel
theorem dX8_fits_19 : decode cX8_fits 19 = .ok (.bipush 9, 2) := by decide +kernel
theorem dX8_fits_21 : decode cX8_fits 21 = .ok (.iload 4, 2) := by decide +kernel
theorem dX8_fits_23 : decode cX8_fits 23 = .ok (.iadd, 1) := by decide +kernel
theorem dX8_fits_24 : decode cX8_fits 24 = .ok (.iaload, 1) := by decide +kernel
theorem dX8_fits_25 : decode cX8_fits 25 = .ok (.iconst 4, 1) := by decide +kernel
theorem dX8_fits_26 : decode cX8_fits 26 = .ok (.idiv, 1) := by decide +kernel
theorem dX8_fits_27 : decode cX8_fits 27 = .ok (.iconst 4, 1) := by decide +kernel
theorem dX8_fits_28 : decode cX8_fits 28 = .ok (.irem, 1) := by decide +kernel
theorem dX8_fits_29 : decode cX8_fits 29 = .ok (.istore 5, 2) := by decide +kernel
theorem dX8_fits_31 : decode cX8_fits 31 = .ok (.aload_n 0, 1) := by decide +kernel
theorem dX8_fits_32 : decode cX8_fits 32 = .ok (.iload 5, 2) := by decide +kernel
theorem dX8_fits_34 : decode cX8_fits 34 = .ok (.aload_n 0, 1) := by decide +kernel
theorem dX8_fits_35 : decode cX8_fits 35 = .ok (.getfield 58, 3) := by decide +kernel
theorem dX8_fits_38 : decode cX8_fits 38 = .ok (.bipush 9, 2) := by decide +kernel
theorem dX8_fits_40 : decode cX8_fits 40 = .ok (.iload 4, 2) := by decide +kernel
theorem dX8_fits_42 : decode cX8_fits 42 = .ok (.iadd, 1) := by decide +kernel
theorem dX8_fits_43 : decode cX8_fits 43 = .ok (.iaload, 1) := by decide +kernel
theorem dX8_fits_44 : decode cX8_fits 44 = .ok (.iconst 4, 1) := by decide +kernel
theorem dX8_fits_45 : decode cX8_fits 45 = .ok (.irem, 1) := by decide +kernel
theorem dX8_fits_46 : decode cX8_fits 46 = .ok (.aload_n 0, 1) := by decide +kernel
theorem dX8_fits_47 : decode cX8_fits 47 = .ok (.getfield 55, 3) := by decide +kernel
theorem dX8_fits_50 : decode cX8_fits 50 = .ok (.iload_n 1, 1) := by decide +kernel
theorem dX8_fits_51 : decode cX8_fits 51 = .ok (.iaload, 1) := by decide +kernel
theorem dX8_fits_52 : decode cX8_fits 52 = .ok (.iload 5, 2) := by decide +kernel
theorem dX8_fits_54 : decode cX8_fits 54 = .ok (.invokestatic 192, 3) := by decide +kernel
theorem dX8_fits_57 : decode cX8_fits 57 = .ok (.iconst 0, 1) := by decide +kernel
theorem dX8_fits_58 : decode cX8_fits 58 = .ok (.invokevirtual 203, 3) := by decide +kernel
theorem dX8_fits_61 : decode cX8_fits 61 = .ok (.aload_n 0, 1) := by decide +kernel
theorem dX8_fits_62 : decode cX8_fits 62 = .ok (.getfield 58, 3) := by decide +kernel
theorem dX8_fits_65 : decode cX8_fits 65 = .ok (.bipush 9, 2) := by decide +kernel
theorem dX8_fits_67 : decode cX8_fits 67 = .ok (.iload 4, 2) := by decide +kernel
theorem dX8_fits_69 : decode cX8_fits 69 = .ok (.iadd, 1) := by decide +kernel
theorem dX8_fits_70 : decode cX8_fits 70 = .ok (.iaload, 1) := by decide +kernel
theorem dX8_fits_71 : decode cX8_fits 71 = .ok (.bipush 16, 2) := by decide +kernel
theorem dX8_fits_73 : decode cX8_fits 73 = .ok (.idiv, 1) := by decide +kernel
theorem dX8_fits_74 : decode cX8_fits 74 = .ok (.if_icmp .ne 7, 3) := by decide +kernel
theorem dX8_fits_77 : decode cX8_fits 77 = .ok (.iconst 1, 1) := by decide +kernel
theorem dX8_fits_78 : decode cX8_fits 78 = .ok (.goto 4, 3) := by decide +kernel
theorem dX8_fits_81 : decode cX8_fits 81 = .ok (.iconst 0, 1) := by decide +kernel
theorem dX8_fits_82 : decode cX8_fits 82 = .ok (.istore_n 3, 1) := by decide +kernel
theorem dX8_fits_83 : decode cX8_fits 83 = .ok (.iinc 4 1, 3) := by decide +kernel
theorem dX8_fits_86 : decode cX8_fits 86 = .ok (.goto (-81), 3) := by decide +kernel
theorem dX8_fits_89 : decode cX8_fits 89 = .ok (.iload_n 3, 1) := by decide +kernel
theorem dX8_fits_90 : decode cX8_fits 90 = .ok (.ireturn, 1) := by decide +kernel
theorem dX8_layLeft_0 : decode cX8_layLeft 0 = .ok (.iconst 0, 1) := by decide +kernel
theorem dX8_layLeft_1 : decode cX8_layLeft 1 = .ok (.istore_n 2, 1) := by decide +kernel
theorem dX8_layLeft_2 : decode cX8_layLeft 2 = .ok (.iconst 0, 1) := by decide +kernel
theorem dX8_layLeft_3 : decode cX8_layLeft 3 = .ok (.istore_n 3, 1) := by decide +kernel
theorem dX8_layLeft_4 : decode cX8_layLeft 4 = .ok (.iload_n 3, 1) := by decide +kernel
theorem dX8_layLeft_5 : decode cX8_layLeft 5 = .ok (.aload_n 0, 1) := by decide +kernel
theorem dX8_layLeft_6 : decode cX8_layLeft 6 = .ok (.getfield 172, 3) := by decide +kernel
theorem dX8_layLeft_9 : decode cX8_layLeft 9 = .ok (.if_icmp .ge 38, 3) := by decide +kernel
theorem dX8_layLeft_12 : decode cX8_layLeft 12 = .ok (.aload_n 0, 1) := by decide +kernel
theorem dX8_layLeft_13 : decode cX8_layLeft 13 = .ok (.getfield 73, 3) := by decide +kernel
theorem dX8_layLeft_16 : decode cX8_layLeft 16 = .ok (.iload_n 3, 1) := by decide +kernel
theorem dX8_layLeft_17 : decode cX8_layLeft 17 = .ok (.aload_n 0, 1) := by decide +kernel
theorem dX8_layLeft_18 : decode cX8_layLeft 18 = .ok (.iload_n 3, 1) := by decide +kernel
theorem dX8_layLeft_19 : decode cX8_layLeft 19 = .ok (.iload_n 1, 1) := by decide +kernel
theorem dX8_layLeft_20 : decode cX8_layLeft 20 = .ok (.invokevirtual 218, 3) := by decide +kernel
theorem dX8_layLeft_23 : decode cX8_layLeft 23 = .ok (.bastore, 1) := by decide +kernel
theorem dX8_layLeft_24 : decode cX8_layLeft 24 = .ok (.iload_n 2, 1) := by decide +kernel
theorem dX8_layLeft_25 : decode cX8_layLeft 25 = .ok (.aload_n 0, 1) := by decide +kernel
theorem dX8_layLeft_26 : decode cX8_layLeft 26 = .ok (.getfield 73, 3) := by decide +kernel
theorem dX8_layLeft_29 : decode cX8_layLeft 29 = .ok (.iload_n 3, 1) := by decide +kernel
theorem dX8_layLeft_30 : decode cX8_layLeft 30 = .ok (.baload, 1) := by decide +kernel
theorem dX8_layLeft_31 : decode cX8_layLeft 31 = .ok (.ifCond .eq 7, 3) := by decide +kernel
theorem dX8_layLeft_34 : decode cX8_layLeft 34 = .ok (.iconst 1, 1) := by decide +kernel
theorem dX8_layLeft_35 : decode cX8_layLeft 35 = .ok (.goto 4, 3) := by decide +kernel
theorem dX8_layLeft_38 : decode cX8_layLeft 38 = .ok (.iconst 0, 1) := by decide +kernel
theorem dX8_layLeft_39 : decode cX8_layLeft 39 = .ok (.iadd, 1) := by decide +kernel
theorem dX8_layLeft_40 : decode cX8_layLeft 40 = .ok (.istore_n 2, 1) := by decide +kernel
theorem dX8_layLeft_41 : decode cX8_layLeft 41 = .ok (.iinc 3 1, 3) := by decide +kernel
theorem dX8_layLeft_44 : decode cX8_layLeft 44 = .ok (.goto (-40), 3) := by decide +kernel
theorem dX8_layLeft_47 : decode cX8_layLeft 47 = .ok (.iload_n 2, 1) := by decide +kernel
theorem dX8_layLeft_48 : decode cX8_layLeft 48 = .ok (.ireturn, 1) := by decide +kernel
theorem dX8_left_0 : decode cX8_left 0 = .ok (.aload_n 0, 1) := by decide +kernel
theorem dX8_left_1 : decode cX8_left 1 = .ok (.aload_n 0, 1) := by decide +kernel
theorem dX8_left_2 : decode cX8_left 2 = .ok (.getfield 58, 3) := by decide +kernel
theorem dX8_left_5 : decode cX8_left 5 = .ok (.bipush 8, 2) := by decide +kernel
theorem dX8_left_7 : decode cX8_left 7 = .ok (.iaload, 1) := by decide +kernel
theorem dX8_left_8 : decode cX8_left 8 = .ok (.invokevirtual 221, 3) := by decide +kernel
theorem dX8_left_11 : decode cX8_left 11 = .ok (.ireturn, 1) := by decide +kernel
theorem dX8_weighs_0 : decode cX8_weighs 0 = .ok (.lconst 1, 1) := by decide +kernel
theorem dX8_weighs_1 : decode cX8_weighs 1 = .ok (.lstore_n 2, 1) := by decide +kernel
theorem dX8_weighs_2 : decode cX8_weighs 2 = .ok (.iconst 0, 1) := by decide +kernel
theorem dX8_weighs_3 : decode cX8_weighs 3 = .ok (.istore 4, 2) := by decide +kernel
theorem dX8_weighs_5 : decode cX8_weighs 5 = .ok (.iload 4, 2) := by decide +kernel
theorem dX8_weighs_7 : decode cX8_weighs 7 = .ok (.aload_n 0, 1) := by decide +kernel
theorem dX8_weighs_8 : decode cX8_weighs 8 = .ok (.getfield 13, 3) := by decide +kernel
theorem dX8_weighs_11 : decode cX8_weighs 11 = .ok (.iconst 0, 1) := by decide +kernel
theorem dX8_weighs_12 : decode cX8_weighs 12 = .ok (.iaload, 1) := by decide +kernel
theorem dX8_weighs_13 : decode cX8_weighs 13 = .ok (.if_icmp .ge 83, 3) := by decide +kernel
theorem dX8_weighs_16 : decode cX8_weighs 16 = .ok (.iconst 0, 1) := by decide +kernel
theorem dX8_weighs_17 : decode cX8_weighs 17 = .ok (.istore 5, 2) := by decide +kernel
theorem dX8_weighs_19 : decode cX8_weighs 19 = .ok (.iconst 0, 1) := by decide +kernel
theorem dX8_weighs_20 : decode cX8_weighs 20 = .ok (.istore 6, 2) := by decide +kernel
theorem dX8_weighs_22 : decode cX8_weighs 22 = .ok (.iload 6, 2) := by decide +kernel
theorem dX8_weighs_24 : decode cX8_weighs 24 = .ok (.aload_n 0, 1) := by decide +kernel
theorem dX8_weighs_25 : decode cX8_weighs 25 = .ok (.getfield 28, 3) := by decide +kernel
theorem dX8_weighs_28 : decode cX8_weighs 28 = .ok (.iconst 0, 1) := by decide +kernel
theorem dX8_weighs_29 : decode cX8_weighs 29 = .ok (.iaload, 1) := by decide +kernel
theorem dX8_weighs_30 : decode cX8_weighs 30 = .ok (.if_icmp .ge 40, 3) := by decide +kernel
theorem dX8_weighs_33 : decode cX8_weighs 33 = .ok (.iload 5, 2) := by decide +kernel
theorem dX8_weighs_35 : decode cX8_weighs 35 = .ok (.ifCond .ne 22, 3) := by decide +kernel
theorem dX8_weighs_38 : decode cX8_weighs 38 = .ok (.aload_n 0, 1) := by decide +kernel
theorem dX8_weighs_39 : decode cX8_weighs 39 = .ok (.getfield 55, 3) := by decide +kernel
theorem dX8_weighs_42 : decode cX8_weighs 42 = .ok (.iload_n 1, 1) := by decide +kernel
theorem dX8_weighs_43 : decode cX8_weighs 43 = .ok (.iaload, 1) := by decide +kernel
theorem dX8_weighs_44 : decode cX8_weighs 44 = .ok (.iload 6, 2) := by decide +kernel
theorem dX8_weighs_46 : decode cX8_weighs 46 = .ok (.invokestatic 192, 3) := by decide +kernel
theorem dX8_weighs_49 : decode cX8_weighs 49 = .ok (.iload 4, 2) := by decide +kernel
theorem dX8_weighs_51 : decode cX8_weighs 51 = .ok (.invokestatic 151, 3) := by decide +kernel
theorem dX8_weighs_54 : decode cX8_weighs 54 = .ok (.ifCond .eq 7, 3) := by decide +kernel
theorem dX8_weighs_57 : decode cX8_weighs 57 = .ok (.iconst 1, 1) := by decide +kernel
theorem dX8_weighs_58 : decode cX8_weighs 58 = .ok (.goto 4, 3) := by decide +kernel
theorem dX8_weighs_61 : decode cX8_weighs 61 = .ok (.iconst 0, 1) := by decide +kernel
theorem dX8_weighs_62 : decode cX8_weighs 62 = .ok (.istore 5, 2) := by decide +kernel
theorem dX8_weighs_64 : decode cX8_weighs 64 = .ok (.iinc 6 1, 3) := by decide +kernel
theorem dX8_weighs_67 : decode cX8_weighs 67 = .ok (.goto (-45), 3) := by decide +kernel
theorem dX8_weighs_70 : decode cX8_weighs 70 = .ok (.lload_n 2, 1) := by decide +kernel
theorem dX8_weighs_71 : decode cX8_weighs 71 = .ok (.iload 5, 2) := by decide +kernel
theorem dX8_weighs_73 : decode cX8_weighs 73 = .ok (.ifCond .eq 14, 3) := by decide +kernel
theorem dX8_weighs_76 : decode cX8_weighs 76 = .ok (.aload_n 0, 1) := by decide +kernel
theorem dX8_weighs_77 : decode cX8_weighs 77 = .ok (.getfield 25, 3) := by decide +kernel
theorem dX8_weighs_80 : decode cX8_weighs 80 = .ok (.iload 4, 2) := by decide +kernel
theorem dX8_weighs_82 : decode cX8_weighs 82 = .ok (.iaload, 1) := by decide +kernel
theorem dX8_weighs_83 : decode cX8_weighs 83 = .ok (.i2l, 1) := by decide +kernel
theorem dX8_weighs_84 : decode cX8_weighs 84 = .ok (.goto 4, 3) := by decide +kernel
theorem dX8_weighs_87 : decode cX8_weighs 87 = .ok (.lconst 1, 1) := by decide +kernel
theorem dX8_weighs_88 : decode cX8_weighs 88 = .ok (.lmul, 1) := by decide +kernel
theorem dX8_weighs_89 : decode cX8_weighs 89 = .ok (.lstore_n 2, 1) := by decide +kernel
theorem dX8_weighs_90 : decode cX8_weighs 90 = .ok (.iinc 4 1, 3) := by decide +kernel
theorem dX8_weighs_93 : decode cX8_weighs 93 = .ok (.goto (-88), 3) := by decide +kernel
theorem dX8_weighs_96 : decode cX8_weighs 96 = .ok (.lload_n 2, 1) := by decide +kernel
theorem dX8_weighs_97 : decode cX8_weighs 97 = .ok (.lreturn, 1) := by decide +kernel
theorem dX8_common_0 : decode cX8_common 0 = .ok (.lload_n 0, 1) := by decide +kernel
theorem dX8_common_1 : decode cX8_common 1 = .ok (.lstore 4, 2) := by decide +kernel
theorem dX8_common_3 : decode cX8_common 3 = .ok (.lload_n 2, 1) := by decide +kernel
theorem dX8_common_4 : decode cX8_common 4 = .ok (.lstore 6, 2) := by decide +kernel
theorem dX8_common_6 : decode cX8_common 6 = .ok (.lload 6, 2) := by decide +kernel
theorem dX8_common_8 : decode cX8_common 8 = .ok (.lconst 0, 1) := by decide +kernel
theorem dX8_common_9 : decode cX8_common 9 = .ok (.lcmp, 1) := by decide +kernel
theorem dX8_common_10 : decode cX8_common 10 = .ok (.ifCond .eq 21, 3) := by decide +kernel
theorem dX8_common_13 : decode cX8_common 13 = .ok (.lload 4, 2) := by decide +kernel
theorem dX8_common_15 : decode cX8_common 15 = .ok (.lload 6, 2) := by decide +kernel
theorem dX8_common_17 : decode cX8_common 17 = .ok (.lrem, 1) := by decide +kernel
theorem dX8_common_18 : decode cX8_common 18 = .ok (.lstore 8, 2) := by decide +kernel
theorem dX8_common_20 : decode cX8_common 20 = .ok (.lload 6, 2) := by decide +kernel
theorem dX8_common_22 : decode cX8_common 22 = .ok (.lstore 4, 2) := by decide +kernel
theorem dX8_common_24 : decode cX8_common 24 = .ok (.lload 8, 2) := by decide +kernel
theorem dX8_common_26 : decode cX8_common 26 = .ok (.lstore 6, 2) := by decide +kernel
theorem dX8_common_28 : decode cX8_common 28 = .ok (.goto (-22), 3) := by decide +kernel
theorem dX8_common_31 : decode cX8_common 31 = .ok (.lload 4, 2) := by decide +kernel
theorem dX8_common_33 : decode cX8_common 33 = .ok (.lreturn, 1) := by decide +kernel
theorem dX8_likely_0 : decode cX8_likely 0 = .ok (.aload_n 0, 1) := by decide +kernel
theorem dX8_likely_1 : decode cX8_likely 1 = .ok (.iload_n 1, 1) := by decide +kernel
theorem dX8_likely_2 : decode cX8_likely 2 = .ok (.invokevirtual 189, 3) := by decide +kernel
theorem dX8_likely_5 : decode cX8_likely 5 = .ok (.ifCond .eq 21, 3) := by decide +kernel
theorem dX8_likely_8 : decode cX8_likely 8 = .ok (.aload_n 0, 1) := by decide +kernel
theorem dX8_likely_9 : decode cX8_likely 9 = .ok (.iload_n 2, 1) := by decide +kernel
theorem dX8_likely_10 : decode cX8_likely 10 = .ok (.invokevirtual 184, 3) := by decide +kernel
theorem dX8_likely_13 : decode cX8_likely 13 = .ok (.ifCond .eq 13, 3) := by decide +kernel
theorem dX8_likely_16 : decode cX8_likely 16 = .ok (.iload_n 3, 1) := by decide +kernel
theorem dX8_likely_17 : decode cX8_likely 17 = .ok (.i2l, 1) := by decide +kernel
theorem dX8_likely_18 : decode cX8_likely 18 = .ok (.lconst 0, 1) := by decide +kernel
theorem dX8_likely_19 : decode cX8_likely 19 = .ok (.lconst 1, 1) := by decide +kernel
theorem dX8_likely_20 : decode cX8_likely 20 = .ok (.invokestatic 109, 3) := by decide +kernel
theorem dX8_likely_23 : decode cX8_likely 23 = .ok (.ifCond .ne 7, 3) := by decide +kernel
theorem dX8_likely_26 : decode cX8_likely 26 = .ok (.ldc2_w 224, 3) := by decide +kernel
theorem dX8_likely_29 : decode cX8_likely 29 = .ok (.lreturn, 1) := by decide +kernel
theorem dX8_likely_30 : decode cX8_likely 30 = .ok (.aload_n 0, 1) := by decide +kernel
theorem dX8_likely_31 : decode cX8_likely 31 = .ok (.aload_n 0, 1) := by decide +kernel
theorem dX8_likely_32 : decode cX8_likely 32 = .ok (.getfield 58, 3) := by decide +kernel
theorem dX8_likely_35 : decode cX8_likely 35 = .ok (.bipush 8, 2) := by decide +kernel
theorem dX8_likely_37 : decode cX8_likely 37 = .ok (.iaload, 1) := by decide +kernel
theorem dX8_likely_38 : decode cX8_likely 38 = .ok (.invokevirtual 221, 3) := by decide +kernel
theorem dX8_likely_41 : decode cX8_likely 41 = .ok (.ifCond .ne 7, 3) := by decide +kernel
theorem dX8_likely_44 : decode cX8_likely 44 = .ok (.ldc2_w 226, 3) := by decide +kernel
theorem dX8_likely_47 : decode cX8_likely 47 = .ok (.lreturn, 1) := by decide +kernel
theorem dX8_likely_48 : decode cX8_likely 48 = .ok (.lconst 0, 1) := by decide +kernel
theorem dX8_likely_49 : decode cX8_likely 49 = .ok (.lstore 4, 2) := by decide +kernel
theorem dX8_likely_51 : decode cX8_likely 51 = .ok (.lconst 0, 1) := by decide +kernel
theorem dX8_likely_52 : decode cX8_likely 52 = .ok (.lstore 6, 2) := by decide +kernel
theorem dX8_likely_54 : decode cX8_likely 54 = .ok (.iconst 0, 1) := by decide +kernel
theorem dX8_likely_55 : decode cX8_likely 55 = .ok (.istore 8, 2) := by decide +kernel
theorem dX8_likely_57 : decode cX8_likely 57 = .ok (.iload 8, 2) := by decide +kernel
theorem dX8_likely_59 : decode cX8_likely 59 = .ok (.aload_n 0, 1) := by decide +kernel
theorem dX8_likely_60 : decode cX8_likely 60 = .ok (.getfield 172, 3) := by decide +kernel
theorem dX8_likely_63 : decode cX8_likely 63 = .ok (.if_icmp .ge 67, 3) := by decide +kernel
theorem dX8_likely_66 : decode cX8_likely 66 = .ok (.aload_n 0, 1) := by decide +kernel
theorem dX8_likely_67 : decode cX8_likely 67 = .ok (.getfield 73, 3) := by decide +kernel
theorem dX8_likely_70 : decode cX8_likely 70 = .ok (.iload 8, 2) := by decide +kernel
theorem dX8_likely_72 : decode cX8_likely 72 = .ok (.baload, 1) := by decide +kernel
theorem dX8_likely_73 : decode cX8_likely 73 = .ok (.ifCond .eq 12, 3) := by decide +kernel
theorem dX8_likely_76 : decode cX8_likely 76 = .ok (.aload_n 0, 1) := by decide +kernel
theorem dX8_likely_77 : decode cX8_likely 77 = .ok (.iload 8, 2) := by decide +kernel
theorem dX8_likely_79 : decode cX8_likely 79 = .ok (.invokevirtual 228, 3) := by decide +kernel
theorem dX8_likely_82 : decode cX8_likely 82 = .ok (.goto 4, 3) := by decide +kernel
theorem dX8_likely_85 : decode cX8_likely 85 = .ok (.lconst 0, 1) := by decide +kernel
theorem dX8_likely_86 : decode cX8_likely 86 = .ok (.lstore 9, 2) := by decide +kernel
theorem dX8_likely_88 : decode cX8_likely 88 = .ok (.lload 6, 2) := by decide +kernel
theorem dX8_likely_90 : decode cX8_likely 90 = .ok (.lload 9, 2) := by decide +kernel
theorem dX8_likely_92 : decode cX8_likely 92 = .ok (.ladd, 1) := by decide +kernel
theorem dX8_likely_93 : decode cX8_likely 93 = .ok (.lstore 6, 2) := by decide +kernel
theorem dX8_likely_95 : decode cX8_likely 95 = .ok (.lload 4, 2) := by decide +kernel
theorem dX8_likely_97 : decode cX8_likely 97 = .ok (.aload_n 0, 1) := by decide +kernel
theorem dX8_likely_98 : decode cX8_likely 98 = .ok (.getfield 55, 3) := by decide +kernel
theorem dX8_likely_101 : decode cX8_likely 101 = .ok (.iload 8, 2) := by decide +kernel
theorem dX8_likely_103 : decode cX8_likely 103 = .ok (.iaload, 1) := by decide +kernel
theorem dX8_likely_104 : decode cX8_likely 104 = .ok (.iload_n 1, 1) := by decide +kernel
theorem dX8_likely_105 : decode cX8_likely 105 = .ok (.invokestatic 192, 3) := by decide +kernel
theorem dX8_likely_108 : decode cX8_likely 108 = .ok (.iload_n 2, 1) := by decide +kernel
theorem dX8_likely_109 : decode cX8_likely 109 = .ok (.invokestatic 151, 3) := by decide +kernel
theorem dX8_likely_112 : decode cX8_likely 112 = .ok (.ifCond .eq 8, 3) := by decide +kernel
theorem dX8_likely_115 : decode cX8_likely 115 = .ok (.lload 9, 2) := by decide +kernel
theorem dX8_likely_117 : decode cX8_likely 117 = .ok (.goto 4, 3) := by decide +kernel
theorem dX8_likely_120 : decode cX8_likely 120 = .ok (.lconst 0, 1) := by decide +kernel
theorem dX8_likely_121 : decode cX8_likely 121 = .ok (.ladd, 1) := by decide +kernel
theorem dX8_likely_122 : decode cX8_likely 122 = .ok (.lstore 4, 2) := by decide +kernel
theorem dX8_likely_124 : decode cX8_likely 124 = .ok (.iinc 8 1, 3) := by decide +kernel
theorem dX8_likely_127 : decode cX8_likely 127 = .ok (.goto (-70), 3) := by decide +kernel
theorem dX8_likely_130 : decode cX8_likely 130 = .ok (.lload 4, 2) := by decide +kernel
theorem dX8_likely_132 : decode cX8_likely 132 = .ok (.lload 6, 2) := by decide +kernel
theorem dX8_likely_134 : decode cX8_likely 134 = .ok (.invokestatic 232, 3) := by decide +kernel
theorem dX8_likely_137 : decode cX8_likely 137 = .ok (.lstore 8, 2) := by decide +kernel
theorem dX8_likely_139 : decode cX8_likely 139 = .ok (.iload_n 3, 1) := by decide +kernel
theorem dX8_likely_140 : decode cX8_likely 140 = .ok (.ifCond .ne 11, 3) := by decide +kernel
theorem dX8_likely_143 : decode cX8_likely 143 = .ok (.lload 4, 2) := by decide +kernel
theorem dX8_likely_145 : decode cX8_likely 145 = .ok (.lload 8, 2) := by decide +kernel
theorem dX8_likely_147 : decode cX8_likely 147 = .ok (.ldiv, 1) := by decide +kernel
theorem dX8_likely_148 : decode cX8_likely 148 = .ok (.goto 8, 3) := by decide +kernel
theorem dX8_likely_151 : decode cX8_likely 151 = .ok (.lload 6, 2) := by decide +kernel
theorem dX8_likely_153 : decode cX8_likely 153 = .ok (.lload 8, 2) := by decide +kernel
theorem dX8_likely_155 : decode cX8_likely 155 = .ok (.ldiv, 1) := by decide +kernel
theorem dX8_likely_156 : decode cX8_likely 156 = .ok (.lreturn, 1) := by decide +kernel
theorem dX8_sure_0 : decode cX8_sure 0 = .ok (.aload_n 0, 1) := by decide +kernel
theorem dX8_sure_1 : decode cX8_sure 1 = .ok (.iload_n 1, 1) := by decide +kernel
theorem dX8_sure_2 : decode cX8_sure 2 = .ok (.invokevirtual 189, 3) := by decide +kernel
theorem dX8_sure_5 : decode cX8_sure 5 = .ok (.ifCond .ne 5, 3) := by decide +kernel
theorem dX8_sure_8 : decode cX8_sure 8 = .ok (.iconst (-1), 1) := by decide +kernel
theorem dX8_sure_9 : decode cX8_sure 9 = .ok (.ireturn, 1) := by decide +kernel
theorem dX8_sure_10 : decode cX8_sure 10 = .ok (.aload_n 0, 1) := by decide +kernel
theorem dX8_sure_11 : decode cX8_sure 11 = .ok (.aload_n 0, 1) := by decide +kernel
theorem dX8_sure_12 : decode cX8_sure 12 = .ok (.getfield 58, 3) := by decide +kernel
theorem dX8_sure_15 : decode cX8_sure 15 = .ok (.bipush 8, 2) := by decide +kernel
theorem dX8_sure_17 : decode cX8_sure 17 = .ok (.iaload, 1) := by decide +kernel
theorem dX8_sure_18 : decode cX8_sure 18 = .ok (.invokevirtual 221, 3) := by decide +kernel
theorem dX8_sure_21 : decode cX8_sure 21 = .ok (.pop, 1) := by decide +kernel
theorem dX8_sure_22 : decode cX8_sure 22 = .ok (.iconst 1, 1) := by decide +kernel
theorem dX8_sure_23 : decode cX8_sure 23 = .ok (.aload_n 0, 1) := by decide +kernel
theorem dX8_sure_24 : decode cX8_sure 24 = .ok (.getfield 13, 3) := by decide +kernel
theorem dX8_sure_27 : decode cX8_sure 27 = .ok (.iconst 0, 1) := by decide +kernel
theorem dX8_sure_28 : decode cX8_sure 28 = .ok (.iaload, 1) := by decide +kernel
theorem dX8_sure_29 : decode cX8_sure 29 = .ok (.ishl, 1) := by decide +kernel
theorem dX8_sure_30 : decode cX8_sure 30 = .ok (.iconst 1, 1) := by decide +kernel
theorem dX8_sure_31 : decode cX8_sure 31 = .ok (.isub, 1) := by decide +kernel
theorem dX8_sure_32 : decode cX8_sure 32 = .ok (.istore_n 3, 1) := by decide +kernel
theorem dX8_sure_33 : decode cX8_sure 33 = .ok (.iconst 0, 1) := by decide +kernel
theorem dX8_sure_34 : decode cX8_sure 34 = .ok (.istore 4, 2) := by decide +kernel
theorem dX8_sure_36 : decode cX8_sure 36 = .ok (.iload 4, 2) := by decide +kernel
theorem dX8_sure_38 : decode cX8_sure 38 = .ok (.aload_n 0, 1) := by decide +kernel
theorem dX8_sure_39 : decode cX8_sure 39 = .ok (.getfield 172, 3) := by decide +kernel
theorem dX8_sure_42 : decode cX8_sure 42 = .ok (.if_icmp .ge 52, 3) := by decide +kernel
theorem dX8_sure_45 : decode cX8_sure 45 = .ok (.aload_n 0, 1) := by decide +kernel
theorem dX8_sure_46 : decode cX8_sure 46 = .ok (.getfield 55, 3) := by decide +kernel
theorem dX8_sure_49 : decode cX8_sure 49 = .ok (.iload 4, 2) := by decide +kernel
theorem dX8_sure_51 : decode cX8_sure 51 = .ok (.iaload, 1) := by decide +kernel
theorem dX8_sure_52 : decode cX8_sure 52 = .ok (.iload_n 1, 1) := by decide +kernel
theorem dX8_sure_53 : decode cX8_sure 53 = .ok (.invokestatic 192, 3) := by decide +kernel
theorem dX8_sure_56 : decode cX8_sure 56 = .ok (.istore 5, 2) := by decide +kernel
theorem dX8_sure_58 : decode cX8_sure 58 = .ok (.iload_n 3, 1) := by decide +kernel
theorem dX8_sure_59 : decode cX8_sure 59 = .ok (.aload_n 0, 1) := by decide +kernel
theorem dX8_sure_60 : decode cX8_sure 60 = .ok (.getfield 73, 3) := by decide +kernel
theorem dX8_sure_63 : decode cX8_sure 63 = .ok (.iload 4, 2) := by decide +kernel
theorem dX8_sure_65 : decode cX8_sure 65 = .ok (.baload, 1) := by decide +kernel
theorem dX8_sure_66 : decode cX8_sure 66 = .ok (.ifCond .eq 19, 3) := by decide +kernel
theorem dX8_sure_69 : decode cX8_sure 69 = .ok (.iload_n 2, 1) := by decide +kernel
theorem dX8_sure_70 : decode cX8_sure 70 = .ok (.ifCond .eq 10, 3) := by decide +kernel
theorem dX8_sure_73 : decode cX8_sure 73 = .ok (.iload 5, 2) := by decide +kernel
theorem dX8_sure_75 : decode cX8_sure 75 = .ok (.iconst (-1), 1) := by decide +kernel
theorem dX8_sure_76 : decode cX8_sure 76 = .ok (.ixor, 1) := by decide +kernel
theorem dX8_sure_77 : decode cX8_sure 77 = .ok (.goto 9, 3) := by decide +kernel
theorem dX8_sure_80 : decode cX8_sure 80 = .ok (.iload 5, 2) := by decide +kernel
theorem dX8_sure_82 : decode cX8_sure 82 = .ok (.goto 4, 3) := by decide +kernel
theorem dX8_sure_85 : decode cX8_sure 85 = .ok (.iconst (-1), 1) := by decide +kernel
theorem dX8_sure_86 : decode cX8_sure 86 = .ok (.iand, 1) := by decide +kernel
theorem dX8_sure_87 : decode cX8_sure 87 = .ok (.istore_n 3, 1) := by decide +kernel
theorem dX8_sure_88 : decode cX8_sure 88 = .ok (.iinc 4 1, 3) := by decide +kernel
theorem dX8_sure_91 : decode cX8_sure 91 = .ok (.goto (-55), 3) := by decide +kernel
theorem dX8_sure_94 : decode cX8_sure 94 = .ok (.iload_n 3, 1) := by decide +kernel
theorem dX8_sure_95 : decode cX8_sure 95 = .ok (.ireturn, 1) := by decide +kernel
theorem dX8_judge_0 : decode cX8_judge 0 = .ok (.iconst 1, 1) := by decide +kernel
theorem dX8_judge_1 : decode cX8_judge 1 = .ok (.istore_n 1, 1) := by decide +kernel
theorem dX8_judge_2 : decode cX8_judge 2 = .ok (.iload_n 1, 1) := by decide +kernel
theorem dX8_judge_3 : decode cX8_judge 3 = .ok (.aload_n 0, 1) := by decide +kernel
theorem dX8_judge_4 : decode cX8_judge 4 = .ok (.getfield 58, 3) := by decide +kernel
theorem dX8_judge_7 : decode cX8_judge 7 = .ok (.bipush 8, 2) := by decide +kernel
theorem dX8_judge_9 : decode cX8_judge 9 = .ok (.iaload, 1) := by decide +kernel
theorem dX8_judge_10 : decode cX8_judge 10 = .ok (.if_icmp .gt 21, 3) := by decide +kernel
theorem dX8_judge_13 : decode cX8_judge 13 = .ok (.aload_n 0, 1) := by decide +kernel
theorem dX8_judge_14 : decode cX8_judge 14 = .ok (.iload_n 1, 1) := by decide +kernel
theorem dX8_judge_15 : decode cX8_judge 15 = .ok (.invokevirtual 221, 3) := by decide +kernel
theorem dX8_judge_18 : decode cX8_judge 18 = .ok (.ifCond .ne 7, 3) := by decide +kernel
theorem dX8_judge_21 : decode cX8_judge 21 = .ok (.iload_n 1, 1) := by decide +kernel
theorem dX8_judge_22 : decode cX8_judge 22 = .ok (.iconst 1, 1) := by decide +kernel
theorem dX8_judge_23 : decode cX8_judge 23 = .ok (.isub, 1) := by decide +kernel
theorem dX8_judge_24 : decode cX8_judge 24 = .ok (.ireturn, 1) := by decide +kernel
theorem dX8_judge_25 : decode cX8_judge 25 = .ok (.iinc 1 1, 3) := by decide +kernel
theorem dX8_judge_28 : decode cX8_judge 28 = .ok (.goto (-26), 3) := by decide +kernel
theorem dX8_judge_31 : decode cX8_judge 31 = .ok (.bipush (-4), 2) := by decide +kernel
theorem dX8_judge_33 : decode cX8_judge 33 = .ok (.ireturn, 1) := by decide +kernel
theorem dX8_guess_0 : decode cX8_guess 0 = .ok (.aload_n 0, 1) := by decide +kernel
theorem dX8_guess_1 : decode cX8_guess 1 = .ok (.iload_n 1, 1) := by decide +kernel
theorem dX8_guess_2 : decode cX8_guess 2 = .ok (.invokevirtual 189, 3) := by decide +kernel
theorem dX8_guess_5 : decode cX8_guess 5 = .ok (.ifCond .eq 15, 3) := by decide +kernel
theorem dX8_guess_8 : decode cX8_guess 8 = .ok (.iload_n 2, 1) := by decide +kernel
theorem dX8_guess_9 : decode cX8_guess 9 = .ok (.i2l, 1) := by decide +kernel
theorem dX8_guess_10 : decode cX8_guess 10 = .ok (.lconst 0, 1) := by decide +kernel
theorem dX8_guess_11 : decode cX8_guess 11 = .ok (.ldc2_w 128, 3) := by decide +kernel
theorem dX8_guess_14 : decode cX8_guess 14 = .ok (.invokestatic 109, 3) := by decide +kernel
theorem dX8_guess_17 : decode cX8_guess 17 = .ok (.ifCond .ne 7, 3) := by decide +kernel
theorem dX8_guess_20 : decode cX8_guess 20 = .ok (.ldc2_w 224, 3) := by decide +kernel
theorem dX8_guess_23 : decode cX8_guess 23 = .ok (.lreturn, 1) := by decide +kernel
theorem dX8_guess_24 : decode cX8_guess 24 = .ok (.aload_n 0, 1) := by decide +kernel
theorem dX8_guess_25 : decode cX8_guess 25 = .ok (.aload_n 0, 1) := by decide +kernel
theorem dX8_guess_26 : decode cX8_guess 26 = .ok (.getfield 58, 3) := by decide +kernel
theorem dX8_guess_29 : decode cX8_guess 29 = .ok (.bipush 8, 2) := by decide +kernel
theorem dX8_guess_31 : decode cX8_guess 31 = .ok (.iaload, 1) := by decide +kernel
theorem dX8_guess_32 : decode cX8_guess 32 = .ok (.invokevirtual 221, 3) := by decide +kernel
theorem dX8_guess_35 : decode cX8_guess 35 = .ok (.ifCond .ne 7, 3) := by decide +kernel
theorem dX8_guess_38 : decode cX8_guess 38 = .ok (.ldc2_w 226, 3) := by decide +kernel
theorem dX8_guess_41 : decode cX8_guess 41 = .ok (.lreturn, 1) := by decide +kernel
theorem dX8_guess_42 : decode cX8_guess 42 = .ok (.iconst 0, 1) := by decide +kernel
theorem dX8_guess_43 : decode cX8_guess 43 = .ok (.istore_n 3, 1) := by decide +kernel
theorem dX8_guess_44 : decode cX8_guess 44 = .ok (.iload_n 3, 1) := by decide +kernel
theorem dX8_guess_45 : decode cX8_guess 45 = .ok (.sipush 256, 3) := by decide +kernel
theorem dX8_guess_48 : decode cX8_guess 48 = .ok (.if_icmp .ge 16, 3) := by decide +kernel
theorem dX8_guess_51 : decode cX8_guess 51 = .ok (.aload_n 0, 1) := by decide +kernel
theorem dX8_guess_52 : decode cX8_guess 52 = .ok (.getfield 77, 3) := by decide +kernel
theorem dX8_guess_55 : decode cX8_guess 55 = .ok (.iload_n 3, 1) := by decide +kernel
theorem dX8_guess_56 : decode cX8_guess 56 = .ok (.lconst 0, 1) := by decide +kernel
theorem dX8_guess_57 : decode cX8_guess 57 = .ok (.lastore, 1) := by decide +kernel
theorem dX8_guess_58 : decode cX8_guess 58 = .ok (.iinc 3 1, 3) := by decide +kernel
theorem dX8_guess_61 : decode cX8_guess 61 = .ok (.goto (-17), 3) := by decide +kernel
theorem dX8_guess_64 : decode cX8_guess 64 = .ok (.lconst 0, 1) := by decide +kernel
theorem dX8_guess_65 : decode cX8_guess 65 = .ok (.lstore_n 3, 1) := by decide +kernel
theorem dX8_guess_66 : decode cX8_guess 66 = .ok (.iconst 0, 1) := by decide +kernel
theorem dX8_guess_67 : decode cX8_guess 67 = .ok (.istore 5, 2) := by decide +kernel
theorem dX8_guess_69 : decode cX8_guess 69 = .ok (.iload 5, 2) := by decide +kernel
theorem dX8_guess_71 : decode cX8_guess 71 = .ok (.aload_n 0, 1) := by decide +kernel
theorem dX8_guess_72 : decode cX8_guess 72 = .ok (.getfield 172, 3) := by decide +kernel
theorem dX8_guess_75 : decode cX8_guess 75 = .ok (.if_icmp .ge 57, 3) := by decide +kernel
theorem dX8_guess_78 : decode cX8_guess 78 = .ok (.aload_n 0, 1) := by decide +kernel
theorem dX8_guess_79 : decode cX8_guess 79 = .ok (.getfield 73, 3) := by decide +kernel
theorem dX8_guess_82 : decode cX8_guess 82 = .ok (.iload 5, 2) := by decide +kernel
theorem dX8_guess_84 : decode cX8_guess 84 = .ok (.baload, 1) := by decide +kernel
theorem dX8_guess_85 : decode cX8_guess 85 = .ok (.ifCond .eq 12, 3) := by decide +kernel
theorem dX8_guess_88 : decode cX8_guess 88 = .ok (.aload_n 0, 1) := by decide +kernel
theorem dX8_guess_89 : decode cX8_guess 89 = .ok (.iload 5, 2) := by decide +kernel
theorem dX8_guess_91 : decode cX8_guess 91 = .ok (.invokevirtual 228, 3) := by decide +kernel
theorem dX8_guess_94 : decode cX8_guess 94 = .ok (.goto 4, 3) := by decide +kernel
theorem dX8_guess_97 : decode cX8_guess 97 = .ok (.lconst 0, 1) := by decide +kernel
theorem dX8_guess_98 : decode cX8_guess 98 = .ok (.lstore 6, 2) := by decide +kernel
theorem dX8_guess_100 : decode cX8_guess 100 = .ok (.aload_n 0, 1) := by decide +kernel
theorem dX8_guess_101 : decode cX8_guess 101 = .ok (.getfield 77, 3) := by decide +kernel
theorem dX8_guess_104 : decode cX8_guess 104 = .ok (.aload_n 0, 1) := by decide +kernel
theorem dX8_guess_105 : decode cX8_guess 105 = .ok (.getfield 55, 3) := by decide +kernel
theorem dX8_guess_108 : decode cX8_guess 108 = .ok (.iload 5, 2) := by decide +kernel
theorem dX8_guess_110 : decode cX8_guess 110 = .ok (.iaload, 1) := by decide +kernel
theorem dX8_guess_111 : decode cX8_guess 111 = .ok (.iload_n 1, 1) := by decide +kernel
theorem dX8_guess_112 : decode cX8_guess 112 = .ok (.invokestatic 192, 3) := by decide +kernel
theorem dX8_guess_115 : decode cX8_guess 115 = .ok (.dup2, 1) := by decide +kernel
theorem dX8_guess_116 : decode cX8_guess 116 = .ok (.laload, 1) := by decide +kernel
theorem dX8_guess_117 : decode cX8_guess 117 = .ok (.lload 6, 2) := by decide +kernel
theorem dX8_guess_119 : decode cX8_guess 119 = .ok (.ladd, 1) := by decide +kernel
theorem dX8_guess_120 : decode cX8_guess 120 = .ok (.lastore, 1) := by decide +kernel
theorem dX8_guess_121 : decode cX8_guess 121 = .ok (.lload_n 3, 1) := by decide +kernel
theorem dX8_guess_122 : decode cX8_guess 122 = .ok (.lload 6, 2) := by decide +kernel
theorem dX8_guess_124 : decode cX8_guess 124 = .ok (.ladd, 1) := by decide +kernel
theorem dX8_guess_125 : decode cX8_guess 125 = .ok (.lstore_n 3, 1) := by decide +kernel
theorem dX8_guess_126 : decode cX8_guess 126 = .ok (.iinc 5 1, 3) := by decide +kernel
theorem dX8_guess_129 : decode cX8_guess 129 = .ok (.goto (-60), 3) := by decide +kernel
theorem dX8_guess_132 : decode cX8_guess 132 = .ok (.iconst 0, 1) := by decide +kernel
theorem dX8_guess_133 : decode cX8_guess 133 = .ok (.istore 5, 2) := by decide +kernel
theorem dX8_guess_135 : decode cX8_guess 135 = .ok (.iconst 1, 1) := by decide +kernel
theorem dX8_guess_136 : decode cX8_guess 136 = .ok (.istore 6, 2) := by decide +kernel
theorem dX8_guess_138 : decode cX8_guess 138 = .ok (.iload 6, 2) := by decide +kernel
theorem dX8_guess_140 : decode cX8_guess 140 = .ok (.sipush 256, 3) := by decide +kernel
theorem dX8_guess_143 : decode cX8_guess 143 = .ok (.if_icmp .ge 36, 3) := by decide +kernel
theorem dX8_guess_146 : decode cX8_guess 146 = .ok (.aload_n 0, 1) := by decide +kernel
theorem dX8_guess_147 : decode cX8_guess 147 = .ok (.getfield 77, 3) := by decide +kernel
theorem dX8_guess_150 : decode cX8_guess 150 = .ok (.iload 6, 2) := by decide +kernel
theorem dX8_guess_152 : decode cX8_guess 152 = .ok (.laload, 1) := by decide +kernel
theorem dX8_guess_153 : decode cX8_guess 153 = .ok (.aload_n 0, 1) := by decide +kernel
theorem dX8_guess_154 : decode cX8_guess 154 = .ok (.getfield 77, 3) := by decide +kernel
theorem dX8_guess_157 : decode cX8_guess 157 = .ok (.iload 5, 2) := by decide +kernel
theorem dX8_guess_159 : decode cX8_guess 159 = .ok (.laload, 1) := by decide +kernel
theorem dX8_guess_160 : decode cX8_guess 160 = .ok (.lcmp, 1) := by decide +kernel
theorem dX8_guess_161 : decode cX8_guess 161 = .ok (.ifCond .le 8, 3) := by decide +kernel
theorem dX8_guess_164 : decode cX8_guess 164 = .ok (.iload 6, 2) := by decide +kernel
theorem dX8_guess_166 : decode cX8_guess 166 = .ok (.goto 5, 3) := by decide +kernel
theorem dX8_guess_169 : decode cX8_guess 169 = .ok (.iload 5, 2) := by decide +kernel
theorem dX8_guess_171 : decode cX8_guess 171 = .ok (.istore 5, 2) := by decide +kernel
theorem dX8_guess_173 : decode cX8_guess 173 = .ok (.iinc 6 1, 3) := by decide +kernel
theorem dX8_guess_176 : decode cX8_guess 176 = .ok (.goto (-38), 3) := by decide +kernel
theorem dX8_guess_179 : decode cX8_guess 179 = .ok (.aload_n 0, 1) := by decide +kernel
theorem dX8_guess_180 : decode cX8_guess 180 = .ok (.getfield 77, 3) := by decide +kernel
theorem dX8_guess_183 : decode cX8_guess 183 = .ok (.iload 5, 2) := by decide +kernel
theorem dX8_guess_185 : decode cX8_guess 185 = .ok (.laload, 1) := by decide +kernel
theorem dX8_guess_186 : decode cX8_guess 186 = .ok (.lload_n 3, 1) := by decide +kernel
theorem dX8_guess_187 : decode cX8_guess 187 = .ok (.invokestatic 232, 3) := by decide +kernel
theorem dX8_guess_190 : decode cX8_guess 190 = .ok (.lstore 6, 2) := by decide +kernel
theorem dX8_guess_192 : decode cX8_guess 192 = .ok (.iload_n 2, 1) := by decide +kernel
theorem dX8_guess_193 : decode cX8_guess 193 = .ok (.ifCond .ne 9, 3) := by decide +kernel
theorem dX8_guess_196 : decode cX8_guess 196 = .ok (.iload 5, 2) := by decide +kernel
theorem dX8_guess_198 : decode cX8_guess 198 = .ok (.i2l, 1) := by decide +kernel
theorem dX8_guess_199 : decode cX8_guess 199 = .ok (.goto 25, 3) := by decide +kernel
theorem dX8_guess_202 : decode cX8_guess 202 = .ok (.iload_n 2, 1) := by decide +kernel
theorem dX8_guess_203 : decode cX8_guess 203 = .ok (.iconst 1, 1) := by decide +kernel
theorem dX8_guess_204 : decode cX8_guess 204 = .ok (.if_icmp .ne 16, 3) := by decide +kernel
theorem dX8_guess_207 : decode cX8_guess 207 = .ok (.aload_n 0, 1) := by decide +kernel
theorem dX8_guess_208 : decode cX8_guess 208 = .ok (.getfield 77, 3) := by decide +kernel
theorem dX8_guess_211 : decode cX8_guess 211 = .ok (.iload 5, 2) := by decide +kernel
theorem dX8_guess_213 : decode cX8_guess 213 = .ok (.laload, 1) := by decide +kernel
theorem dX8_guess_214 : decode cX8_guess 214 = .ok (.lload 6, 2) := by decide +kernel
theorem dX8_guess_216 : decode cX8_guess 216 = .ok (.ldiv, 1) := by decide +kernel
theorem dX8_guess_217 : decode cX8_guess 217 = .ok (.goto 7, 3) := by decide +kernel
theorem dX8_guess_220 : decode cX8_guess 220 = .ok (.lload_n 3, 1) := by decide +kernel
theorem dX8_guess_221 : decode cX8_guess 221 = .ok (.lload 6, 2) := by decide +kernel
theorem dX8_guess_223 : decode cX8_guess 223 = .ok (.ldiv, 1) := by decide +kernel
theorem dX8_guess_224 : decode cX8_guess 224 = .ok (.lreturn, 1) := by decide +kernel
theorem dX8_worstOf_0 : decode cX8_worstOf 0 = .ok (.iconst 0, 1) := by decide +kernel
theorem dX8_worstOf_1 : decode cX8_worstOf 1 = .ok (.istore_n 3, 1) := by decide +kernel
theorem dX8_worstOf_2 : decode cX8_worstOf 2 = .ok (.iload_n 3, 1) := by decide +kernel
theorem dX8_worstOf_3 : decode cX8_worstOf 3 = .ok (.bipush 60, 2) := by decide +kernel
theorem dX8_worstOf_5 : decode cX8_worstOf 5 = .ok (.if_icmp .ge 16, 3) := by decide +kernel
theorem dX8_worstOf_8 : decode cX8_worstOf 8 = .ok (.aload_n 0, 1) := by decide +kernel
theorem dX8_worstOf_9 : decode cX8_worstOf 9 = .ok (.getfield 81, 3) := by decide +kernel
theorem dX8_worstOf_12 : decode cX8_worstOf 12 = .ok (.iload_n 3, 1) := by decide +kernel
theorem dX8_worstOf_13 : decode cX8_worstOf 13 = .ok (.iconst 0, 1) := by decide +kernel
theorem dX8_worstOf_14 : decode cX8_worstOf 14 = .ok (.iastore, 1) := by decide +kernel
theorem dX8_worstOf_15 : decode cX8_worstOf 15 = .ok (.iinc 3 1, 3) := by decide +kernel
theorem dX8_worstOf_18 : decode cX8_worstOf 18 = .ok (.goto (-16), 3) := by decide +kernel
theorem dX8_worstOf_21 : decode cX8_worstOf 21 = .ok (.iconst 0, 1) := by decide +kernel
theorem dX8_worstOf_22 : decode cX8_worstOf 22 = .ok (.istore_n 3, 1) := by decide +kernel
theorem dX8_worstOf_23 : decode cX8_worstOf 23 = .ok (.iconst 0, 1) := by decide +kernel
theorem dX8_worstOf_24 : decode cX8_worstOf 24 = .ok (.istore 4, 2) := by decide +kernel
theorem dX8_worstOf_26 : decode cX8_worstOf 26 = .ok (.iload 4, 2) := by decide +kernel
theorem dX8_worstOf_28 : decode cX8_worstOf 28 = .ok (.aload_n 0, 1) := by decide +kernel
theorem dX8_worstOf_29 : decode cX8_worstOf 29 = .ok (.getfield 172, 3) := by decide +kernel
theorem dX8_worstOf_32 : decode cX8_worstOf 32 = .ok (.if_icmp .ge 73, 3) := by decide +kernel
theorem dX8_worstOf_35 : decode cX8_worstOf 35 = .ok (.aload_n 0, 1) := by decide +kernel
theorem dX8_worstOf_36 : decode cX8_worstOf 36 = .ok (.getfield 73, 3) := by decide +kernel
theorem dX8_worstOf_39 : decode cX8_worstOf 39 = .ok (.iload 4, 2) := by decide +kernel
theorem dX8_worstOf_41 : decode cX8_worstOf 41 = .ok (.baload, 1) := by decide +kernel
theorem dX8_worstOf_42 : decode cX8_worstOf 42 = .ok (.ifCond .eq 57, 3) := by decide +kernel
theorem dX8_worstOf_45 : decode cX8_worstOf 45 = .ok (.aload_n 0, 1) := by decide +kernel
theorem dX8_worstOf_46 : decode cX8_worstOf 46 = .ok (.iload_n 1, 1) := by decide +kernel
theorem dX8_worstOf_47 : decode cX8_worstOf 47 = .ok (.iload_n 2, 1) := by decide +kernel
theorem dX8_worstOf_48 : decode cX8_worstOf 48 = .ok (.aload_n 0, 1) := by decide +kernel
theorem dX8_worstOf_49 : decode cX8_worstOf 49 = .ok (.getfield 55, 3) := by decide +kernel
theorem dX8_worstOf_52 : decode cX8_worstOf 52 = .ok (.iload 4, 2) := by decide +kernel
theorem dX8_worstOf_54 : decode cX8_worstOf 54 = .ok (.iaload, 1) := by decide +kernel
theorem dX8_worstOf_55 : decode cX8_worstOf 55 = .ok (.iload_n 1, 1) := by decide +kernel
theorem dX8_worstOf_56 : decode cX8_worstOf 56 = .ok (.invokestatic 192, 3) := by decide +kernel
theorem dX8_worstOf_59 : decode cX8_worstOf 59 = .ok (.iconst 0, 1) := by decide +kernel
theorem dX8_worstOf_60 : decode cX8_worstOf 60 = .ok (.invokevirtual 203, 3) := by decide +kernel
theorem dX8_worstOf_63 : decode cX8_worstOf 63 = .ok (.istore 5, 2) := by decide +kernel
theorem dX8_worstOf_65 : decode cX8_worstOf 65 = .ok (.aload_n 0, 1) := by decide +kernel
theorem dX8_worstOf_66 : decode cX8_worstOf 66 = .ok (.getfield 81, 3) := by decide +kernel
theorem dX8_worstOf_69 : decode cX8_worstOf 69 = .ok (.iload 5, 2) := by decide +kernel
theorem dX8_worstOf_71 : decode cX8_worstOf 71 = .ok (.dup2, 1) := by decide +kernel
theorem dX8_worstOf_72 : decode cX8_worstOf 72 = .ok (.iaload, 1) := by decide +kernel
theorem dX8_worstOf_73 : decode cX8_worstOf 73 = .ok (.iconst 1, 1) := by decide +kernel
theorem dX8_worstOf_74 : decode cX8_worstOf 74 = .ok (.iadd, 1) := by decide +kernel
theorem dX8_worstOf_75 : decode cX8_worstOf 75 = .ok (.iastore, 1) := by decide +kernel
theorem dX8_worstOf_76 : decode cX8_worstOf 76 = .ok (.aload_n 0, 1) := by decide +kernel
theorem dX8_worstOf_77 : decode cX8_worstOf 77 = .ok (.getfield 81, 3) := by decide +kernel
theorem dX8_worstOf_80 : decode cX8_worstOf 80 = .ok (.iload 5, 2) := by decide +kernel
theorem dX8_worstOf_82 : decode cX8_worstOf 82 = .ok (.iaload, 1) := by decide +kernel
theorem dX8_worstOf_83 : decode cX8_worstOf 83 = .ok (.iload_n 3, 1) := by decide +kernel
theorem dX8_worstOf_84 : decode cX8_worstOf 84 = .ok (.if_icmp .le 13, 3) := by decide +kernel
theorem dX8_worstOf_87 : decode cX8_worstOf 87 = .ok (.aload_n 0, 1) := by decide +kernel
theorem dX8_worstOf_88 : decode cX8_worstOf 88 = .ok (.getfield 81, 3) := by decide +kernel
theorem dX8_worstOf_91 : decode cX8_worstOf 91 = .ok (.iload 5, 2) := by decide +kernel
theorem dX8_worstOf_93 : decode cX8_worstOf 93 = .ok (.iaload, 1) := by decide +kernel
theorem dX8_worstOf_94 : decode cX8_worstOf 94 = .ok (.goto 4, 3) := by decide +kernel
theorem dX8_worstOf_97 : decode cX8_worstOf 97 = .ok (.iload_n 3, 1) := by decide +kernel
theorem dX8_worstOf_98 : decode cX8_worstOf 98 = .ok (.istore_n 3, 1) := by decide +kernel
theorem dX8_worstOf_99 : decode cX8_worstOf 99 = .ok (.iinc 4 1, 3) := by decide +kernel
theorem dX8_worstOf_102 : decode cX8_worstOf 102 = .ok (.goto (-76), 3) := by decide +kernel
theorem dX8_worstOf_105 : decode cX8_worstOf 105 = .ok (.iload_n 3, 1) := by decide +kernel
theorem dX8_worstOf_106 : decode cX8_worstOf 106 = .ok (.ireturn, 1) := by decide +kernel
theorem dX8_bestTrial_0 : decode cX8_bestTrial 0 = .ok (.bipush (-4), 2) := by decide +kernel
theorem dX8_bestTrial_2 : decode cX8_bestTrial 2 = .ok (.istore_n 1, 1) := by decide +kernel
theorem dX8_bestTrial_3 : decode cX8_bestTrial 3 = .ok (.iconst 0, 1) := by decide +kernel
theorem dX8_bestTrial_4 : decode cX8_bestTrial 4 = .ok (.istore_n 2, 1) := by decide +kernel
theorem dX8_bestTrial_5 : decode cX8_bestTrial 5 = .ok (.iload_n 2, 1) := by decide +kernel
theorem dX8_bestTrial_6 : decode cX8_bestTrial 6 = .ok (.iconst 4, 1) := by decide +kernel
theorem dX8_bestTrial_7 : decode cX8_bestTrial 7 = .ok (.aload_n 0, 1) := by decide +kernel
theorem dX8_bestTrial_8 : decode cX8_bestTrial 8 = .ok (.getfield 28, 3) := by decide +kernel
theorem dX8_bestTrial_11 : decode cX8_bestTrial 11 = .ok (.iconst 0, 1) := by decide +kernel
theorem dX8_bestTrial_12 : decode cX8_bestTrial 12 = .ok (.iaload, 1) := by decide +kernel
theorem dX8_bestTrial_13 : decode cX8_bestTrial 13 = .ok (.imul, 1) := by decide +kernel
theorem dX8_bestTrial_14 : decode cX8_bestTrial 14 = .ok (.if_icmp .ge 39, 3) := by decide +kernel
theorem dX8_bestTrial_17 : decode cX8_bestTrial 17 = .ok (.aload_n 0, 1) := by decide +kernel
theorem dX8_bestTrial_18 : decode cX8_bestTrial 18 = .ok (.iload_n 2, 1) := by decide +kernel
theorem dX8_bestTrial_19 : decode cX8_bestTrial 19 = .ok (.iconst 4, 1) := by decide +kernel
theorem dX8_bestTrial_20 : decode cX8_bestTrial 20 = .ok (.idiv, 1) := by decide +kernel
theorem dX8_bestTrial_21 : decode cX8_bestTrial 21 = .ok (.iload_n 2, 1) := by decide +kernel
theorem dX8_bestTrial_22 : decode cX8_bestTrial 22 = .ok (.iconst 4, 1) := by decide +kernel
theorem dX8_bestTrial_23 : decode cX8_bestTrial 23 = .ok (.irem, 1) := by decide +kernel
theorem dX8_bestTrial_24 : decode cX8_bestTrial 24 = .ok (.invokevirtual 236, 3) := by decide +kernel
theorem dX8_bestTrial_27 : decode cX8_bestTrial 27 = .ok (.istore_n 3, 1) := by decide +kernel
theorem dX8_bestTrial_28 : decode cX8_bestTrial 28 = .ok (.iload_n 1, 1) := by decide +kernel
theorem dX8_bestTrial_29 : decode cX8_bestTrial 29 = .ok (.ifCond .lt 11, 3) := by decide +kernel
theorem dX8_bestTrial_32 : decode cX8_bestTrial 32 = .ok (.iload_n 3, 1) := by decide +kernel
theorem dX8_bestTrial_33 : decode cX8_bestTrial 33 = .ok (.aload_n 0, 1) := by decide +kernel
theorem dX8_bestTrial_34 : decode cX8_bestTrial 34 = .ok (.getfield 239, 3) := by decide +kernel
theorem dX8_bestTrial_37 : decode cX8_bestTrial 37 = .ok (.if_icmp .ge 10, 3) := by decide +kernel
theorem dX8_bestTrial_40 : decode cX8_bestTrial 40 = .ok (.iload_n 2, 1) := by decide +kernel
theorem dX8_bestTrial_41 : decode cX8_bestTrial 41 = .ok (.istore_n 1, 1) := by decide +kernel
theorem dX8_bestTrial_42 : decode cX8_bestTrial 42 = .ok (.aload_n 0, 1) := by decide +kernel
theorem dX8_bestTrial_43 : decode cX8_bestTrial 43 = .ok (.iload_n 3, 1) := by decide +kernel
theorem dX8_bestTrial_44 : decode cX8_bestTrial 44 = .ok (.putfield 239, 3) := by decide +kernel
theorem dX8_bestTrial_47 : decode cX8_bestTrial 47 = .ok (.iinc 2 1, 3) := by decide +kernel
theorem dX8_bestTrial_50 : decode cX8_bestTrial 50 = .ok (.goto (-45), 3) := by decide +kernel
theorem dX8_bestTrial_53 : decode cX8_bestTrial 53 = .ok (.iload_n 1, 1) := by decide +kernel
theorem dX8_bestTrial_54 : decode cX8_bestTrial 54 = .ok (.ireturn, 1) := by decide +kernel
theorem dX8_next_0 : decode cX8_next 0 = .ok (.iload_n 1, 1) := by decide +kernel
theorem dX8_next_1 : decode cX8_next 1 = .ok (.i2l, 1) := by decide +kernel
theorem dX8_next_2 : decode cX8_next 2 = .ok (.lconst 0, 1) := by decide +kernel
theorem dX8_next_3 : decode cX8_next 3 = .ok (.lconst 1, 1) := by decide +kernel
theorem dX8_next_4 : decode cX8_next 4 = .ok (.invokestatic 109, 3) := by decide +kernel
theorem dX8_next_7 : decode cX8_next 7 = .ok (.ifCond .ne 5, 3) := by decide +kernel
theorem dX8_next_10 : decode cX8_next 10 = .ok (.iconst (-1), 1) := by decide +kernel
theorem dX8_next_11 : decode cX8_next 11 = .ok (.ireturn, 1) := by decide +kernel
theorem dX8_next_12 : decode cX8_next 12 = .ok (.aload_n 0, 1) := by decide +kernel
theorem dX8_next_13 : decode cX8_next 13 = .ok (.aload_n 0, 1) := by decide +kernel
theorem dX8_next_14 : decode cX8_next 14 = .ok (.getfield 58, 3) := by decide +kernel
theorem dX8_next_17 : decode cX8_next 17 = .ok (.bipush 8, 2) := by decide +kernel
theorem dX8_next_19 : decode cX8_next 19 = .ok (.iaload, 1) := by decide +kernel
theorem dX8_next_20 : decode cX8_next 20 = .ok (.invokevirtual 221, 3) := by decide +kernel
theorem dX8_next_23 : decode cX8_next 23 = .ok (.ifCond .ne 6, 3) := by decide +kernel
theorem dX8_next_26 : decode cX8_next 26 = .ok (.bipush (-4), 2) := by decide +kernel
theorem dX8_next_28 : decode cX8_next 28 = .ok (.ireturn, 1) := by decide +kernel
theorem dX8_next_29 : decode cX8_next 29 = .ok (.aload_n 0, 1) := by decide +kernel
theorem dX8_next_30 : decode cX8_next 30 = .ok (.invokevirtual 242, 3) := by decide +kernel
theorem dX8_next_33 : decode cX8_next 33 = .ok (.istore_n 2, 1) := by decide +kernel
theorem dX8_next_34 : decode cX8_next 34 = .ok (.iload_n 1, 1) := by decide +kernel
theorem dX8_next_35 : decode cX8_next 35 = .ok (.ifCond .ne 7, 3) := by decide +kernel
theorem dX8_next_38 : decode cX8_next 38 = .ok (.iload_n 2, 1) := by decide +kernel
theorem dX8_next_39 : decode cX8_next 39 = .ok (.goto 7, 3) := by decide +kernel
theorem dX8_next_42 : decode cX8_next 42 = .ok (.aload_n 0, 1) := by decide +kernel
theorem dX8_next_43 : decode cX8_next 43 = .ok (.getfield 239, 3) := by decide +kernel
theorem dX8_next_46 : decode cX8_next 46 = .ok (.ireturn, 1) := by decide +kernel
theorem dX8_meet_0 : decode cX8_meet 0 = .ok (.aload_n 0, 1) := by decide +kernel
theorem dX8_meet_1 : decode cX8_meet 1 = .ok (.getfield 84, 3) := by decide +kernel
theorem dX8_meet_4 : decode cX8_meet 4 = .ok (.iload_n 1, 1) := by decide +kernel
theorem dX8_meet_5 : decode cX8_meet 5 = .ok (.aload_n 0, 1) := by decide +kernel
theorem dX8_meet_6 : decode cX8_meet 6 = .ok (.getfield 84, 3) := by decide +kernel
theorem dX8_meet_9 : decode cX8_meet 9 = .ok (.iload_n 1, 1) := by decide +kernel
theorem dX8_meet_10 : decode cX8_meet 10 = .ok (.iaload, 1) := by decide +kernel
theorem dX8_meet_11 : decode cX8_meet 11 = .ok (.ifCond .eq 13, 3) := by decide +kernel
theorem dX8_meet_14 : decode cX8_meet 14 = .ok (.aload_n 0, 1) := by decide +kernel
theorem dX8_meet_15 : decode cX8_meet 15 = .ok (.getfield 84, 3) := by decide +kernel
theorem dX8_meet_18 : decode cX8_meet 18 = .ok (.iload_n 1, 1) := by decide +kernel
theorem dX8_meet_19 : decode cX8_meet 19 = .ok (.iaload, 1) := by decide +kernel
theorem dX8_meet_20 : decode cX8_meet 20 = .ok (.iload_n 2, 1) := by decide +kernel
theorem dX8_meet_21 : decode cX8_meet 21 = .ok (.if_icmp .ne 7, 3) := by decide +kernel
theorem dX8_meet_24 : decode cX8_meet 24 = .ok (.iload_n 2, 1) := by decide +kernel
theorem dX8_meet_25 : decode cX8_meet 25 = .ok (.goto 4, 3) := by decide +kernel
theorem dX8_meet_28 : decode cX8_meet 28 = .ok (.iconst (-1), 1) := by decide +kernel
theorem dX8_meet_29 : decode cX8_meet 29 = .ok (.iastore, 1) := by decide +kernel
theorem dX8_meet_30 : decode cX8_meet 30 = .ok (.return_, 1) := by decide +kernel
theorem dX8_layTwo_0 : decode cX8_layTwo 0 = .ok (.iconst 0, 1) := by decide +kernel
theorem dX8_layTwo_1 : decode cX8_layTwo 1 = .ok (.istore 4, 2) := by decide +kernel
theorem dX8_layTwo_3 : decode cX8_layTwo 3 = .ok (.iload 4, 2) := by decide +kernel
theorem dX8_layTwo_5 : decode cX8_layTwo 5 = .ok (.sipush 3600, 3) := by decide +kernel
theorem dX8_layTwo_8 : decode cX8_layTwo 8 = .ok (.if_icmp .ge 17, 3) := by decide +kernel
theorem dX8_layTwo_11 : decode cX8_layTwo 11 = .ok (.aload_n 0, 1) := by decide +kernel
theorem dX8_layTwo_12 : decode cX8_layTwo 12 = .ok (.getfield 84, 3) := by decide +kernel
theorem dX8_layTwo_15 : decode cX8_layTwo 15 = .ok (.iload 4, 2) := by decide +kernel
theorem dX8_layTwo_17 : decode cX8_layTwo 17 = .ok (.iconst 0, 1) := by decide +kernel
theorem dX8_layTwo_18 : decode cX8_layTwo 18 = .ok (.iastore, 1) := by decide +kernel
theorem dX8_layTwo_19 : decode cX8_layTwo 19 = .ok (.iinc 4 1, 3) := by decide +kernel
theorem dX8_layTwo_22 : decode cX8_layTwo 22 = .ok (.goto (-19), 3) := by decide +kernel
theorem dX8_layTwo_25 : decode cX8_layTwo 25 = .ok (.iconst 0, 1) := by decide +kernel
theorem dX8_layTwo_26 : decode cX8_layTwo 26 = .ok (.istore 4, 2) := by decide +kernel
theorem dX8_layTwo_28 : decode cX8_layTwo 28 = .ok (.iload 4, 2) := by decide +kernel
theorem dX8_layTwo_30 : decode cX8_layTwo 30 = .ok (.aload_n 0, 1) := by decide +kernel
theorem dX8_layTwo_31 : decode cX8_layTwo 31 = .ok (.getfield 172, 3) := by decide +kernel
theorem dX8_layTwo_34 : decode cX8_layTwo 34 = .ok (.if_icmp .ge 110, 3) := by decide +kernel
theorem dX8_layTwo_37 : decode cX8_layTwo 37 = .ok (.aload_n 0, 1) := by decide +kernel
theorem dX8_layTwo_38 : decode cX8_layTwo 38 = .ok (.getfield 73, 3) := by decide +kernel
theorem dX8_layTwo_41 : decode cX8_layTwo 41 = .ok (.iload 4, 2) := by decide +kernel
theorem dX8_layTwo_43 : decode cX8_layTwo 43 = .ok (.baload, 1) := by decide +kernel
theorem dX8_layTwo_44 : decode cX8_layTwo 44 = .ok (.ifCond .eq 94, 3) := by decide +kernel
theorem dX8_layTwo_47 : decode cX8_layTwo 47 = .ok (.iload_n 2, 1) := by decide +kernel
theorem dX8_layTwo_48 : decode cX8_layTwo 48 = .ok (.ifCond .ge 7, 3) := by decide +kernel
theorem dX8_layTwo_51 : decode cX8_layTwo 51 = .ok (.iconst 0, 1) := by decide +kernel
theorem dX8_layTwo_52 : decode cX8_layTwo 52 = .ok (.goto 27, 3) := by decide +kernel
theorem dX8_layTwo_55 : decode cX8_layTwo 55 = .ok (.aload_n 0, 1) := by decide +kernel
theorem dX8_layTwo_56 : decode cX8_layTwo 56 = .ok (.iload_n 2, 1) := by decide +kernel
theorem dX8_layTwo_57 : decode cX8_layTwo 57 = .ok (.iconst 4, 1) := by decide +kernel
theorem dX8_layTwo_58 : decode cX8_layTwo 58 = .ok (.idiv, 1) := by decide +kernel
theorem dX8_layTwo_59 : decode cX8_layTwo 59 = .ok (.iload_n 2, 1) := by decide +kernel
theorem dX8_layTwo_60 : decode cX8_layTwo 60 = .ok (.iconst 4, 1) := by decide +kernel
theorem dX8_layTwo_61 : decode cX8_layTwo 61 = .ok (.irem, 1) := by decide +kernel
theorem dX8_layTwo_62 : decode cX8_layTwo 62 = .ok (.aload_n 0, 1) := by decide +kernel
theorem dX8_layTwo_63 : decode cX8_layTwo 63 = .ok (.getfield 55, 3) := by decide +kernel
theorem dX8_layTwo_66 : decode cX8_layTwo 66 = .ok (.iload 4, 2) := by decide +kernel
theorem dX8_layTwo_68 : decode cX8_layTwo 68 = .ok (.iaload, 1) := by decide +kernel
theorem dX8_layTwo_69 : decode cX8_layTwo 69 = .ok (.iload_n 2, 1) := by decide +kernel
theorem dX8_layTwo_70 : decode cX8_layTwo 70 = .ok (.iconst 4, 1) := by decide +kernel
theorem dX8_layTwo_71 : decode cX8_layTwo 71 = .ok (.idiv, 1) := by decide +kernel
theorem dX8_layTwo_72 : decode cX8_layTwo 72 = .ok (.invokestatic 192, 3) := by decide +kernel
theorem dX8_layTwo_75 : decode cX8_layTwo 75 = .ok (.iconst 0, 1) := by decide +kernel
theorem dX8_layTwo_76 : decode cX8_layTwo 76 = .ok (.invokevirtual 203, 3) := by decide +kernel
theorem dX8_layTwo_79 : decode cX8_layTwo 79 = .ok (.istore 5, 2) := by decide +kernel
theorem dX8_layTwo_81 : decode cX8_layTwo 81 = .ok (.iload_n 3, 1) := by decide +kernel
theorem dX8_layTwo_82 : decode cX8_layTwo 82 = .ok (.ifCond .ge 7, 3) := by decide +kernel
theorem dX8_layTwo_85 : decode cX8_layTwo 85 = .ok (.iconst 0, 1) := by decide +kernel
theorem dX8_layTwo_86 : decode cX8_layTwo 86 = .ok (.goto 27, 3) := by decide +kernel
theorem dX8_layTwo_89 : decode cX8_layTwo 89 = .ok (.aload_n 0, 1) := by decide +kernel
theorem dX8_layTwo_90 : decode cX8_layTwo 90 = .ok (.iload_n 3, 1) := by decide +kernel
theorem dX8_layTwo_91 : decode cX8_layTwo 91 = .ok (.iconst 4, 1) := by decide +kernel
theorem dX8_layTwo_92 : decode cX8_layTwo 92 = .ok (.idiv, 1) := by decide +kernel
theorem dX8_layTwo_93 : decode cX8_layTwo 93 = .ok (.iload_n 3, 1) := by decide +kernel
theorem dX8_layTwo_94 : decode cX8_layTwo 94 = .ok (.iconst 4, 1) := by decide +kernel
theorem dX8_layTwo_95 : decode cX8_layTwo 95 = .ok (.irem, 1) := by decide +kernel
theorem dX8_layTwo_96 : decode cX8_layTwo 96 = .ok (.aload_n 0, 1) := by decide +kernel
theorem dX8_layTwo_97 : decode cX8_layTwo 97 = .ok (.getfield 55, 3) := by decide +kernel
theorem dX8_layTwo_100 : decode cX8_layTwo 100 = .ok (.iload 4, 2) := by decide +kernel
theorem dX8_layTwo_102 : decode cX8_layTwo 102 = .ok (.iaload, 1) := by decide +kernel
theorem dX8_layTwo_103 : decode cX8_layTwo 103 = .ok (.iload_n 3, 1) := by decide +kernel
theorem dX8_layTwo_104 : decode cX8_layTwo 104 = .ok (.iconst 4, 1) := by decide +kernel
theorem dX8_layTwo_105 : decode cX8_layTwo 105 = .ok (.idiv, 1) := by decide +kernel
theorem dX8_layTwo_106 : decode cX8_layTwo 106 = .ok (.invokestatic 192, 3) := by decide +kernel
theorem dX8_layTwo_109 : decode cX8_layTwo 109 = .ok (.iconst 0, 1) := by decide +kernel
theorem dX8_layTwo_110 : decode cX8_layTwo 110 = .ok (.invokevirtual 203, 3) := by decide +kernel
theorem dX8_layTwo_113 : decode cX8_layTwo 113 = .ok (.istore 6, 2) := by decide +kernel
theorem dX8_layTwo_115 : decode cX8_layTwo 115 = .ok (.aload_n 0, 1) := by decide +kernel
theorem dX8_layTwo_116 : decode cX8_layTwo 116 = .ok (.bipush 60, 2) := by decide +kernel
theorem dX8_layTwo_118 : decode cX8_layTwo 118 = .ok (.iload 5, 2) := by decide +kernel
theorem dX8_layTwo_120 : decode cX8_layTwo 120 = .ok (.imul, 1) := by decide +kernel
theorem dX8_layTwo_121 : decode cX8_layTwo 121 = .ok (.iload 6, 2) := by decide +kernel
theorem dX8_layTwo_123 : decode cX8_layTwo 123 = .ok (.iadd, 1) := by decide +kernel
theorem dX8_layTwo_124 : decode cX8_layTwo 124 = .ok (.aload_n 0, 1) := by decide +kernel
theorem dX8_layTwo_125 : decode cX8_layTwo 125 = .ok (.getfield 55, 3) := by decide +kernel
theorem dX8_layTwo_128 : decode cX8_layTwo 128 = .ok (.iload 4, 2) := by decide +kernel
theorem dX8_layTwo_130 : decode cX8_layTwo 130 = .ok (.iaload, 1) := by decide +kernel
theorem dX8_layTwo_131 : decode cX8_layTwo 131 = .ok (.iload_n 1, 1) := by decide +kernel
theorem dX8_layTwo_132 : decode cX8_layTwo 132 = .ok (.invokestatic 192, 3) := by decide +kernel
theorem dX8_layTwo_135 : decode cX8_layTwo 135 = .ok (.invokevirtual 245, 3) := by decide +kernel
theorem dX8_layTwo_138 : decode cX8_layTwo 138 = .ok (.iinc 4 1, 3) := by decide +kernel
theorem dX8_layTwo_141 : decode cX8_layTwo 141 = .ok (.goto (-113), 3) := by decide +kernel
theorem dX8_layTwo_144 : decode cX8_layTwo 144 = .ok (.return_, 1) := by decide +kernel
theorem dX8_isKnown_0 : decode cX8_isKnown 0 = .ok (.iconst 1, 1) := by decide +kernel
theorem dX8_isKnown_1 : decode cX8_isKnown 1 = .ok (.istore_n 2, 1) := by decide +kernel
theorem dX8_isKnown_2 : decode cX8_isKnown 2 = .ok (.iconst 0, 1) := by decide +kernel
theorem dX8_isKnown_3 : decode cX8_isKnown 3 = .ok (.istore_n 3, 1) := by decide +kernel
theorem dX8_isKnown_4 : decode cX8_isKnown 4 = .ok (.iload_n 3, 1) := by decide +kernel
theorem dX8_isKnown_5 : decode cX8_isKnown 5 = .ok (.bipush 60, 2) := by decide +kernel
theorem dX8_isKnown_7 : decode cX8_isKnown 7 = .ok (.if_icmp .ge 33, 3) := by decide +kernel
theorem dX8_isKnown_10 : decode cX8_isKnown 10 = .ok (.iload_n 2, 1) := by decide +kernel
theorem dX8_isKnown_11 : decode cX8_isKnown 11 = .ok (.ifCond .eq 21, 3) := by decide +kernel
theorem dX8_isKnown_14 : decode cX8_isKnown 14 = .ok (.aload_n 0, 1) := by decide +kernel
theorem dX8_isKnown_15 : decode cX8_isKnown 15 = .ok (.getfield 84, 3) := by decide +kernel
theorem dX8_isKnown_18 : decode cX8_isKnown 18 = .ok (.bipush 60, 2) := by decide +kernel
theorem dX8_isKnown_20 : decode cX8_isKnown 20 = .ok (.iload_n 1, 1) := by decide +kernel
theorem dX8_isKnown_21 : decode cX8_isKnown 21 = .ok (.imul, 1) := by decide +kernel
theorem dX8_isKnown_22 : decode cX8_isKnown 22 = .ok (.iload_n 3, 1) := by decide +kernel
theorem dX8_isKnown_23 : decode cX8_isKnown 23 = .ok (.iadd, 1) := by decide +kernel
theorem dX8_isKnown_24 : decode cX8_isKnown 24 = .ok (.iaload, 1) := by decide +kernel
theorem dX8_isKnown_25 : decode cX8_isKnown 25 = .ok (.ifCond .lt 7, 3) := by decide +kernel
theorem dX8_isKnown_28 : decode cX8_isKnown 28 = .ok (.iconst 1, 1) := by decide +kernel
theorem dX8_isKnown_29 : decode cX8_isKnown 29 = .ok (.goto 4, 3) := by decide +kernel
theorem dX8_isKnown_32 : decode cX8_isKnown 32 = .ok (.iconst 0, 1) := by decide +kernel
theorem dX8_isKnown_33 : decode cX8_isKnown 33 = .ok (.istore_n 2, 1) := by decide +kernel
theorem dX8_isKnown_34 : decode cX8_isKnown 34 = .ok (.iinc 3 1, 3) := by decide +kernel
theorem dX8_isKnown_37 : decode cX8_isKnown 37 = .ok (.goto (-33), 3) := by decide +kernel
theorem dX8_isKnown_40 : decode cX8_isKnown 40 = .ok (.iload_n 2, 1) := by decide +kernel
theorem dX8_isKnown_41 : decode cX8_isKnown 41 = .ok (.ireturn, 1) := by decide +kernel
theorem dX8_isEnough_0 : decode cX8_isEnough 0 = .ok (.iconst 0, 1) := by decide +kernel
theorem dX8_isEnough_1 : decode cX8_isEnough 1 = .ok (.istore_n 3, 1) := by decide +kernel
theorem dX8_isEnough_2 : decode cX8_isEnough 2 = .ok (.iload_n 3, 1) := by decide +kernel
theorem dX8_isEnough_3 : decode cX8_isEnough 3 = .ok (.bipush 60, 2) := by decide +kernel
theorem dX8_isEnough_5 : decode cX8_isEnough 5 = .ok (.if_icmp .ge 16, 3) := by decide +kernel
theorem dX8_isEnough_8 : decode cX8_isEnough 8 = .ok (.aload_n 0, 1) := by decide +kernel
theorem dX8_isEnough_9 : decode cX8_isEnough 9 = .ok (.getfield 87, 3) := by decide +kernel
theorem dX8_isEnough_12 : decode cX8_isEnough 12 = .ok (.iload_n 3, 1) := by decide +kernel
theorem dX8_isEnough_13 : decode cX8_isEnough 13 = .ok (.iconst 0, 1) := by decide +kernel
theorem dX8_isEnough_14 : decode cX8_isEnough 14 = .ok (.bastore, 1) := by decide +kernel
theorem dX8_isEnough_15 : decode cX8_isEnough 15 = .ok (.iinc 3 1, 3) := by decide +kernel
theorem dX8_isEnough_18 : decode cX8_isEnough 18 = .ok (.goto (-16), 3) := by decide +kernel
theorem dX8_isEnough_21 : decode cX8_isEnough 21 = .ok (.iconst 0, 1) := by decide +kernel
theorem dX8_isEnough_22 : decode cX8_isEnough 22 = .ok (.istore_n 3, 1) := by decide +kernel
theorem dX8_isEnough_23 : decode cX8_isEnough 23 = .ok (.iload_n 3, 1) := by decide +kernel
theorem dX8_isEnough_24 : decode cX8_isEnough 24 = .ok (.iconst 4, 1) := by decide +kernel
theorem dX8_isEnough_25 : decode cX8_isEnough 25 = .ok (.aload_n 0, 1) := by decide +kernel
theorem dX8_isEnough_26 : decode cX8_isEnough 26 = .ok (.getfield 28, 3) := by decide +kernel
theorem dX8_isEnough_29 : decode cX8_isEnough 29 = .ok (.iconst 0, 1) := by decide +kernel
theorem dX8_isEnough_30 : decode cX8_isEnough 30 = .ok (.iaload, 1) := by decide +kernel
theorem dX8_isEnough_31 : decode cX8_isEnough 31 = .ok (.imul, 1) := by decide +kernel
theorem dX8_isEnough_32 : decode cX8_isEnough 32 = .ok (.if_icmp .ge 63, 3) := by decide +kernel
theorem dX8_isEnough_35 : decode cX8_isEnough 35 = .ok (.aload_n 0, 1) := by decide +kernel
theorem dX8_isEnough_36 : decode cX8_isEnough 36 = .ok (.iload_n 1, 1) := by decide +kernel
theorem dX8_isEnough_37 : decode cX8_isEnough 37 = .ok (.iload_n 2, 1) := by decide +kernel
theorem dX8_isEnough_38 : decode cX8_isEnough 38 = .ok (.iload_n 3, 1) := by decide +kernel
theorem dX8_isEnough_39 : decode cX8_isEnough 39 = .ok (.invokevirtual 249, 3) := by decide +kernel
theorem dX8_isEnough_42 : decode cX8_isEnough 42 = .ok (.iconst 0, 1) := by decide +kernel
theorem dX8_isEnough_43 : decode cX8_isEnough 43 = .ok (.istore 4, 2) := by decide +kernel
theorem dX8_isEnough_45 : decode cX8_isEnough 45 = .ok (.iload 4, 2) := by decide +kernel
theorem dX8_isEnough_47 : decode cX8_isEnough 47 = .ok (.bipush 60, 2) := by decide +kernel
theorem dX8_isEnough_49 : decode cX8_isEnough 49 = .ok (.if_icmp .ge 40, 3) := by decide +kernel
theorem dX8_isEnough_52 : decode cX8_isEnough 52 = .ok (.aload_n 0, 1) := by decide +kernel
theorem dX8_isEnough_53 : decode cX8_isEnough 53 = .ok (.getfield 87, 3) := by decide +kernel
theorem dX8_isEnough_56 : decode cX8_isEnough 56 = .ok (.iload 4, 2) := by decide +kernel
theorem dX8_isEnough_58 : decode cX8_isEnough 58 = .ok (.aload_n 0, 1) := by decide +kernel
theorem dX8_isEnough_59 : decode cX8_isEnough 59 = .ok (.getfield 87, 3) := by decide +kernel
theorem dX8_isEnough_62 : decode cX8_isEnough 62 = .ok (.iload 4, 2) := by decide +kernel
theorem dX8_isEnough_64 : decode cX8_isEnough 64 = .ok (.baload, 1) := by decide +kernel
theorem dX8_isEnough_65 : decode cX8_isEnough 65 = .ok (.ifCond .ne 12, 3) := by decide +kernel
theorem dX8_isEnough_68 : decode cX8_isEnough 68 = .ok (.aload_n 0, 1) := by decide +kernel
theorem dX8_isEnough_69 : decode cX8_isEnough 69 = .ok (.iload 4, 2) := by decide +kernel
theorem dX8_isEnough_71 : decode cX8_isEnough 71 = .ok (.invokevirtual 252, 3) := by decide +kernel
theorem dX8_isEnough_74 : decode cX8_isEnough 74 = .ok (.ifCond .eq 7, 3) := by decide +kernel
theorem dX8_isEnough_77 : decode cX8_isEnough 77 = .ok (.iconst 1, 1) := by decide +kernel
theorem dX8_isEnough_78 : decode cX8_isEnough 78 = .ok (.goto 4, 3) := by decide +kernel
theorem dX8_isEnough_81 : decode cX8_isEnough 81 = .ok (.iconst 0, 1) := by decide +kernel
theorem dX8_isEnough_82 : decode cX8_isEnough 82 = .ok (.bastore, 1) := by decide +kernel
theorem dX8_isEnough_83 : decode cX8_isEnough 83 = .ok (.iinc 4 1, 3) := by decide +kernel
theorem dX8_isEnough_86 : decode cX8_isEnough 86 = .ok (.goto (-41), 3) := by decide +kernel
theorem dX8_isEnough_89 : decode cX8_isEnough 89 = .ok (.iinc 3 1, 3) := by decide +kernel
theorem dX8_isEnough_92 : decode cX8_isEnough 92 = .ok (.goto (-69), 3) := by decide +kernel
theorem dX8_isEnough_95 : decode cX8_isEnough 95 = .ok (.iconst 1, 1) := by decide +kernel
theorem dX8_isEnough_96 : decode cX8_isEnough 96 = .ok (.istore_n 3, 1) := by decide +kernel
theorem dX8_isEnough_97 : decode cX8_isEnough 97 = .ok (.iconst 0, 1) := by decide +kernel
theorem dX8_isEnough_98 : decode cX8_isEnough 98 = .ok (.istore 4, 2) := by decide +kernel
theorem dX8_isEnough_100 : decode cX8_isEnough 100 = .ok (.iload 4, 2) := by decide +kernel
theorem dX8_isEnough_102 : decode cX8_isEnough 102 = .ok (.bipush 60, 2) := by decide +kernel
theorem dX8_isEnough_104 : decode cX8_isEnough 104 = .ok (.if_icmp .ge 29, 3) := by decide +kernel
theorem dX8_isEnough_107 : decode cX8_isEnough 107 = .ok (.iload_n 3, 1) := by decide +kernel
theorem dX8_isEnough_108 : decode cX8_isEnough 108 = .ok (.ifCond .eq 17, 3) := by decide +kernel
theorem dX8_isEnough_111 : decode cX8_isEnough 111 = .ok (.aload_n 0, 1) := by decide +kernel
theorem dX8_isEnough_112 : decode cX8_isEnough 112 = .ok (.getfield 87, 3) := by decide +kernel
theorem dX8_isEnough_115 : decode cX8_isEnough 115 = .ok (.iload 4, 2) := by decide +kernel
theorem dX8_isEnough_117 : decode cX8_isEnough 117 = .ok (.baload, 1) := by decide +kernel
theorem dX8_isEnough_118 : decode cX8_isEnough 118 = .ok (.ifCond .eq 7, 3) := by decide +kernel
theorem dX8_isEnough_121 : decode cX8_isEnough 121 = .ok (.iconst 1, 1) := by decide +kernel
theorem dX8_isEnough_122 : decode cX8_isEnough 122 = .ok (.goto 4, 3) := by decide +kernel
theorem dX8_isEnough_125 : decode cX8_isEnough 125 = .ok (.iconst 0, 1) := by decide +kernel
theorem dX8_isEnough_126 : decode cX8_isEnough 126 = .ok (.istore_n 3, 1) := by decide +kernel
theorem dX8_isEnough_127 : decode cX8_isEnough 127 = .ok (.iinc 4 1, 3) := by decide +kernel
theorem dX8_isEnough_130 : decode cX8_isEnough 130 = .ok (.goto (-30), 3) := by decide +kernel
theorem dX8_isEnough_133 : decode cX8_isEnough 133 = .ok (.iload_n 3, 1) := by decide +kernel
theorem dX8_isEnough_134 : decode cX8_isEnough 134 = .ok (.ireturn, 1) := by decide +kernel
theorem dX8_few_0 : decode cX8_few 0 = .ok (.aload_n 0, 1) := by decide +kernel
theorem dX8_few_1 : decode cX8_few 1 = .ok (.iload_n 1, 1) := by decide +kernel
theorem dX8_few_2 : decode cX8_few 2 = .ok (.invokevirtual 189, 3) := by decide +kernel
theorem dX8_few_5 : decode cX8_few 5 = .ok (.ifCond .ne 5, 3) := by decide +kernel
theorem dX8_few_8 : decode cX8_few 8 = .ok (.iconst (-1), 1) := by decide +kernel
theorem dX8_few_9 : decode cX8_few 9 = .ok (.ireturn, 1) := by decide +kernel
theorem dX8_few_10 : decode cX8_few 10 = .ok (.aload_n 0, 1) := by decide +kernel
theorem dX8_few_11 : decode cX8_few 11 = .ok (.aload_n 0, 1) := by decide +kernel
theorem dX8_few_12 : decode cX8_few 12 = .ok (.getfield 58, 3) := by decide +kernel
theorem dX8_few_15 : decode cX8_few 15 = .ok (.bipush 8, 2) := by decide +kernel
theorem dX8_few_17 : decode cX8_few 17 = .ok (.iaload, 1) := by decide +kernel
theorem dX8_few_18 : decode cX8_few 18 = .ok (.invokevirtual 221, 3) := by decide +kernel
theorem dX8_few_21 : decode cX8_few 21 = .ok (.ifCond .ne 6, 3) := by decide +kernel
theorem dX8_few_24 : decode cX8_few 24 = .ok (.bipush (-4), 2) := by decide +kernel
theorem dX8_few_26 : decode cX8_few 26 = .ok (.ireturn, 1) := by decide +kernel
theorem dX8_few_27 : decode cX8_few 27 = .ok (.aload_n 0, 1) := by decide +kernel
theorem dX8_few_28 : decode cX8_few 28 = .ok (.iload_n 1, 1) := by decide +kernel
theorem dX8_few_29 : decode cX8_few 29 = .ok (.bipush (-4), 2) := by decide +kernel
theorem dX8_few_31 : decode cX8_few 31 = .ok (.bipush (-4), 2) := by decide +kernel
theorem dX8_few_33 : decode cX8_few 33 = .ok (.invokevirtual 249, 3) := by decide +kernel
theorem dX8_few_36 : decode cX8_few 36 = .ok (.aload_n 0, 1) := by decide +kernel
theorem dX8_few_37 : decode cX8_few 37 = .ok (.iconst 0, 1) := by decide +kernel
theorem dX8_few_38 : decode cX8_few 38 = .ok (.invokevirtual 252, 3) := by decide +kernel
theorem dX8_few_41 : decode cX8_few 41 = .ok (.ifCond .eq 5, 3) := by decide +kernel
theorem dX8_few_44 : decode cX8_few 44 = .ok (.iconst 0, 1) := by decide +kernel
theorem dX8_few_45 : decode cX8_few 45 = .ok (.ireturn, 1) := by decide +kernel
theorem dX8_few_46 : decode cX8_few 46 = .ok (.aload_n 0, 1) := by decide +kernel
theorem dX8_few_47 : decode cX8_few 47 = .ok (.iload_n 1, 1) := by decide +kernel
theorem dX8_few_48 : decode cX8_few 48 = .ok (.bipush (-4), 2) := by decide +kernel
theorem dX8_few_50 : decode cX8_few 50 = .ok (.invokevirtual 255, 3) := by decide +kernel
theorem dX8_few_53 : decode cX8_few 53 = .ok (.ifCond .eq 5, 3) := by decide +kernel
theorem dX8_few_56 : decode cX8_few 56 = .ok (.iconst 1, 1) := by decide +kernel
theorem dX8_few_57 : decode cX8_few 57 = .ok (.ireturn, 1) := by decide +kernel
theorem dX8_few_58 : decode cX8_few 58 = .ok (.iconst 0, 1) := by decide +kernel
theorem dX8_few_59 : decode cX8_few 59 = .ok (.istore_n 2, 1) := by decide +kernel
theorem dX8_few_60 : decode cX8_few 60 = .ok (.iload_n 2, 1) := by decide +kernel
theorem dX8_few_61 : decode cX8_few 61 = .ok (.iconst 4, 1) := by decide +kernel
theorem dX8_few_62 : decode cX8_few 62 = .ok (.aload_n 0, 1) := by decide +kernel
theorem dX8_few_63 : decode cX8_few 63 = .ok (.getfield 28, 3) := by decide +kernel
theorem dX8_few_66 : decode cX8_few 66 = .ok (.iconst 0, 1) := by decide +kernel
theorem dX8_few_67 : decode cX8_few 67 = .ok (.iaload, 1) := by decide +kernel
theorem dX8_few_68 : decode cX8_few 68 = .ok (.imul, 1) := by decide +kernel
theorem dX8_few_69 : decode cX8_few 69 = .ok (.if_icmp .ge 20, 3) := by decide +kernel
theorem dX8_few_72 : decode cX8_few 72 = .ok (.aload_n 0, 1) := by decide +kernel
theorem dX8_few_73 : decode cX8_few 73 = .ok (.iload_n 1, 1) := by decide +kernel
theorem dX8_few_74 : decode cX8_few 74 = .ok (.iload_n 2, 1) := by decide +kernel
theorem dX8_few_75 : decode cX8_few 75 = .ok (.invokevirtual 255, 3) := by decide +kernel
theorem dX8_few_78 : decode cX8_few 78 = .ok (.ifCond .eq 5, 3) := by decide +kernel
theorem dX8_few_81 : decode cX8_few 81 = .ok (.iconst 2, 1) := by decide +kernel
theorem dX8_few_82 : decode cX8_few 82 = .ok (.ireturn, 1) := by decide +kernel
theorem dX8_few_83 : decode cX8_few 83 = .ok (.iinc 2 1, 3) := by decide +kernel
theorem dX8_few_86 : decode cX8_few 86 = .ok (.goto (-26), 3) := by decide +kernel
theorem dX8_few_89 : decode cX8_few 89 = .ok (.bipush (-4), 2) := by decide +kernel
theorem dX8_few_91 : decode cX8_few 91 = .ok (.ireturn, 1) := by decide +kernel
theorem dX8_solve_0 : decode cX8_solve 0 = .ok (.aload_n 0, 1) := by decide +kernel
theorem dX8_solve_1 : decode cX8_solve 1 = .ok (.iconst 0, 1) := by decide +kernel
theorem dX8_solve_2 : decode cX8_solve 2 = .ok (.putfield 258, 3) := by decide +kernel
theorem dX8_solve_5 : decode cX8_solve 5 = .ok (.iconst 0, 1) := by decide +kernel
theorem dX8_solve_6 : decode cX8_solve 6 = .ok (.istore_n 2, 1) := by decide +kernel
theorem dX8_solve_7 : decode cX8_solve 7 = .ok (.iload_n 2, 1) := by decide +kernel
theorem dX8_solve_8 : decode cX8_solve 8 = .ok (.bipush 20, 2) := by decide +kernel
theorem dX8_solve_10 : decode cX8_solve 10 = .ok (.if_icmp .gt 224, 3) := by decide +kernel
theorem dX8_solve_13 : decode cX8_solve 13 = .ok (.iconst 0, 1) := by decide +kernel
theorem dX8_solve_14 : decode cX8_solve 14 = .ok (.istore_n 3, 1) := by decide +kernel
theorem dX8_solve_15 : decode cX8_solve 15 = .ok (.iconst 0, 1) := by decide +kernel
theorem dX8_solve_16 : decode cX8_solve 16 = .ok (.istore 4, 2) := by decide +kernel
theorem dX8_solve_18 : decode cX8_solve 18 = .ok (.iconst 0, 1) := by decide +kernel
theorem dX8_solve_19 : decode cX8_solve 19 = .ok (.istore 5, 2) := by decide +kernel
theorem dX8_solve_21 : decode cX8_solve 21 = .ok (.iload 5, 2) := by decide +kernel
theorem dX8_solve_23 : decode cX8_solve 23 = .ok (.aload_n 0, 1) := by decide +kernel
theorem dX8_solve_24 : decode cX8_solve 24 = .ok (.getfield 172, 3) := by decide +kernel
theorem dX8_solve_27 : decode cX8_solve 27 = .ok (.if_icmp .ge 60, 3) := by decide +kernel
theorem dX8_solve_30 : decode cX8_solve 30 = .ok (.iload_n 3, 1) := by decide +kernel
theorem dX8_solve_31 : decode cX8_solve 31 = .ok (.aload_n 0, 1) := by decide +kernel
theorem dX8_solve_32 : decode cX8_solve 32 = .ok (.getfield 73, 3) := by decide +kernel
theorem dX8_solve_35 : decode cX8_solve 35 = .ok (.iload 5, 2) := by decide +kernel
theorem dX8_solve_37 : decode cX8_solve 37 = .ok (.baload, 1) := by decide +kernel
theorem dX8_solve_38 : decode cX8_solve 38 = .ok (.ifCond .eq 7, 3) := by decide +kernel
theorem dX8_solve_41 : decode cX8_solve 41 = .ok (.iconst 1, 1) := by decide +kernel
theorem dX8_solve_42 : decode cX8_solve 42 = .ok (.goto 4, 3) := by decide +kernel
theorem dX8_solve_45 : decode cX8_solve 45 = .ok (.iconst 0, 1) := by decide +kernel
theorem dX8_solve_46 : decode cX8_solve 46 = .ok (.iadd, 1) := by decide +kernel
theorem dX8_solve_47 : decode cX8_solve 47 = .ok (.istore_n 3, 1) := by decide +kernel
theorem dX8_solve_48 : decode cX8_solve 48 = .ok (.iload 4, 2) := by decide +kernel
theorem dX8_solve_50 : decode cX8_solve 50 = .ok (.ifCond .ne 24, 3) := by decide +kernel
theorem dX8_solve_53 : decode cX8_solve 53 = .ok (.aload_n 0, 1) := by decide +kernel
theorem dX8_solve_54 : decode cX8_solve 54 = .ok (.getfield 73, 3) := by decide +kernel
theorem dX8_solve_57 : decode cX8_solve 57 = .ok (.iload 5, 2) := by decide +kernel
theorem dX8_solve_59 : decode cX8_solve 59 = .ok (.baload, 1) := by decide +kernel
theorem dX8_solve_60 : decode cX8_solve 60 = .ok (.ifCond .eq 18, 3) := by decide +kernel
theorem dX8_solve_63 : decode cX8_solve 63 = .ok (.aload_n 0, 1) := by decide +kernel
theorem dX8_solve_64 : decode cX8_solve 64 = .ok (.getfield 55, 3) := by decide +kernel
theorem dX8_solve_67 : decode cX8_solve 67 = .ok (.iload 5, 2) := by decide +kernel
theorem dX8_solve_69 : decode cX8_solve 69 = .ok (.iaload, 1) := by decide +kernel
theorem dX8_solve_70 : decode cX8_solve 70 = .ok (.iload_n 1, 1) := by decide +kernel
theorem dX8_solve_71 : decode cX8_solve 71 = .ok (.if_icmp .ne 7, 3) := by decide +kernel
theorem dX8_solve_74 : decode cX8_solve 74 = .ok (.iconst 1, 1) := by decide +kernel
theorem dX8_solve_75 : decode cX8_solve 75 = .ok (.goto 4, 3) := by decide +kernel
theorem dX8_solve_78 : decode cX8_solve 78 = .ok (.iconst 0, 1) := by decide +kernel
theorem dX8_solve_79 : decode cX8_solve 79 = .ok (.istore 4, 2) := by decide +kernel
theorem dX8_solve_81 : decode cX8_solve 81 = .ok (.iinc 5 1, 3) := by decide +kernel
theorem dX8_solve_84 : decode cX8_solve 84 = .ok (.goto (-63), 3) := by decide +kernel
theorem dX8_solve_87 : decode cX8_solve 87 = .ok (.iload 4, 2) := by decide +kernel
theorem dX8_solve_89 : decode cX8_solve 89 = .ok (.ifCond .eq 8, 3) := by decide +kernel
theorem dX8_solve_92 : decode cX8_solve 92 = .ok (.iload_n 3, 1) := by decide +kernel
theorem dX8_solve_93 : decode cX8_solve 93 = .ok (.iconst 1, 1) := by decide +kernel
theorem dX8_solve_94 : decode cX8_solve 94 = .ok (.if_icmp .ne 15, 3) := by decide +kernel
theorem dX8_solve_97 : decode cX8_solve 97 = .ok (.iload 4, 2) := by decide +kernel
theorem dX8_solve_99 : decode cX8_solve 99 = .ok (.ifCond .eq 7, 3) := by decide +kernel
theorem dX8_solve_102 : decode cX8_solve 102 = .ok (.iload_n 2, 1) := by decide +kernel
theorem dX8_solve_103 : decode cX8_solve 103 = .ok (.goto 5, 3) := by decide +kernel
theorem dX8_solve_106 : decode cX8_solve 106 = .ok (.bipush (-4), 2) := by decide +kernel
theorem dX8_solve_108 : decode cX8_solve 108 = .ok (.ireturn, 1) := by decide +kernel
theorem dX8_solve_109 : decode cX8_solve 109 = .ok (.aload_n 0, 1) := by decide +kernel
theorem dX8_solve_110 : decode cX8_solve 110 = .ok (.invokevirtual 242, 3) := by decide +kernel
theorem dX8_solve_113 : decode cX8_solve 113 = .ok (.istore 5, 2) := by decide +kernel
theorem dX8_solve_115 : decode cX8_solve 115 = .ok (.aload_n 0, 1) := by decide +kernel
theorem dX8_solve_116 : decode cX8_solve 116 = .ok (.iload 5, 2) := by decide +kernel
theorem dX8_solve_118 : decode cX8_solve 118 = .ok (.iconst 4, 1) := by decide +kernel
theorem dX8_solve_119 : decode cX8_solve 119 = .ok (.idiv, 1) := by decide +kernel
theorem dX8_solve_120 : decode cX8_solve 120 = .ok (.iload 5, 2) := by decide +kernel
theorem dX8_solve_122 : decode cX8_solve 122 = .ok (.iconst 4, 1) := by decide +kernel
theorem dX8_solve_123 : decode cX8_solve 123 = .ok (.irem, 1) := by decide +kernel
theorem dX8_solve_124 : decode cX8_solve 124 = .ok (.iload_n 1, 1) := by decide +kernel
theorem dX8_solve_125 : decode cX8_solve 125 = .ok (.iload 5, 2) := by decide +kernel
theorem dX8_solve_127 : decode cX8_solve 127 = .ok (.iconst 4, 1) := by decide +kernel
theorem dX8_solve_128 : decode cX8_solve 128 = .ok (.idiv, 1) := by decide +kernel
theorem dX8_solve_129 : decode cX8_solve 129 = .ok (.invokestatic 192, 3) := by decide +kernel
theorem dX8_solve_132 : decode cX8_solve 132 = .ok (.iconst 0, 1) := by decide +kernel
theorem dX8_solve_133 : decode cX8_solve 133 = .ok (.invokevirtual 203, 3) := by decide +kernel
theorem dX8_solve_136 : decode cX8_solve 136 = .ok (.istore 6, 2) := by decide +kernel
theorem dX8_solve_138 : decode cX8_solve 138 = .ok (.aload_n 0, 1) := by decide +kernel
theorem dX8_solve_139 : decode cX8_solve 139 = .ok (.dup, 1) := by decide +kernel
theorem dX8_solve_140 : decode cX8_solve 140 = .ok (.getfield 258, 3) := by decide +kernel
theorem dX8_solve_143 : decode cX8_solve 143 = .ok (.aload_n 0, 1) := by decide +kernel
theorem dX8_solve_144 : decode cX8_solve 144 = .ok (.getfield 49, 3) := by decide +kernel
theorem dX8_solve_147 : decode cX8_solve 147 = .ok (.iload 5, 2) := by decide +kernel
theorem dX8_solve_149 : decode cX8_solve 149 = .ok (.iconst 4, 1) := by decide +kernel
theorem dX8_solve_150 : decode cX8_solve 150 = .ok (.irem, 1) := by decide +kernel
theorem dX8_solve_151 : decode cX8_solve 151 = .ok (.iaload, 1) := by decide +kernel
theorem dX8_solve_152 : decode cX8_solve 152 = .ok (.iadd, 1) := by decide +kernel
theorem dX8_solve_153 : decode cX8_solve 153 = .ok (.putfield 258, 3) := by decide +kernel
theorem dX8_solve_156 : decode cX8_solve 156 = .ok (.iconst 0, 1) := by decide +kernel
theorem dX8_solve_157 : decode cX8_solve 157 = .ok (.istore 7, 2) := by decide +kernel
theorem dX8_solve_159 : decode cX8_solve 159 = .ok (.iload 7, 2) := by decide +kernel
theorem dX8_solve_161 : decode cX8_solve 161 = .ok (.aload_n 0, 1) := by decide +kernel
theorem dX8_solve_162 : decode cX8_solve 162 = .ok (.getfield 172, 3) := by decide +kernel
theorem dX8_solve_165 : decode cX8_solve 165 = .ok (.if_icmp .ge 63, 3) := by decide +kernel
theorem dX8_solve_168 : decode cX8_solve 168 = .ok (.aload_n 0, 1) := by decide +kernel
theorem dX8_solve_169 : decode cX8_solve 169 = .ok (.getfield 73, 3) := by decide +kernel
theorem dX8_solve_172 : decode cX8_solve 172 = .ok (.iload 7, 2) := by decide +kernel
theorem dX8_solve_174 : decode cX8_solve 174 = .ok (.aload_n 0, 1) := by decide +kernel
theorem dX8_solve_175 : decode cX8_solve 175 = .ok (.getfield 73, 3) := by decide +kernel
theorem dX8_solve_178 : decode cX8_solve 178 = .ok (.iload 7, 2) := by decide +kernel
theorem dX8_solve_180 : decode cX8_solve 180 = .ok (.baload, 1) := by decide +kernel
theorem dX8_solve_181 : decode cX8_solve 181 = .ok (.ifCond .eq 39, 3) := by decide +kernel
theorem dX8_solve_184 : decode cX8_solve 184 = .ok (.aload_n 0, 1) := by decide +kernel
theorem dX8_solve_185 : decode cX8_solve 185 = .ok (.iload 5, 2) := by decide +kernel
theorem dX8_solve_187 : decode cX8_solve 187 = .ok (.iconst 4, 1) := by decide +kernel
theorem dX8_solve_188 : decode cX8_solve 188 = .ok (.idiv, 1) := by decide +kernel
theorem dX8_solve_189 : decode cX8_solve 189 = .ok (.iload 5, 2) := by decide +kernel
theorem dX8_solve_191 : decode cX8_solve 191 = .ok (.iconst 4, 1) := by decide +kernel
theorem dX8_solve_192 : decode cX8_solve 192 = .ok (.irem, 1) := by decide +kernel
theorem dX8_solve_193 : decode cX8_solve 193 = .ok (.aload_n 0, 1) := by decide +kernel
theorem dX8_solve_194 : decode cX8_solve 194 = .ok (.getfield 55, 3) := by decide +kernel
theorem dX8_solve_197 : decode cX8_solve 197 = .ok (.iload 7, 2) := by decide +kernel
theorem dX8_solve_199 : decode cX8_solve 199 = .ok (.iaload, 1) := by decide +kernel
theorem dX8_solve_200 : decode cX8_solve 200 = .ok (.iload 5, 2) := by decide +kernel
theorem dX8_solve_202 : decode cX8_solve 202 = .ok (.iconst 4, 1) := by decide +kernel
theorem dX8_solve_203 : decode cX8_solve 203 = .ok (.idiv, 1) := by decide +kernel
theorem dX8_solve_204 : decode cX8_solve 204 = .ok (.invokestatic 192, 3) := by decide +kernel
theorem dX8_solve_207 : decode cX8_solve 207 = .ok (.iconst 0, 1) := by decide +kernel
theorem dX8_solve_208 : decode cX8_solve 208 = .ok (.invokevirtual 203, 3) := by decide +kernel
theorem dX8_solve_211 : decode cX8_solve 211 = .ok (.iload 6, 2) := by decide +kernel
theorem dX8_solve_213 : decode cX8_solve 213 = .ok (.if_icmp .ne 7, 3) := by decide +kernel
theorem dX8_solve_216 : decode cX8_solve 216 = .ok (.iconst 1, 1) := by decide +kernel
theorem dX8_solve_217 : decode cX8_solve 217 = .ok (.goto 4, 3) := by decide +kernel
theorem dX8_solve_220 : decode cX8_solve 220 = .ok (.iconst 0, 1) := by decide +kernel
theorem dX8_solve_221 : decode cX8_solve 221 = .ok (.bastore, 1) := by decide +kernel
theorem dX8_solve_222 : decode cX8_solve 222 = .ok (.iinc 7 1, 3) := by decide +kernel
theorem dX8_solve_225 : decode cX8_solve 225 = .ok (.goto (-66), 3) := by decide +kernel
theorem dX8_solve_228 : decode cX8_solve 228 = .ok (.iinc 2 1, 3) := by decide +kernel
theorem dX8_solve_231 : decode cX8_solve 231 = .ok (.goto (-224), 3) := by decide +kernel
theorem dX8_solve_234 : decode cX8_solve 234 = .ok (.bipush (-4), 2) := by decide +kernel
theorem dX8_solve_236 : decode cX8_solve 236 = .ok (.ireturn, 1) := by decide +kernel
theorem dX8_solved_0 : decode cX8_solved 0 = .ok (.iload_n 1, 1) := by decide +kernel
theorem dX8_solved_1 : decode cX8_solved 1 = .ok (.i2l, 1) := by decide +kernel
theorem dX8_solved_2 : decode cX8_solved 2 = .ok (.lconst 0, 1) := by decide +kernel
theorem dX8_solved_3 : decode cX8_solved 3 = .ok (.lconst 1, 1) := by decide +kernel
theorem dX8_solved_4 : decode cX8_solved 4 = .ok (.invokestatic 109, 3) := by decide +kernel
theorem dX8_solved_7 : decode cX8_solved 7 = .ok (.ifCond .ne 5, 3) := by decide +kernel
theorem dX8_solved_10 : decode cX8_solved 10 = .ok (.iconst (-1), 1) := by decide +kernel
theorem dX8_solved_11 : decode cX8_solved 11 = .ok (.ireturn, 1) := by decide +kernel
theorem dX8_solved_12 : decode cX8_solved 12 = .ok (.aload_n 0, 1) := by decide +kernel
theorem dX8_solved_13 : decode cX8_solved 13 = .ok (.aload_n 0, 1) := by decide +kernel
theorem dX8_solved_14 : decode cX8_solved 14 = .ok (.getfield 58, 3) := by decide +kernel
theorem dX8_solved_17 : decode cX8_solved 17 = .ok (.bipush 8, 2) := by decide +kernel
theorem dX8_solved_19 : decode cX8_solved 19 = .ok (.iaload, 1) := by decide +kernel
theorem dX8_solved_20 : decode cX8_solved 20 = .ok (.invokevirtual 221, 3) := by decide +kernel
theorem dX8_solved_23 : decode cX8_solved 23 = .ok (.pop, 1) := by decide +kernel
theorem dX8_solved_24 : decode cX8_solved 24 = .ok (.aload_n 0, 1) := by decide +kernel
theorem dX8_solved_25 : decode cX8_solved 25 = .ok (.aload_n 0, 1) := by decide +kernel
theorem dX8_solved_26 : decode cX8_solved 26 = .ok (.invokevirtual 215, 3) := by decide +kernel
theorem dX8_solved_29 : decode cX8_solved 29 = .ok (.invokevirtual 261, 3) := by decide +kernel
theorem dX8_solved_32 : decode cX8_solved 32 = .ok (.istore_n 2, 1) := by decide +kernel
theorem dX8_solved_33 : decode cX8_solved 33 = .ok (.iload_n 2, 1) := by decide +kernel
theorem dX8_solved_34 : decode cX8_solved 34 = .ok (.ifCond .lt 7, 3) := by decide +kernel
theorem dX8_solved_37 : decode cX8_solved 37 = .ok (.iload_n 1, 1) := by decide +kernel
theorem dX8_solved_38 : decode cX8_solved 38 = .ok (.ifCond .ne 7, 3) := by decide +kernel
theorem dX8_solved_41 : decode cX8_solved 41 = .ok (.iload_n 2, 1) := by decide +kernel
theorem dX8_solved_42 : decode cX8_solved 42 = .ok (.goto 7, 3) := by decide +kernel
theorem dX8_solved_45 : decode cX8_solved 45 = .ok (.aload_n 0, 1) := by decide +kernel
theorem dX8_solved_46 : decode cX8_solved 46 = .ok (.getfield 258, 3) := by decide +kernel
theorem dX8_solved_49 : decode cX8_solved 49 = .ok (.ireturn, 1) := by decide +kernel
theorem dX8_risk_0 : decode cX8_risk 0 = .ok (.iload_n 1, 1) := by decide +kernel
theorem dX8_risk_1 : decode cX8_risk 1 = .ok (.i2l, 1) := by decide +kernel
theorem dX8_risk_2 : decode cX8_risk 2 = .ok (.lconst 0, 1) := by decide +kernel
theorem dX8_risk_3 : decode cX8_risk 3 = .ok (.lconst 1, 1) := by decide +kernel
theorem dX8_risk_4 : decode cX8_risk 4 = .ok (.invokestatic 109, 3) := by decide +kernel
theorem dX8_risk_7 : decode cX8_risk 7 = .ok (.ifCond .ne 7, 3) := by decide +kernel
theorem dX8_risk_10 : decode cX8_risk 10 = .ok (.ldc2_w 224, 3) := by decide +kernel
theorem dX8_risk_13 : decode cX8_risk 13 = .ok (.lreturn, 1) := by decide +kernel
theorem dX8_risk_14 : decode cX8_risk 14 = .ok (.lconst 1, 1) := by decide +kernel
theorem dX8_risk_15 : decode cX8_risk 15 = .ok (.lstore_n 2, 1) := by decide +kernel
theorem dX8_risk_16 : decode cX8_risk 16 = .ok (.lconst 1, 1) := by decide +kernel
theorem dX8_risk_17 : decode cX8_risk 17 = .ok (.lstore 4, 2) := by decide +kernel
theorem dX8_risk_19 : decode cX8_risk 19 = .ok (.iconst 0, 1) := by decide +kernel
theorem dX8_risk_20 : decode cX8_risk 20 = .ok (.istore 6, 2) := by decide +kernel
theorem dX8_risk_22 : decode cX8_risk 22 = .ok (.iload 6, 2) := by decide +kernel
theorem dX8_risk_24 : decode cX8_risk 24 = .ok (.aload_n 0, 1) := by decide +kernel
theorem dX8_risk_25 : decode cX8_risk 25 = .ok (.getfield 58, 3) := by decide +kernel
theorem dX8_risk_28 : decode cX8_risk 28 = .ok (.bipush 8, 2) := by decide +kernel
theorem dX8_risk_30 : decode cX8_risk 30 = .ok (.iaload, 1) := by decide +kernel
theorem dX8_risk_31 : decode cX8_risk 31 = .ok (.if_icmp .ge 41, 3) := by decide +kernel
theorem dX8_risk_34 : decode cX8_risk 34 = .ok (.lload_n 2, 1) := by decide +kernel
theorem dX8_risk_35 : decode cX8_risk 35 = .ok (.bipush 10, 2) := by decide +kernel
theorem dX8_risk_37 : decode cX8_risk 37 = .ok (.aload_n 0, 1) := by decide +kernel
theorem dX8_risk_38 : decode cX8_risk 38 = .ok (.getfield 46, 3) := by decide +kernel
theorem dX8_risk_41 : decode cX8_risk 41 = .ok (.aload_n 0, 1) := by decide +kernel
theorem dX8_risk_42 : decode cX8_risk 42 = .ok (.getfield 58, 3) := by decide +kernel
theorem dX8_risk_45 : decode cX8_risk 45 = .ok (.bipush 9, 2) := by decide +kernel
theorem dX8_risk_47 : decode cX8_risk 47 = .ok (.iload 6, 2) := by decide +kernel
theorem dX8_risk_49 : decode cX8_risk 49 = .ok (.iadd, 1) := by decide +kernel
theorem dX8_risk_50 : decode cX8_risk 50 = .ok (.iaload, 1) := by decide +kernel
theorem dX8_risk_51 : decode cX8_risk 51 = .ok (.iconst 4, 1) := by decide +kernel
theorem dX8_risk_52 : decode cX8_risk 52 = .ok (.irem, 1) := by decide +kernel
theorem dX8_risk_53 : decode cX8_risk 53 = .ok (.iaload, 1) := by decide +kernel
theorem dX8_risk_54 : decode cX8_risk 54 = .ok (.isub, 1) := by decide +kernel
theorem dX8_risk_55 : decode cX8_risk 55 = .ok (.i2l, 1) := by decide +kernel
theorem dX8_risk_56 : decode cX8_risk 56 = .ok (.lmul, 1) := by decide +kernel
theorem dX8_risk_57 : decode cX8_risk 57 = .ok (.lstore_n 2, 1) := by decide +kernel
theorem dX8_risk_58 : decode cX8_risk 58 = .ok (.lload 4, 2) := by decide +kernel
theorem dX8_risk_60 : decode cX8_risk 60 = .ok (.ldc2_w 264, 3) := by decide +kernel
theorem dX8_risk_63 : decode cX8_risk 63 = .ok (.lmul, 1) := by decide +kernel
theorem dX8_risk_64 : decode cX8_risk 64 = .ok (.lstore 4, 2) := by decide +kernel
theorem dX8_risk_66 : decode cX8_risk 66 = .ok (.iinc 6 1, 3) := by decide +kernel
theorem dX8_risk_69 : decode cX8_risk 69 = .ok (.goto (-47), 3) := by decide +kernel
theorem dX8_risk_72 : decode cX8_risk 72 = .ok (.lload 4, 2) := by decide +kernel
