theorem dX8_write_46 : decode cX8_write 46 = .ok (.putfield 113, 3) := by decide +kernel
theorem dX8_write_49 : decode cX8_write 49 = .ok (.aload_n 0, 1) := by decide +kernel
theorem dX8_write_50 : decode cX8_write 50 = .ok (.getfield 113, 3) := by decide +kernel
theorem dX8_write_53 : decode cX8_write 53 = .ok (.ireturn, 1) := by decide +kernel
theorem dX8_wipe_0 : decode cX8_wipe 0 = .ok (.aload_n 0, 1) := by decide +kernel
theorem dX8_wipe_1 : decode cX8_wipe 1 = .ok (.getfield 113, 3) := by decide +kernel
theorem dX8_wipe_4 : decode cX8_wipe 4 = .ok (.istore_n 1, 1) := by decide +kernel
theorem dX8_wipe_5 : decode cX8_wipe 5 = .ok (.aload_n 0, 1) := by decide +kernel
theorem dX8_wipe_6 : decode cX8_wipe 6 = .ok (.iconst 0, 1) := by decide +kernel
theorem dX8_wipe_7 : decode cX8_wipe 7 = .ok (.putfield 113, 3) := by decide +kernel
theorem dX8_wipe_10 : decode cX8_wipe 10 = .ok (.iload_n 1, 1) := by decide +kernel
theorem dX8_wipe_11 : decode cX8_wipe 11 = .ok (.ireturn, 1) := by decide +kernel
theorem dX8_letterAt_0 : decode cX8_letterAt 0 = .ok (.iload_n 1, 1) := by decide +kernel
theorem dX8_letterAt_1 : decode cX8_letterAt 1 = .ok (.aload_n 0, 1) := by decide +kernel
theorem dX8_letterAt_2 : decode cX8_letterAt 2 = .ok (.getfield 113, 3) := by decide +kernel
theorem dX8_letterAt_5 : decode cX8_letterAt 5 = .ok (.if_icmp .ge 12, 3) := by decide +kernel
theorem dX8_letterAt_8 : decode cX8_letterAt 8 = .ok (.aload_n 0, 1) := by decide +kernel
theorem dX8_letterAt_9 : decode cX8_letterAt 9 = .ok (.getfield 7, 3) := by decide +kernel
theorem dX8_letterAt_12 : decode cX8_letterAt 12 = .ok (.iload_n 1, 1) := by decide +kernel
theorem dX8_letterAt_13 : decode cX8_letterAt 13 = .ok (.iaload, 1) := by decide +kernel
theorem dX8_letterAt_14 : decode cX8_letterAt 14 = .ok (.goto 4, 3) := by decide +kernel
theorem dX8_letterAt_17 : decode cX8_letterAt 17 = .ok (.iconst 0, 1) := by decide +kernel
theorem dX8_letterAt_18 : decode cX8_letterAt 18 = .ok (.ireturn, 1) := by decide +kernel
theorem dX8_figures_0 : decode cX8_figures 0 = .ok (.iconst 0, 1) := by decide +kernel
theorem dX8_figures_1 : decode cX8_figures 1 = .ok (.istore_n 2, 1) := by decide +kernel
theorem dX8_figures_2 : decode cX8_figures 2 = .ok (.iload_n 2, 1) := by decide +kernel
theorem dX8_figures_3 : decode cX8_figures 3 = .ok (.iload_n 1, 1) := by decide +kernel
theorem dX8_figures_4 : decode cX8_figures 4 = .ok (.if_icmp .ge 132, 3) := by decide +kernel
theorem dX8_figures_7 : decode cX8_figures 7 = .ok (.iconst 0, 1) := by decide +kernel
theorem dX8_figures_8 : decode cX8_figures 8 = .ok (.istore_n 3, 1) := by decide +kernel
theorem dX8_figures_9 : decode cX8_figures 9 = .ok (.iconst 0, 1) := by decide +kernel
theorem dX8_figures_10 : decode cX8_figures 10 = .ok (.istore 4, 2) := by decide +kernel
theorem dX8_figures_12 : decode cX8_figures 12 = .ok (.aload_n 0, 1) := by decide +kernel
theorem dX8_figures_13 : decode cX8_figures 13 = .ok (.aload_n 0, 1) := by decide +kernel
theorem dX8_figures_14 : decode cX8_figures 14 = .ok (.getfield 117, 3) := by decide +kernel
theorem dX8_figures_17 : decode cX8_figures 17 = .ok (.invokevirtual 120, 3) := by decide +kernel
theorem dX8_figures_20 : decode cX8_figures 20 = .ok (.i2l, 1) := by decide +kernel
theorem dX8_figures_21 : decode cX8_figures 21 = .ok (.ldc2_w 124, 3) := by decide +kernel
theorem dX8_figures_24 : decode cX8_figures 24 = .ok (.ldc2_w 126, 3) := by decide +kernel
theorem dX8_figures_27 : decode cX8_figures 27 = .ok (.invokestatic 109, 3) := by decide +kernel
theorem dX8_figures_30 : decode cX8_figures 30 = .ok (.ifCond .eq 43, 3) := by decide +kernel
theorem dX8_figures_33 : decode cX8_figures 33 = .ok (.iload_n 3, 1) := by decide +kernel
theorem dX8_figures_34 : decode cX8_figures 34 = .ok (.iconst 3, 1) := by decide +kernel
theorem dX8_figures_35 : decode cX8_figures 35 = .ok (.if_icmp .ge 38, 3) := by decide +kernel
theorem dX8_figures_38 : decode cX8_figures 38 = .ok (.bipush 10, 2) := by decide +kernel
theorem dX8_figures_40 : decode cX8_figures 40 = .ok (.iload 4, 2) := by decide +kernel
theorem dX8_figures_42 : decode cX8_figures 42 = .ok (.imul, 1) := by decide +kernel
theorem dX8_figures_43 : decode cX8_figures 43 = .ok (.aload_n 0, 1) := by decide +kernel
theorem dX8_figures_44 : decode cX8_figures 44 = .ok (.aload_n 0, 1) := by decide +kernel
theorem dX8_figures_45 : decode cX8_figures 45 = .ok (.getfield 117, 3) := by decide +kernel
theorem dX8_figures_48 : decode cX8_figures 48 = .ok (.invokevirtual 120, 3) := by decide +kernel
theorem dX8_figures_51 : decode cX8_figures 51 = .ok (.iadd, 1) := by decide +kernel
theorem dX8_figures_52 : decode cX8_figures 52 = .ok (.bipush 48, 2) := by decide +kernel
theorem dX8_figures_54 : decode cX8_figures 54 = .ok (.isub, 1) := by decide +kernel
theorem dX8_figures_55 : decode cX8_figures 55 = .ok (.istore 4, 2) := by decide +kernel
theorem dX8_figures_57 : decode cX8_figures 57 = .ok (.iinc 3 1, 3) := by decide +kernel
theorem dX8_figures_60 : decode cX8_figures 60 = .ok (.aload_n 0, 1) := by decide +kernel
theorem dX8_figures_61 : decode cX8_figures 61 = .ok (.dup, 1) := by decide +kernel
theorem dX8_figures_62 : decode cX8_figures 62 = .ok (.getfield 117, 3) := by decide +kernel
theorem dX8_figures_65 : decode cX8_figures 65 = .ok (.iconst 1, 1) := by decide +kernel
theorem dX8_figures_66 : decode cX8_figures 66 = .ok (.iadd, 1) := by decide +kernel
theorem dX8_figures_67 : decode cX8_figures 67 = .ok (.putfield 117, 3) := by decide +kernel
theorem dX8_figures_70 : decode cX8_figures 70 = .ok (.goto (-58), 3) := by decide +kernel
theorem dX8_figures_73 : decode cX8_figures 73 = .ok (.iload_n 3, 1) := by decide +kernel
theorem dX8_figures_74 : decode cX8_figures 74 = .ok (.i2l, 1) := by decide +kernel
theorem dX8_figures_75 : decode cX8_figures 75 = .ok (.lconst 1, 1) := by decide +kernel
theorem dX8_figures_76 : decode cX8_figures 76 = .ok (.ldc2_w 128, 3) := by decide +kernel
theorem dX8_figures_79 : decode cX8_figures 79 = .ok (.invokestatic 109, 3) := by decide +kernel
theorem dX8_figures_82 : decode cX8_figures 82 = .ok (.ifCond .eq 28, 3) := by decide +kernel
theorem dX8_figures_85 : decode cX8_figures 85 = .ok (.aload_n 0, 1) := by decide +kernel
theorem dX8_figures_86 : decode cX8_figures 86 = .ok (.aload_n 0, 1) := by decide +kernel
theorem dX8_figures_87 : decode cX8_figures 87 = .ok (.getfield 117, 3) := by decide +kernel
theorem dX8_figures_90 : decode cX8_figures 90 = .ok (.invokevirtual 120, 3) := by decide +kernel
theorem dX8_figures_93 : decode cX8_figures 93 = .ok (.iload_n 2, 1) := by decide +kernel
theorem dX8_figures_94 : decode cX8_figures 94 = .ok (.iload_n 1, 1) := by decide +kernel
theorem dX8_figures_95 : decode cX8_figures 95 = .ok (.iconst 1, 1) := by decide +kernel
theorem dX8_figures_96 : decode cX8_figures 96 = .ok (.isub, 1) := by decide +kernel
theorem dX8_figures_97 : decode cX8_figures 97 = .ok (.if_icmp .ge 8, 3) := by decide +kernel
theorem dX8_figures_100 : decode cX8_figures 100 = .ok (.bipush 44, 2) := by decide +kernel
theorem dX8_figures_102 : decode cX8_figures 102 = .ok (.goto 5, 3) := by decide +kernel
theorem dX8_figures_105 : decode cX8_figures 105 = .ok (.bipush 59, 2) := by decide +kernel
theorem dX8_figures_107 : decode cX8_figures 107 = .ok (.if_icmp .eq 5, 3) := by decide +kernel
theorem dX8_figures_110 : decode cX8_figures 110 = .ok (.iconst 0, 1) := by decide +kernel
theorem dX8_figures_111 : decode cX8_figures 111 = .ok (.ireturn, 1) := by decide +kernel
theorem dX8_figures_112 : decode cX8_figures 112 = .ok (.aload_n 0, 1) := by decide +kernel
theorem dX8_figures_113 : decode cX8_figures 113 = .ok (.getfield 67, 3) := by decide +kernel
theorem dX8_figures_116 : decode cX8_figures 116 = .ok (.iload_n 2, 1) := by decide +kernel
theorem dX8_figures_117 : decode cX8_figures 117 = .ok (.iload 4, 2) := by decide +kernel
theorem dX8_figures_119 : decode cX8_figures 119 = .ok (.iastore, 1) := by decide +kernel
theorem dX8_figures_120 : decode cX8_figures 120 = .ok (.aload_n 0, 1) := by decide +kernel
theorem dX8_figures_121 : decode cX8_figures 121 = .ok (.dup, 1) := by decide +kernel
theorem dX8_figures_122 : decode cX8_figures 122 = .ok (.getfield 117, 3) := by decide +kernel
theorem dX8_figures_125 : decode cX8_figures 125 = .ok (.iconst 1, 1) := by decide +kernel
theorem dX8_figures_126 : decode cX8_figures 126 = .ok (.iadd, 1) := by decide +kernel
theorem dX8_figures_127 : decode cX8_figures 127 = .ok (.putfield 117, 3) := by decide +kernel
theorem dX8_figures_130 : decode cX8_figures 130 = .ok (.iinc 2 1, 3) := by decide +kernel
theorem dX8_figures_133 : decode cX8_figures 133 = .ok (.goto (-131), 3) := by decide +kernel
theorem dX8_figures_136 : decode cX8_figures 136 = .ok (.iconst 1, 1) := by decide +kernel
theorem dX8_figures_137 : decode cX8_figures 137 = .ok (.ireturn, 1) := by decide +kernel
theorem dX8_isThingTold_0 : decode cX8_isThingTold 0 = .ok (.aload_n 0, 1) := by decide +kernel
theorem dX8_isThingTold_1 : decode cX8_isThingTold 1 = .ok (.getfield 13, 3) := by decide +kernel
theorem dX8_isThingTold_4 : decode cX8_isThingTold 4 = .ok (.iconst 1, 1) := by decide +kernel
theorem dX8_isThingTold_5 : decode cX8_isThingTold 5 = .ok (.iaload, 1) := by decide +kernel
theorem dX8_isThingTold_6 : decode cX8_isThingTold 6 = .ok (.bipush 8, 2) := by decide +kernel
theorem dX8_isThingTold_8 : decode cX8_isThingTold 8 = .ok (.if_icmp .ge 62, 3) := by decide +kernel
theorem dX8_isThingTold_11 : decode cX8_isThingTold 11 = .ok (.aload_n 0, 1) := by decide +kernel
theorem dX8_isThingTold_12 : decode cX8_isThingTold 12 = .ok (.getfield 67, 3) := by decide +kernel
theorem dX8_isThingTold_15 : decode cX8_isThingTold 15 = .ok (.iconst 0, 1) := by decide +kernel
theorem dX8_isThingTold_16 : decode cX8_isThingTold 16 = .ok (.iaload, 1) := by decide +kernel
theorem dX8_isThingTold_17 : decode cX8_isThingTold 17 = .ok (.i2l, 1) := by decide +kernel
theorem dX8_isThingTold_18 : decode cX8_isThingTold 18 = .ok (.lconst 1, 1) := by decide +kernel
theorem dX8_isThingTold_19 : decode cX8_isThingTold 19 = .ok (.ldc2_w 130, 3) := by decide +kernel
theorem dX8_isThingTold_22 : decode cX8_isThingTold 22 = .ok (.invokestatic 109, 3) := by decide +kernel
theorem dX8_isThingTold_25 : decode cX8_isThingTold 25 = .ok (.ifCond .eq 45, 3) := by decide +kernel
theorem dX8_isThingTold_28 : decode cX8_isThingTold 28 = .ok (.aload_n 0, 1) := by decide +kernel
theorem dX8_isThingTold_29 : decode cX8_isThingTold 29 = .ok (.getfield 67, 3) := by decide +kernel
theorem dX8_isThingTold_32 : decode cX8_isThingTold 32 = .ok (.iconst 1, 1) := by decide +kernel
theorem dX8_isThingTold_33 : decode cX8_isThingTold 33 = .ok (.iaload, 1) := by decide +kernel
theorem dX8_isThingTold_34 : decode cX8_isThingTold 34 = .ok (.iconst 4, 1) := by decide +kernel
theorem dX8_isThingTold_35 : decode cX8_isThingTold 35 = .ok (.if_icmp .ge 35, 3) := by decide +kernel
theorem dX8_isThingTold_38 : decode cX8_isThingTold 38 = .ok (.aload_n 0, 1) := by decide +kernel
theorem dX8_isThingTold_39 : decode cX8_isThingTold 39 = .ok (.getfield 67, 3) := by decide +kernel
theorem dX8_isThingTold_42 : decode cX8_isThingTold 42 = .ok (.iconst 2, 1) := by decide +kernel
theorem dX8_isThingTold_43 : decode cX8_isThingTold 43 = .ok (.iaload, 1) := by decide +kernel
theorem dX8_isThingTold_44 : decode cX8_isThingTold 44 = .ok (.bipush 10, 2) := by decide +kernel
theorem dX8_isThingTold_46 : decode cX8_isThingTold 46 = .ok (.if_icmp .ge 24, 3) := by decide +kernel
theorem dX8_isThingTold_49 : decode cX8_isThingTold 49 = .ok (.aload_n 0, 1) := by decide +kernel
theorem dX8_isThingTold_50 : decode cX8_isThingTold 50 = .ok (.getfield 67, 3) := by decide +kernel
theorem dX8_isThingTold_53 : decode cX8_isThingTold 53 = .ok (.iconst 3, 1) := by decide +kernel
theorem dX8_isThingTold_54 : decode cX8_isThingTold 54 = .ok (.iaload, 1) := by decide +kernel
theorem dX8_isThingTold_55 : decode cX8_isThingTold 55 = .ok (.i2l, 1) := by decide +kernel
theorem dX8_isThingTold_56 : decode cX8_isThingTold 56 = .ok (.lconst 1, 1) := by decide +kernel
theorem dX8_isThingTold_57 : decode cX8_isThingTold 57 = .ok (.ldc2_w 132, 3) := by decide +kernel
theorem dX8_isThingTold_60 : decode cX8_isThingTold 60 = .ok (.invokestatic 109, 3) := by decide +kernel
theorem dX8_isThingTold_63 : decode cX8_isThingTold 63 = .ok (.ifCond .eq 7, 3) := by decide +kernel
theorem dX8_isThingTold_66 : decode cX8_isThingTold 66 = .ok (.iconst 1, 1) := by decide +kernel
theorem dX8_isThingTold_67 : decode cX8_isThingTold 67 = .ok (.goto 4, 3) := by decide +kernel
theorem dX8_isThingTold_70 : decode cX8_isThingTold 70 = .ok (.iconst 0, 1) := by decide +kernel
theorem dX8_isThingTold_71 : decode cX8_isThingTold 71 = .ok (.ireturn, 1) := by decide +kernel
theorem dX8_item_0 : decode cX8_item 0 = .ok (.aload_n 0, 1) := by decide +kernel
theorem dX8_item_1 : decode cX8_item 1 = .ok (.aload_n 0, 1) := by decide +kernel
theorem dX8_item_2 : decode cX8_item 2 = .ok (.getfield 117, 3) := by decide +kernel
theorem dX8_item_5 : decode cX8_item 5 = .ok (.invokevirtual 120, 3) := by decide +kernel
theorem dX8_item_8 : decode cX8_item 8 = .ok (.istore_n 1, 1) := by decide +kernel
theorem dX8_item_9 : decode cX8_item 9 = .ok (.aload_n 0, 1) := by decide +kernel
theorem dX8_item_10 : decode cX8_item 10 = .ok (.dup, 1) := by decide +kernel
theorem dX8_item_11 : decode cX8_item 11 = .ok (.getfield 117, 3) := by decide +kernel
theorem dX8_item_14 : decode cX8_item 14 = .ok (.iconst 1, 1) := by decide +kernel
theorem dX8_item_15 : decode cX8_item 15 = .ok (.iadd, 1) := by decide +kernel
theorem dX8_item_16 : decode cX8_item 16 = .ok (.putfield 117, 3) := by decide +kernel
theorem dX8_item_19 : decode cX8_item 19 = .ok (.iload_n 1, 1) := by decide +kernel
theorem dX8_item_20 : decode cX8_item 20 = .ok (.tableswitch 443 100 116 #[320, 443, 443, 279, 443, 215, 443, 443, 443, 443, 355, 443, 132, 443, 443, 443, 84], 84) := by decide +kernel
theorem dX8_item_104 : decode cX8_item 104 = .ok (.aload_n 0, 1) := by decide +kernel
theorem dX8_item_105 : decode cX8_item 105 = .ok (.iconst 4, 1) := by decide +kernel
theorem dX8_item_106 : decode cX8_item 106 = .ok (.invokevirtual 134, 3) := by decide +kernel
theorem dX8_item_109 : decode cX8_item 109 = .ok (.ifCond .eq 10, 3) := by decide +kernel
theorem dX8_item_112 : decode cX8_item 112 = .ok (.aload_n 0, 1) := by decide +kernel
theorem dX8_item_113 : decode cX8_item 113 = .ok (.invokevirtual 138, 3) := by decide +kernel
theorem dX8_item_116 : decode cX8_item 116 = .ok (.ifCond .ne 5, 3) := by decide +kernel
theorem dX8_item_119 : decode cX8_item 119 = .ok (.iconst 0, 1) := by decide +kernel
theorem dX8_item_120 : decode cX8_item 120 = .ok (.ireturn, 1) := by decide +kernel
theorem dX8_item_121 : decode cX8_item 121 = .ok (.aload_n 0, 1) := by decide +kernel
theorem dX8_item_122 : decode cX8_item 122 = .ok (.iconst 1, 1) := by decide +kernel
theorem dX8_item_123 : decode cX8_item 123 = .ok (.aload_n 0, 1) := by decide +kernel
theorem dX8_item_124 : decode cX8_item 124 = .ok (.getfield 67, 3) := by decide +kernel
theorem dX8_item_127 : decode cX8_item 127 = .ok (.iconst 0, 1) := by decide +kernel
theorem dX8_item_128 : decode cX8_item 128 = .ok (.iaload, 1) := by decide +kernel
theorem dX8_item_129 : decode cX8_item 129 = .ok (.aload_n 0, 1) := by decide +kernel
theorem dX8_item_130 : decode cX8_item 130 = .ok (.getfield 67, 3) := by decide +kernel
theorem dX8_item_133 : decode cX8_item 133 = .ok (.iconst 1, 1) := by decide +kernel
theorem dX8_item_134 : decode cX8_item 134 = .ok (.iaload, 1) := by decide +kernel
theorem dX8_item_135 : decode cX8_item 135 = .ok (.aload_n 0, 1) := by decide +kernel
theorem dX8_item_136 : decode cX8_item 136 = .ok (.getfield 67, 3) := by decide +kernel
theorem dX8_item_139 : decode cX8_item 139 = .ok (.iconst 2, 1) := by decide +kernel
theorem dX8_item_140 : decode cX8_item 140 = .ok (.iaload, 1) := by decide +kernel
theorem dX8_item_141 : decode cX8_item 141 = .ok (.aload_n 0, 1) := by decide +kernel
theorem dX8_item_142 : decode cX8_item 142 = .ok (.getfield 67, 3) := by decide +kernel
theorem dX8_item_145 : decode cX8_item 145 = .ok (.iconst 3, 1) := by decide +kernel
theorem dX8_item_146 : decode cX8_item 146 = .ok (.iaload, 1) := by decide +kernel
theorem dX8_item_147 : decode cX8_item 147 = .ok (.invokevirtual 94, 3) := by decide +kernel
theorem dX8_item_150 : decode cX8_item 150 = .ok (.iconst 1, 1) := by decide +kernel
theorem dX8_item_151 : decode cX8_item 151 = .ok (.ireturn, 1) := by decide +kernel
theorem dX8_item_152 : decode cX8_item 152 = .ok (.aload_n 0, 1) := by decide +kernel
theorem dX8_item_153 : decode cX8_item 153 = .ok (.iconst 3, 1) := by decide +kernel
theorem dX8_item_154 : decode cX8_item 154 = .ok (.invokevirtual 134, 3) := by decide +kernel
theorem dX8_item_157 : decode cX8_item 157 = .ok (.ifCond .eq 51, 3) := by decide +kernel
theorem dX8_item_160 : decode cX8_item 160 = .ok (.aload_n 0, 1) := by decide +kernel
theorem dX8_item_161 : decode cX8_item 161 = .ok (.getfield 28, 3) := by decide +kernel
theorem dX8_item_164 : decode cX8_item 164 = .ok (.iconst 1, 1) := by decide +kernel
theorem dX8_item_165 : decode cX8_item 165 = .ok (.iaload, 1) := by decide +kernel
theorem dX8_item_166 : decode cX8_item 166 = .ok (.iconst 4, 1) := by decide +kernel
theorem dX8_item_167 : decode cX8_item 167 = .ok (.if_icmp .eq 41, 3) := by decide +kernel
theorem dX8_item_170 : decode cX8_item 170 = .ok (.aload_n 0, 1) := by decide +kernel
theorem dX8_item_171 : decode cX8_item 171 = .ok (.getfield 67, 3) := by decide +kernel
theorem dX8_item_174 : decode cX8_item 174 = .ok (.iconst 0, 1) := by decide +kernel
theorem dX8_item_175 : decode cX8_item 175 = .ok (.iaload, 1) := by decide +kernel
theorem dX8_item_176 : decode cX8_item 176 = .ok (.bipush 9, 2) := by decide +kernel
theorem dX8_item_178 : decode cX8_item 178 = .ok (.if_icmp .gt 30, 3) := by decide +kernel
theorem dX8_item_181 : decode cX8_item 181 = .ok (.aload_n 0, 1) := by decide +kernel
theorem dX8_item_182 : decode cX8_item 182 = .ok (.getfield 67, 3) := by decide +kernel
theorem dX8_item_185 : decode cX8_item 185 = .ok (.iconst 1, 1) := by decide +kernel
theorem dX8_item_186 : decode cX8_item 186 = .ok (.iaload, 1) := by decide +kernel
theorem dX8_item_187 : decode cX8_item 187 = .ok (.iconst 1, 1) := by decide +kernel
theorem dX8_item_188 : decode cX8_item 188 = .ok (.if_icmp .gt 20, 3) := by decide +kernel
theorem dX8_item_191 : decode cX8_item 191 = .ok (.aload_n 0, 1) := by decide +kernel
theorem dX8_item_192 : decode cX8_item 192 = .ok (.getfield 67, 3) := by decide +kernel
theorem dX8_item_195 : decode cX8_item 195 = .ok (.iconst 2, 1) := by decide +kernel
theorem dX8_item_196 : decode cX8_item 196 = .ok (.iaload, 1) := by decide +kernel
theorem dX8_item_197 : decode cX8_item 197 = .ok (.i2l, 1) := by decide +kernel
theorem dX8_item_198 : decode cX8_item 198 = .ok (.lconst 1, 1) := by decide +kernel
theorem dX8_item_199 : decode cX8_item 199 = .ok (.ldc2_w 128, 3) := by decide +kernel
theorem dX8_item_202 : decode cX8_item 202 = .ok (.invokestatic 109, 3) := by decide +kernel
theorem dX8_item_205 : decode cX8_item 205 = .ok (.ifCond .ne 5, 3) := by decide +kernel
theorem dX8_item_208 : decode cX8_item 208 = .ok (.iconst 0, 1) := by decide +kernel
theorem dX8_item_209 : decode cX8_item 209 = .ok (.ireturn, 1) := by decide +kernel
theorem dX8_item_210 : decode cX8_item 210 = .ok (.aload_n 0, 1) := by decide +kernel
theorem dX8_item_211 : decode cX8_item 211 = .ok (.iconst 1, 1) := by decide +kernel
theorem dX8_item_212 : decode cX8_item 212 = .ok (.aload_n 0, 1) := by decide +kernel
theorem dX8_item_213 : decode cX8_item 213 = .ok (.getfield 67, 3) := by decide +kernel
theorem dX8_item_216 : decode cX8_item 216 = .ok (.iconst 0, 1) := by decide +kernel
theorem dX8_item_217 : decode cX8_item 217 = .ok (.iaload, 1) := by decide +kernel
theorem dX8_item_218 : decode cX8_item 218 = .ok (.aload_n 0, 1) := by decide +kernel
theorem dX8_item_219 : decode cX8_item 219 = .ok (.getfield 67, 3) := by decide +kernel
theorem dX8_item_222 : decode cX8_item 222 = .ok (.iconst 1, 1) := by decide +kernel
theorem dX8_item_223 : decode cX8_item 223 = .ok (.iaload, 1) := by decide +kernel
theorem dX8_item_224 : decode cX8_item 224 = .ok (.aload_n 0, 1) := by decide +kernel
theorem dX8_item_225 : decode cX8_item 225 = .ok (.getfield 67, 3) := by decide +kernel
theorem dX8_item_228 : decode cX8_item 228 = .ok (.iconst 2, 1) := by decide +kernel
theorem dX8_item_229 : decode cX8_item 229 = .ok (.iaload, 1) := by decide +kernel
theorem dX8_item_230 : decode cX8_item 230 = .ok (.invokevirtual 98, 3) := by decide +kernel
theorem dX8_item_233 : decode cX8_item 233 = .ok (.iconst 1, 1) := by decide +kernel
theorem dX8_item_234 : decode cX8_item 234 = .ok (.ireturn, 1) := by decide +kernel
theorem dX8_item_235 : decode cX8_item 235 = .ok (.aload_n 0, 1) := by decide +kernel
theorem dX8_item_236 : decode cX8_item 236 = .ok (.iconst 2, 1) := by decide +kernel
theorem dX8_item_237 : decode cX8_item 237 = .ok (.invokevirtual 134, 3) := by decide +kernel
theorem dX8_item_240 : decode cX8_item 240 = .ok (.ifCond .eq 33, 3) := by decide +kernel
theorem dX8_item_243 : decode cX8_item 243 = .ok (.aload_n 0, 1) := by decide +kernel
theorem dX8_item_244 : decode cX8_item 244 = .ok (.getfield 67, 3) := by decide +kernel
theorem dX8_item_247 : decode cX8_item 247 = .ok (.iconst 0, 1) := by decide +kernel
theorem dX8_item_248 : decode cX8_item 248 = .ok (.iaload, 1) := by decide +kernel
theorem dX8_item_249 : decode cX8_item 249 = .ok (.aload_n 0, 1) := by decide +kernel
theorem dX8_item_250 : decode cX8_item 250 = .ok (.getfield 28, 3) := by decide +kernel
theorem dX8_item_253 : decode cX8_item 253 = .ok (.iconst 1, 1) := by decide +kernel
theorem dX8_item_254 : decode cX8_item 254 = .ok (.iaload, 1) := by decide +kernel
theorem dX8_item_255 : decode cX8_item 255 = .ok (.if_icmp .ge 18, 3) := by decide +kernel
theorem dX8_item_258 : decode cX8_item 258 = .ok (.aload_n 0, 1) := by decide +kernel
theorem dX8_item_259 : decode cX8_item 259 = .ok (.getfield 67, 3) := by decide +kernel
theorem dX8_item_262 : decode cX8_item 262 = .ok (.iconst 1, 1) := by decide +kernel
theorem dX8_item_263 : decode cX8_item 263 = .ok (.iaload, 1) := by decide +kernel
theorem dX8_item_264 : decode cX8_item 264 = .ok (.aload_n 0, 1) := by decide +kernel
theorem dX8_item_265 : decode cX8_item 265 = .ok (.getfield 13, 3) := by decide +kernel
theorem dX8_item_268 : decode cX8_item 268 = .ok (.iconst 1, 1) := by decide +kernel
theorem dX8_item_269 : decode cX8_item 269 = .ok (.iaload, 1) := by decide +kernel
theorem dX8_item_270 : decode cX8_item 270 = .ok (.if_icmp .lt 5, 3) := by decide +kernel
theorem dX8_item_273 : decode cX8_item 273 = .ok (.iconst 0, 1) := by decide +kernel
theorem dX8_item_274 : decode cX8_item 274 = .ok (.ireturn, 1) := by decide +kernel
theorem dX8_item_275 : decode cX8_item 275 = .ok (.aload_n 0, 1) := by decide +kernel
theorem dX8_item_276 : decode cX8_item 276 = .ok (.getfield 52, 3) := by decide +kernel
theorem dX8_item_279 : decode cX8_item 279 = .ok (.aload_n 0, 1) := by decide +kernel
theorem dX8_item_280 : decode cX8_item 280 = .ok (.getfield 67, 3) := by decide +kernel
theorem dX8_item_283 : decode cX8_item 283 = .ok (.iconst 0, 1) := by decide +kernel
theorem dX8_item_284 : decode cX8_item 284 = .ok (.iaload, 1) := by decide +kernel
theorem dX8_item_285 : decode cX8_item 285 = .ok (.dup2, 1) := by decide +kernel
theorem dX8_item_286 : decode cX8_item 286 = .ok (.iaload, 1) := by decide +kernel
theorem dX8_item_287 : decode cX8_item 287 = .ok (.iconst 1, 1) := by decide +kernel
theorem dX8_item_288 : decode cX8_item 288 = .ok (.aload_n 0, 1) := by decide +kernel
theorem dX8_item_289 : decode cX8_item 289 = .ok (.getfield 67, 3) := by decide +kernel
theorem dX8_item_292 : decode cX8_item 292 = .ok (.iconst 1, 1) := by decide +kernel
theorem dX8_item_293 : decode cX8_item 293 = .ok (.iaload, 1) := by decide +kernel
theorem dX8_item_294 : decode cX8_item 294 = .ok (.ishl, 1) := by decide +kernel
theorem dX8_item_295 : decode cX8_item 295 = .ok (.ior, 1) := by decide +kernel
theorem dX8_item_296 : decode cX8_item 296 = .ok (.iastore, 1) := by decide +kernel
theorem dX8_item_297 : decode cX8_item 297 = .ok (.iconst 1, 1) := by decide +kernel
theorem dX8_item_298 : decode cX8_item 298 = .ok (.ireturn, 1) := by decide +kernel
theorem dX8_item_299 : decode cX8_item 299 = .ok (.aload_n 0, 1) := by decide +kernel
theorem dX8_item_300 : decode cX8_item 300 = .ok (.iconst 1, 1) := by decide +kernel
theorem dX8_item_301 : decode cX8_item 301 = .ok (.invokevirtual 134, 3) := by decide +kernel
theorem dX8_item_304 : decode cX8_item 304 = .ok (.ifCond .eq 20, 3) := by decide +kernel
theorem dX8_item_307 : decode cX8_item 307 = .ok (.aload_n 0, 1) := by decide +kernel
theorem dX8_item_308 : decode cX8_item 308 = .ok (.getfield 67, 3) := by decide +kernel
theorem dX8_item_311 : decode cX8_item 311 = .ok (.iconst 0, 1) := by decide +kernel
theorem dX8_item_312 : decode cX8_item 312 = .ok (.iaload, 1) := by decide +kernel
theorem dX8_item_313 : decode cX8_item 313 = .ok (.i2l, 1) := by decide +kernel
theorem dX8_item_314 : decode cX8_item 314 = .ok (.lconst 1, 1) := by decide +kernel
theorem dX8_item_315 : decode cX8_item 315 = .ok (.ldc2_w 132, 3) := by decide +kernel
theorem dX8_item_318 : decode cX8_item 318 = .ok (.invokestatic 109, 3) := by decide +kernel
theorem dX8_item_321 : decode cX8_item 321 = .ok (.ifCond .ne 5, 3) := by decide +kernel
theorem dX8_item_324 : decode cX8_item 324 = .ok (.iconst 0, 1) := by decide +kernel
theorem dX8_item_325 : decode cX8_item 325 = .ok (.ireturn, 1) := by decide +kernel
theorem dX8_item_326 : decode cX8_item 326 = .ok (.aload_n 0, 1) := by decide +kernel
theorem dX8_item_327 : decode cX8_item 327 = .ok (.getfield 40, 3) := by decide +kernel
theorem dX8_item_330 : decode cX8_item 330 = .ok (.iconst 1, 1) := by decide +kernel
theorem dX8_item_331 : decode cX8_item 331 = .ok (.aload_n 0, 1) := by decide +kernel
theorem dX8_item_332 : decode cX8_item 332 = .ok (.getfield 67, 3) := by decide +kernel
theorem dX8_item_335 : decode cX8_item 335 = .ok (.iconst 0, 1) := by decide +kernel
theorem dX8_item_336 : decode cX8_item 336 = .ok (.iaload, 1) := by decide +kernel
theorem dX8_item_337 : decode cX8_item 337 = .ok (.iastore, 1) := by decide +kernel
theorem dX8_item_338 : decode cX8_item 338 = .ok (.iconst 1, 1) := by decide +kernel
theorem dX8_item_339 : decode cX8_item 339 = .ok (.ireturn, 1) := by decide +kernel
theorem dX8_item_340 : decode cX8_item 340 = .ok (.aload_n 0, 1) := by decide +kernel
theorem dX8_item_341 : decode cX8_item 341 = .ok (.iconst 1, 1) := by decide +kernel
theorem dX8_item_342 : decode cX8_item 342 = .ok (.invokevirtual 134, 3) := by decide +kernel
theorem dX8_item_345 : decode cX8_item 345 = .ok (.ifCond .eq 14, 3) := by decide +kernel
theorem dX8_item_348 : decode cX8_item 348 = .ok (.aload_n 0, 1) := by decide +kernel
theorem dX8_item_349 : decode cX8_item 349 = .ok (.getfield 67, 3) := by decide +kernel
theorem dX8_item_352 : decode cX8_item 352 = .ok (.iconst 0, 1) := by decide +kernel
theorem dX8_item_353 : decode cX8_item 353 = .ok (.iaload, 1) := by decide +kernel
theorem dX8_item_354 : decode cX8_item 354 = .ok (.bipush 40, 2) := by decide +kernel
theorem dX8_item_356 : decode cX8_item 356 = .ok (.if_icmp .le 5, 3) := by decide +kernel
theorem dX8_item_359 : decode cX8_item 359 = .ok (.iconst 0, 1) := by decide +kernel
theorem dX8_item_360 : decode cX8_item 360 = .ok (.ireturn, 1) := by decide +kernel
theorem dX8_item_361 : decode cX8_item 361 = .ok (.aload_n 0, 1) := by decide +kernel
theorem dX8_item_362 : decode cX8_item 362 = .ok (.getfield 43, 3) := by decide +kernel
theorem dX8_item_365 : decode cX8_item 365 = .ok (.iconst 1, 1) := by decide +kernel
theorem dX8_item_366 : decode cX8_item 366 = .ok (.aload_n 0, 1) := by decide +kernel
theorem dX8_item_367 : decode cX8_item 367 = .ok (.getfield 67, 3) := by decide +kernel
theorem dX8_item_370 : decode cX8_item 370 = .ok (.iconst 0, 1) := by decide +kernel
theorem dX8_item_371 : decode cX8_item 371 = .ok (.iaload, 1) := by decide +kernel
theorem dX8_item_372 : decode cX8_item 372 = .ok (.iastore, 1) := by decide +kernel
theorem dX8_item_373 : decode cX8_item 373 = .ok (.iconst 1, 1) := by decide +kernel
theorem dX8_item_374 : decode cX8_item 374 = .ok (.ireturn, 1) := by decide +kernel
theorem dX8_item_375 : decode cX8_item 375 = .ok (.aload_n 0, 1) := by decide +kernel
theorem dX8_item_376 : decode cX8_item 376 = .ok (.iconst 3, 1) := by decide +kernel
theorem dX8_item_377 : decode cX8_item 377 = .ok (.invokevirtual 134, 3) := by decide +kernel
theorem dX8_item_380 : decode cX8_item 380 = .ok (.ifCond .eq 41, 3) := by decide +kernel
theorem dX8_item_383 : decode cX8_item 383 = .ok (.aload_n 0, 1) := by decide +kernel
theorem dX8_item_384 : decode cX8_item 384 = .ok (.getfield 67, 3) := by decide +kernel
theorem dX8_item_387 : decode cX8_item 387 = .ok (.iconst 0, 1) := by decide +kernel
theorem dX8_item_388 : decode cX8_item 388 = .ok (.iaload, 1) := by decide +kernel
theorem dX8_item_389 : decode cX8_item 389 = .ok (.iconst 3, 1) := by decide +kernel
theorem dX8_item_390 : decode cX8_item 390 = .ok (.if_icmp .gt 31, 3) := by decide +kernel
theorem dX8_item_393 : decode cX8_item 393 = .ok (.aload_n 0, 1) := by decide +kernel
theorem dX8_item_394 : decode cX8_item 394 = .ok (.getfield 67, 3) := by decide +kernel
theorem dX8_item_397 : decode cX8_item 397 = .ok (.iconst 1, 1) := by decide +kernel
theorem dX8_item_398 : decode cX8_item 398 = .ok (.iaload, 1) := by decide +kernel
theorem dX8_item_399 : decode cX8_item 399 = .ok (.bipush 9, 2) := by decide +kernel
theorem dX8_item_401 : decode cX8_item 401 = .ok (.if_icmp .gt 20, 3) := by decide +kernel
theorem dX8_item_404 : decode cX8_item 404 = .ok (.aload_n 0, 1) := by decide +kernel
theorem dX8_item_405 : decode cX8_item 405 = .ok (.getfield 67, 3) := by decide +kernel
theorem dX8_item_408 : decode cX8_item 408 = .ok (.iconst 2, 1) := by decide +kernel
theorem dX8_item_409 : decode cX8_item 409 = .ok (.iaload, 1) := by decide +kernel
theorem dX8_item_410 : decode cX8_item 410 = .ok (.i2l, 1) := by decide +kernel
theorem dX8_item_411 : decode cX8_item 411 = .ok (.lconst 1, 1) := by decide +kernel
theorem dX8_item_412 : decode cX8_item 412 = .ok (.ldc2_w 142, 3) := by decide +kernel
theorem dX8_item_415 : decode cX8_item 415 = .ok (.invokestatic 109, 3) := by decide +kernel
theorem dX8_item_418 : decode cX8_item 418 = .ok (.ifCond .ne 5, 3) := by decide +kernel
theorem dX8_item_421 : decode cX8_item 421 = .ok (.iconst 0, 1) := by decide +kernel
theorem dX8_item_422 : decode cX8_item 422 = .ok (.ireturn, 1) := by decide +kernel
theorem dX8_item_423 : decode cX8_item 423 = .ok (.aload_n 0, 1) := by decide +kernel
theorem dX8_item_424 : decode cX8_item 424 = .ok (.getfield 46, 3) := by decide +kernel
theorem dX8_item_427 : decode cX8_item 427 = .ok (.iconst 4, 1) := by decide +kernel
theorem dX8_item_428 : decode cX8_item 428 = .ok (.aload_n 0, 1) := by decide +kernel
theorem dX8_item_429 : decode cX8_item 429 = .ok (.getfield 67, 3) := by decide +kernel
theorem dX8_item_432 : decode cX8_item 432 = .ok (.iconst 0, 1) := by decide +kernel
theorem dX8_item_433 : decode cX8_item 433 = .ok (.iaload, 1) := by decide +kernel
theorem dX8_item_434 : decode cX8_item 434 = .ok (.iadd, 1) := by decide +kernel
theorem dX8_item_435 : decode cX8_item 435 = .ok (.aload_n 0, 1) := by decide +kernel
theorem dX8_item_436 : decode cX8_item 436 = .ok (.getfield 67, 3) := by decide +kernel
theorem dX8_item_439 : decode cX8_item 439 = .ok (.iconst 1, 1) := by decide +kernel
theorem dX8_item_440 : decode cX8_item 440 = .ok (.iaload, 1) := by decide +kernel
theorem dX8_item_441 : decode cX8_item 441 = .ok (.iastore, 1) := by decide +kernel
theorem dX8_item_442 : decode cX8_item 442 = .ok (.aload_n 0, 1) := by decide +kernel
theorem dX8_item_443 : decode cX8_item 443 = .ok (.getfield 49, 3) := by decide +kernel
theorem dX8_item_446 : decode cX8_item 446 = .ok (.iconst 4, 1) := by decide +kernel
theorem dX8_item_447 : decode cX8_item 447 = .ok (.aload_n 0, 1) := by decide +kernel
theorem dX8_item_448 : decode cX8_item 448 = .ok (.getfield 67, 3) := by decide +kernel
theorem dX8_item_451 : decode cX8_item 451 = .ok (.iconst 0, 1) := by decide +kernel
theorem dX8_item_452 : decode cX8_item 452 = .ok (.iaload, 1) := by decide +kernel
theorem dX8_item_453 : decode cX8_item 453 = .ok (.iadd, 1) := by decide +kernel
theorem dX8_item_454 : decode cX8_item 454 = .ok (.aload_n 0, 1) := by decide +kernel
theorem dX8_item_455 : decode cX8_item 455 = .ok (.getfield 67, 3) := by decide +kernel
theorem dX8_item_458 : decode cX8_item 458 = .ok (.iconst 2, 1) := by decide +kernel
theorem dX8_item_459 : decode cX8_item 459 = .ok (.iaload, 1) := by decide +kernel
theorem dX8_item_460 : decode cX8_item 460 = .ok (.iastore, 1) := by decide +kernel
theorem dX8_item_461 : decode cX8_item 461 = .ok (.iconst 1, 1) := by decide +kernel
theorem dX8_item_462 : decode cX8_item 462 = .ok (.ireturn, 1) := by decide +kernel
theorem dX8_item_463 : decode cX8_item 463 = .ok (.iconst 0, 1) := by decide +kernel
theorem dX8_item_464 : decode cX8_item 464 = .ok (.ireturn, 1) := by decide +kernel
theorem dX8_readAll_0 : decode cX8_readAll 0 = .ok (.aload_n 0, 1) := by decide +kernel
theorem dX8_readAll_1 : decode cX8_readAll 1 = .ok (.iconst 1, 1) := by decide +kernel
theorem dX8_readAll_2 : decode cX8_readAll 2 = .ok (.invokevirtual 90, 3) := by decide +kernel
theorem dX8_readAll_5 : decode cX8_readAll 5 = .ok (.iconst 0, 1) := by decide +kernel
theorem dX8_readAll_6 : decode cX8_readAll 6 = .ok (.istore_n 1, 1) := by decide +kernel
theorem dX8_readAll_7 : decode cX8_readAll 7 = .ok (.iload_n 1, 1) := by decide +kernel
theorem dX8_readAll_8 : decode cX8_readAll 8 = .ok (.iconst 4, 1) := by decide +kernel
theorem dX8_readAll_9 : decode cX8_readAll 9 = .ok (.if_icmp .ge 16, 3) := by decide +kernel
theorem dX8_readAll_12 : decode cX8_readAll 12 = .ok (.aload_n 0, 1) := by decide +kernel
theorem dX8_readAll_13 : decode cX8_readAll 13 = .ok (.getfield 52, 3) := by decide +kernel
theorem dX8_readAll_16 : decode cX8_readAll 16 = .ok (.iload_n 1, 1) := by decide +kernel
theorem dX8_readAll_17 : decode cX8_readAll 17 = .ok (.iconst 0, 1) := by decide +kernel
theorem dX8_readAll_18 : decode cX8_readAll 18 = .ok (.iastore, 1) := by decide +kernel
theorem dX8_readAll_19 : decode cX8_readAll 19 = .ok (.iinc 1 1, 3) := by decide +kernel
theorem dX8_readAll_22 : decode cX8_readAll 22 = .ok (.goto (-15), 3) := by decide +kernel
theorem dX8_readAll_25 : decode cX8_readAll 25 = .ok (.aload_n 0, 1) := by decide +kernel
theorem dX8_readAll_26 : decode cX8_readAll 26 = .ok (.iconst 0, 1) := by decide +kernel
theorem dX8_readAll_27 : decode cX8_readAll 27 = .ok (.putfield 117, 3) := by decide +kernel
theorem dX8_readAll_30 : decode cX8_readAll 30 = .ok (.aload_n 0, 1) := by decide +kernel
theorem dX8_readAll_31 : decode cX8_readAll 31 = .ok (.getfield 117, 3) := by decide +kernel
theorem dX8_readAll_34 : decode cX8_readAll 34 = .ok (.aload_n 0, 1) := by decide +kernel
theorem dX8_readAll_35 : decode cX8_readAll 35 = .ok (.getfield 113, 3) := by decide +kernel
theorem dX8_readAll_38 : decode cX8_readAll 38 = .ok (.if_icmp .ge 20, 3) := by decide +kernel
theorem dX8_readAll_41 : decode cX8_readAll 41 = .ok (.aload_n 0, 1) := by decide +kernel
theorem dX8_readAll_42 : decode cX8_readAll 42 = .ok (.getfield 117, 3) := by decide +kernel
theorem dX8_readAll_45 : decode cX8_readAll 45 = .ok (.istore_n 1, 1) := by decide +kernel
theorem dX8_readAll_46 : decode cX8_readAll 46 = .ok (.aload_n 0, 1) := by decide +kernel
theorem dX8_readAll_47 : decode cX8_readAll 47 = .ok (.invokevirtual 144, 3) := by decide +kernel
theorem dX8_readAll_50 : decode cX8_readAll 50 = .ok (.ifCond .ne 5, 3) := by decide +kernel
theorem dX8_readAll_53 : decode cX8_readAll 53 = .ok (.iload_n 1, 1) := by decide +kernel
theorem dX8_readAll_54 : decode cX8_readAll 54 = .ok (.ireturn, 1) := by decide +kernel
theorem dX8_readAll_55 : decode cX8_readAll 55 = .ok (.goto (-25), 3) := by decide +kernel
theorem dX8_readAll_58 : decode cX8_readAll 58 = .ok (.bipush (-4), 2) := by decide +kernel
theorem dX8_readAll_60 : decode cX8_readAll 60 = .ok (.ireturn, 1) := by decide +kernel
theorem dX8_fault_0 : decode cX8_fault 0 = .ok (.aload_n 0, 1) := by decide +kernel
theorem dX8_fault_1 : decode cX8_fault 1 = .ok (.invokevirtual 147, 3) := by decide +kernel
theorem dX8_fault_4 : decode cX8_fault 4 = .ok (.ireturn, 1) := by decide +kernel
theorem dX8_gap_0 : decode cX8_gap 0 = .ok (.iconst 0, 1) := by decide +kernel
theorem dX8_gap_1 : decode cX8_gap 1 = .ok (.istore_n 3, 1) := by decide +kernel
theorem dX8_gap_2 : decode cX8_gap 2 = .ok (.iconst 0, 1) := by decide +kernel
theorem dX8_gap_3 : decode cX8_gap 3 = .ok (.istore 4, 2) := by decide +kernel
theorem dX8_gap_5 : decode cX8_gap 5 = .ok (.iload 4, 2) := by decide +kernel
theorem dX8_gap_7 : decode cX8_gap 7 = .ok (.aload_n 0, 1) := by decide +kernel
theorem dX8_gap_8 : decode cX8_gap 8 = .ok (.getfield 28, 3) := by decide +kernel
theorem dX8_gap_11 : decode cX8_gap 11 = .ok (.iload_n 1, 1) := by decide +kernel
theorem dX8_gap_12 : decode cX8_gap 12 = .ok (.iaload, 1) := by decide +kernel
theorem dX8_gap_13 : decode cX8_gap 13 = .ok (.if_icmp .ge 87, 3) := by decide +kernel
theorem dX8_gap_16 : decode cX8_gap 16 = .ok (.iconst 0, 1) := by decide +kernel
theorem dX8_gap_17 : decode cX8_gap 17 = .ok (.istore 5, 2) := by decide +kernel
theorem dX8_gap_19 : decode cX8_gap 19 = .ok (.iload 5, 2) := by decide +kernel
theorem dX8_gap_21 : decode cX8_gap 21 = .ok (.aload_n 0, 1) := by decide +kernel
theorem dX8_gap_22 : decode cX8_gap 22 = .ok (.getfield 13, 3) := by decide +kernel
theorem dX8_gap_25 : decode cX8_gap 25 = .ok (.iload_n 1, 1) := by decide +kernel
theorem dX8_gap_26 : decode cX8_gap 26 = .ok (.iaload, 1) := by decide +kernel
theorem dX8_gap_27 : decode cX8_gap 27 = .ok (.if_icmp .ge 67, 3) := by decide +kernel
theorem dX8_gap_30 : decode cX8_gap 30 = .ok (.iload_n 2, 1) := by decide +kernel
theorem dX8_gap_31 : decode cX8_gap 31 = .ok (.bipush 8, 2) := by decide +kernel
theorem dX8_gap_33 : decode cX8_gap 33 = .ok (.iload 4, 2) := by decide +kernel
theorem dX8_gap_35 : decode cX8_gap 35 = .ok (.imul, 1) := by decide +kernel
theorem dX8_gap_36 : decode cX8_gap 36 = .ok (.ishr, 1) := by decide +kernel
theorem dX8_gap_37 : decode cX8_gap 37 = .ok (.iload 5, 2) := by decide +kernel
theorem dX8_gap_39 : decode cX8_gap 39 = .ok (.invokestatic 151, 3) := by decide +kernel
theorem dX8_gap_42 : decode cX8_gap 42 = .ok (.ifCond .eq 18, 3) := by decide +kernel
theorem dX8_gap_45 : decode cX8_gap 45 = .ok (.aload_n 0, 1) := by decide +kernel
theorem dX8_gap_46 : decode cX8_gap 46 = .ok (.getfield 22, 3) := by decide +kernel
theorem dX8_gap_49 : decode cX8_gap 49 = .ok (.bipush 8, 2) := by decide +kernel
theorem dX8_gap_51 : decode cX8_gap 51 = .ok (.iload_n 1, 1) := by decide +kernel
theorem dX8_gap_52 : decode cX8_gap 52 = .ok (.imul, 1) := by decide +kernel
theorem dX8_gap_53 : decode cX8_gap 53 = .ok (.iload 5, 2) := by decide +kernel
theorem dX8_gap_55 : decode cX8_gap 55 = .ok (.iadd, 1) := by decide +kernel
theorem dX8_gap_56 : decode cX8_gap 56 = .ok (.iaload, 1) := by decide +kernel
theorem dX8_gap_57 : decode cX8_gap 57 = .ok (.goto 4, 3) := by decide +kernel
theorem dX8_gap_60 : decode cX8_gap 60 = .ok (.iconst 0, 1) := by decide +kernel
theorem dX8_gap_61 : decode cX8_gap 61 = .ok (.istore 6, 2) := by decide +kernel
theorem dX8_gap_63 : decode cX8_gap 63 = .ok (.iload_n 3, 1) := by decide +kernel
theorem dX8_gap_64 : decode cX8_gap 64 = .ok (.aload_n 0, 1) := by decide +kernel
theorem dX8_gap_65 : decode cX8_gap 65 = .ok (.getfield 34, 3) := by decide +kernel
theorem dX8_gap_68 : decode cX8_gap 68 = .ok (.iconst 4, 1) := by decide +kernel
theorem dX8_gap_69 : decode cX8_gap 69 = .ok (.iload_n 1, 1) := by decide +kernel
theorem dX8_gap_70 : decode cX8_gap 70 = .ok (.imul, 1) := by decide +kernel
theorem dX8_gap_71 : decode cX8_gap 71 = .ok (.iload 4, 2) := by decide +kernel
theorem dX8_gap_73 : decode cX8_gap 73 = .ok (.iadd, 1) := by decide +kernel
theorem dX8_gap_74 : decode cX8_gap 74 = .ok (.iaload, 1) := by decide +kernel
theorem dX8_gap_75 : decode cX8_gap 75 = .ok (.ifCond .ne 8, 3) := by decide +kernel
theorem dX8_gap_78 : decode cX8_gap 78 = .ok (.iload 6, 2) := by decide +kernel
theorem dX8_gap_80 : decode cX8_gap 80 = .ok (.goto 6, 3) := by decide +kernel
theorem dX8_gap_83 : decode cX8_gap 83 = .ok (.iload 6, 2) := by decide +kernel
theorem dX8_gap_85 : decode cX8_gap 85 = .ok (.ineg, 1) := by decide +kernel
theorem dX8_gap_86 : decode cX8_gap 86 = .ok (.iadd, 1) := by decide +kernel
theorem dX8_gap_87 : decode cX8_gap 87 = .ok (.istore_n 3, 1) := by decide +kernel
theorem dX8_gap_88 : decode cX8_gap 88 = .ok (.iinc 5 1, 3) := by decide +kernel
theorem dX8_gap_91 : decode cX8_gap 91 = .ok (.goto (-72), 3) := by decide +kernel
theorem dX8_gap_94 : decode cX8_gap 94 = .ok (.iinc 4 1, 3) := by decide +kernel
theorem dX8_gap_97 : decode cX8_gap 97 = .ok (.goto (-92), 3) := by decide +kernel
theorem dX8_gap_100 : decode cX8_gap 100 = .ok (.iload_n 3, 1) := by decide +kernel
theorem dX8_gap_101 : decode cX8_gap 101 = .ok (.ireturn, 1) := by decide +kernel
theorem dX8_isFair_0 : decode cX8_isFair 0 = .ok (.iconst 0, 1) := by decide +kernel
theorem dX8_isFair_1 : decode cX8_isFair 1 = .ok (.istore_n 3, 1) := by decide +kernel
theorem dX8_isFair_2 : decode cX8_isFair 2 = .ok (.iconst 0, 1) := by decide +kernel
theorem dX8_isFair_3 : decode cX8_isFair 3 = .ok (.istore 4, 2) := by decide +kernel
theorem dX8_isFair_5 : decode cX8_isFair 5 = .ok (.iload 4, 2) := by decide +kernel
theorem dX8_isFair_7 : decode cX8_isFair 7 = .ok (.aload_n 0, 1) := by decide +kernel
theorem dX8_isFair_8 : decode cX8_isFair 8 = .ok (.getfield 28, 3) := by decide +kernel
theorem dX8_isFair_11 : decode cX8_isFair 11 = .ok (.iload_n 1, 1) := by decide +kernel
theorem dX8_isFair_12 : decode cX8_isFair 12 = .ok (.iaload, 1) := by decide +kernel
theorem dX8_isFair_13 : decode cX8_isFair 13 = .ok (.if_icmp .ge 25, 3) := by decide +kernel
theorem dX8_isFair_16 : decode cX8_isFair 16 = .ok (.iload_n 3, 1) := by decide +kernel
theorem dX8_isFair_17 : decode cX8_isFair 17 = .ok (.iconst 1, 1) := by decide +kernel
theorem dX8_isFair_18 : decode cX8_isFair 18 = .ok (.aload_n 0, 1) := by decide +kernel
theorem dX8_isFair_19 : decode cX8_isFair 19 = .ok (.getfield 34, 3) := by decide +kernel
theorem dX8_isFair_22 : decode cX8_isFair 22 = .ok (.iconst 4, 1) := by decide +kernel
theorem dX8_isFair_23 : decode cX8_isFair 23 = .ok (.iload_n 1, 1) := by decide +kernel
theorem dX8_isFair_24 : decode cX8_isFair 24 = .ok (.imul, 1) := by decide +kernel
theorem dX8_isFair_25 : decode cX8_isFair 25 = .ok (.iload 4, 2) := by decide +kernel
theorem dX8_isFair_27 : decode cX8_isFair 27 = .ok (.iadd, 1) := by decide +kernel
theorem dX8_isFair_28 : decode cX8_isFair 28 = .ok (.iaload, 1) := by decide +kernel
theorem dX8_isFair_29 : decode cX8_isFair 29 = .ok (.ishl, 1) := by decide +kernel
theorem dX8_isFair_30 : decode cX8_isFair 30 = .ok (.ior, 1) := by decide +kernel
theorem dX8_isFair_31 : decode cX8_isFair 31 = .ok (.istore_n 3, 1) := by decide +kernel
theorem dX8_isFair_32 : decode cX8_isFair 32 = .ok (.iinc 4 1, 3) := by decide +kernel
theorem dX8_isFair_35 : decode cX8_isFair 35 = .ok (.goto (-30), 3) := by decide +kernel
theorem dX8_isFair_38 : decode cX8_isFair 38 = .ok (.iload_n 3, 1) := by decide +kernel
theorem dX8_isFair_39 : decode cX8_isFair 39 = .ok (.iconst 3, 1) := by decide +kernel
theorem dX8_isFair_40 : decode cX8_isFair 40 = .ok (.if_icmp .ne 31, 3) := by decide +kernel
theorem dX8_isFair_43 : decode cX8_isFair 43 = .ok (.aload_n 0, 1) := by decide +kernel
theorem dX8_isFair_44 : decode cX8_isFair 44 = .ok (.iload_n 1, 1) := by decide +kernel
theorem dX8_isFair_45 : decode cX8_isFair 45 = .ok (.iload_n 2, 1) := by decide +kernel
theorem dX8_isFair_46 : decode cX8_isFair 46 = .ok (.invokevirtual 155, 3) := by decide +kernel
theorem dX8_isFair_49 : decode cX8_isFair 49 = .ok (.i2l, 1) := by decide +kernel
theorem dX8_isFair_50 : decode cX8_isFair 50 = .ok (.aload_n 0, 1) := by decide +kernel
theorem dX8_isFair_51 : decode cX8_isFair 51 = .ok (.getfield 43, 3) := by decide +kernel
theorem dX8_isFair_54 : decode cX8_isFair 54 = .ok (.iload_n 1, 1) := by decide +kernel
theorem dX8_isFair_55 : decode cX8_isFair 55 = .ok (.iaload, 1) := by decide +kernel
theorem dX8_isFair_56 : decode cX8_isFair 56 = .ok (.ineg, 1) := by decide +kernel
theorem dX8_isFair_57 : decode cX8_isFair 57 = .ok (.i2l, 1) := by decide +kernel
theorem dX8_isFair_58 : decode cX8_isFair 58 = .ok (.aload_n 0, 1) := by decide +kernel
theorem dX8_isFair_59 : decode cX8_isFair 59 = .ok (.getfield 43, 3) := by decide +kernel
theorem dX8_isFair_62 : decode cX8_isFair 62 = .ok (.iload_n 1, 1) := by decide +kernel
theorem dX8_isFair_63 : decode cX8_isFair 63 = .ok (.iaload, 1) := by decide +kernel
theorem dX8_isFair_64 : decode cX8_isFair 64 = .ok (.i2l, 1) := by decide +kernel
theorem dX8_isFair_65 : decode cX8_isFair 65 = .ok (.invokestatic 109, 3) := by decide +kernel
theorem dX8_isFair_68 : decode cX8_isFair 68 = .ok (.ifCond .eq 7, 3) := by decide +kernel
theorem dX8_isFair_71 : decode cX8_isFair 71 = .ok (.iconst 1, 1) := by decide +kernel
theorem dX8_isFair_72 : decode cX8_isFair 72 = .ok (.goto 4, 3) := by decide +kernel
theorem dX8_isFair_75 : decode cX8_isFair 75 = .ok (.iconst 0, 1) := by decide +kernel
theorem dX8_isFair_76 : decode cX8_isFair 76 = .ok (.ireturn, 1) := by decide +kernel
theorem dX8_codeOf_0 : decode cX8_codeOf 0 = .ok (.iload_n 1, 1) := by decide +kernel
theorem dX8_codeOf_1 : decode cX8_codeOf 1 = .ok (.iload_n 2, 1) := by decide +kernel
theorem dX8_codeOf_2 : decode cX8_codeOf 2 = .ok (.bipush 8, 2) := by decide +kernel
theorem dX8_codeOf_4 : decode cX8_codeOf 4 = .ok (.ishl, 1) := by decide +kernel
theorem dX8_codeOf_5 : decode cX8_codeOf 5 = .ok (.ior, 1) := by decide +kernel
theorem dX8_codeOf_6 : decode cX8_codeOf 6 = .ok (.iload_n 3, 1) := by decide +kernel
theorem dX8_codeOf_7 : decode cX8_codeOf 7 = .ok (.bipush 16, 2) := by decide +kernel
theorem dX8_codeOf_9 : decode cX8_codeOf 9 = .ok (.ishl, 1) := by decide +kernel
theorem dX8_codeOf_10 : decode cX8_codeOf 10 = .ok (.ior, 1) := by decide +kernel
theorem dX8_codeOf_11 : decode cX8_codeOf 11 = .ok (.iload 4, 2) := by decide +kernel
theorem dX8_codeOf_13 : decode cX8_codeOf 13 = .ok (.bipush 24, 2) := by decide +kernel
theorem dX8_codeOf_15 : decode cX8_codeOf 15 = .ok (.ishl, 1) := by decide +kernel
theorem dX8_codeOf_16 : decode cX8_codeOf 16 = .ok (.ior, 1) := by decide +kernel
theorem dX8_codeOf_17 : decode cX8_codeOf 17 = .ok (.ireturn, 1) := by decide +kernel
theorem dX8_isTruth_0 : decode cX8_isTruth 0 = .ok (.iconst 0, 1) := by decide +kernel
theorem dX8_isTruth_1 : decode cX8_isTruth 1 = .ok (.istore_n 1, 1) := by decide +kernel
theorem dX8_isTruth_2 : decode cX8_isTruth 2 = .ok (.iconst 1, 1) := by decide +kernel
theorem dX8_isTruth_3 : decode cX8_isTruth 3 = .ok (.istore_n 2, 1) := by decide +kernel
theorem dX8_isTruth_4 : decode cX8_isTruth 4 = .ok (.iconst 0, 1) := by decide +kernel
theorem dX8_isTruth_5 : decode cX8_isTruth 5 = .ok (.istore_n 3, 1) := by decide +kernel
theorem dX8_isTruth_6 : decode cX8_isTruth 6 = .ok (.iload_n 3, 1) := by decide +kernel
theorem dX8_isTruth_7 : decode cX8_isTruth 7 = .ok (.aload_n 0, 1) := by decide +kernel
theorem dX8_isTruth_8 : decode cX8_isTruth 8 = .ok (.getfield 28, 3) := by decide +kernel
theorem dX8_isTruth_11 : decode cX8_isTruth 11 = .ok (.iconst 1, 1) := by decide +kernel
theorem dX8_isTruth_12 : decode cX8_isTruth 12 = .ok (.iaload, 1) := by decide +kernel
theorem dX8_isTruth_13 : decode cX8_isTruth 13 = .ok (.if_icmp .ge 59, 3) := by decide +kernel
theorem dX8_isTruth_16 : decode cX8_isTruth 16 = .ok (.iload_n 2, 1) := by decide +kernel
theorem dX8_isTruth_17 : decode cX8_isTruth 17 = .ok (.ifCond .eq 38, 3) := by decide +kernel
theorem dX8_isTruth_20 : decode cX8_isTruth 20 = .ok (.aload_n 0, 1) := by decide +kernel
theorem dX8_isTruth_21 : decode cX8_isTruth 21 = .ok (.getfield 52, 3) := by decide +kernel
theorem dX8_isTruth_24 : decode cX8_isTruth 24 = .ok (.iload_n 3, 1) := by decide +kernel
theorem dX8_isTruth_25 : decode cX8_isTruth 25 = .ok (.iaload, 1) := by decide +kernel
theorem dX8_isTruth_26 : decode cX8_isTruth 26 = .ok (.invokestatic 159, 3) := by decide +kernel
theorem dX8_isTruth_29 : decode cX8_isTruth 29 = .ok (.aload_n 0, 1) := by decide +kernel
theorem dX8_isTruth_30 : decode cX8_isTruth 30 = .ok (.getfield 37, 3) := by decide +kernel
theorem dX8_isTruth_33 : decode cX8_isTruth 33 = .ok (.iconst 4, 1) := by decide +kernel
theorem dX8_isTruth_34 : decode cX8_isTruth 34 = .ok (.iload_n 3, 1) := by decide +kernel
theorem dX8_isTruth_35 : decode cX8_isTruth 35 = .ok (.iadd, 1) := by decide +kernel
theorem dX8_isTruth_36 : decode cX8_isTruth 36 = .ok (.iaload, 1) := by decide +kernel
theorem dX8_isTruth_37 : decode cX8_isTruth 37 = .ok (.if_icmp .ne 18, 3) := by decide +kernel
theorem dX8_isTruth_40 : decode cX8_isTruth 40 = .ok (.iload_n 1, 1) := by decide +kernel
theorem dX8_isTruth_41 : decode cX8_isTruth 41 = .ok (.aload_n 0, 1) := by decide +kernel
theorem dX8_isTruth_42 : decode cX8_isTruth 42 = .ok (.getfield 52, 3) := by decide +kernel
theorem dX8_isTruth_45 : decode cX8_isTruth 45 = .ok (.iload_n 3, 1) := by decide +kernel
theorem dX8_isTruth_46 : decode cX8_isTruth 46 = .ok (.iaload, 1) := by decide +kernel
theorem dX8_isTruth_47 : decode cX8_isTruth 47 = .ok (.iand, 1) := by decide +kernel
theorem dX8_isTruth_48 : decode cX8_isTruth 48 = .ok (.ifCond .ne 7, 3) := by decide +kernel
theorem dX8_isTruth_51 : decode cX8_isTruth 51 = .ok (.iconst 1, 1) := by decide +kernel
theorem dX8_isTruth_52 : decode cX8_isTruth 52 = .ok (.goto 4, 3) := by decide +kernel
theorem dX8_isTruth_55 : decode cX8_isTruth 55 = .ok (.iconst 0, 1) := by decide +kernel
theorem dX8_isTruth_56 : decode cX8_isTruth 56 = .ok (.istore_n 2, 1) := by decide +kernel
theorem dX8_isTruth_57 : decode cX8_isTruth 57 = .ok (.iload_n 1, 1) := by decide +kernel
theorem dX8_isTruth_58 : decode cX8_isTruth 58 = .ok (.aload_n 0, 1) := by decide +kernel
theorem dX8_isTruth_59 : decode cX8_isTruth 59 = .ok (.getfield 52, 3) := by decide +kernel
theorem dX8_isTruth_62 : decode cX8_isTruth 62 = .ok (.iload_n 3, 1) := by decide +kernel
theorem dX8_isTruth_63 : decode cX8_isTruth 63 = .ok (.iaload, 1) := by decide +kernel
theorem dX8_isTruth_64 : decode cX8_isTruth 64 = .ok (.ior, 1) := by decide +kernel
theorem dX8_isTruth_65 : decode cX8_isTruth 65 = .ok (.istore_n 1, 1) := by decide +kernel
theorem dX8_isTruth_66 : decode cX8_isTruth 66 = .ok (.iinc 3 1, 3) := by decide +kernel
theorem dX8_isTruth_69 : decode cX8_isTruth 69 = .ok (.goto (-63), 3) := by decide +kernel
theorem dX8_isTruth_72 : decode cX8_isTruth 72 = .ok (.iload_n 2, 1) := by decide +kernel
theorem dX8_isTruth_73 : decode cX8_isTruth 73 = .ok (.ifCond .eq 43, 3) := by decide +kernel
theorem dX8_isTruth_76 : decode cX8_isTruth 76 = .ok (.aload_n 0, 1) := by decide +kernel
theorem dX8_isTruth_77 : decode cX8_isTruth 77 = .ok (.iconst 1, 1) := by decide +kernel
theorem dX8_isTruth_78 : decode cX8_isTruth 78 = .ok (.aload_n 0, 1) := by decide +kernel
theorem dX8_isTruth_79 : decode cX8_isTruth 79 = .ok (.aload_n 0, 1) := by decide +kernel
theorem dX8_isTruth_80 : decode cX8_isTruth 80 = .ok (.getfield 52, 3) := by decide +kernel
theorem dX8_isTruth_83 : decode cX8_isTruth 83 = .ok (.iconst 0, 1) := by decide +kernel
theorem dX8_isTruth_84 : decode cX8_isTruth 84 = .ok (.iaload, 1) := by decide +kernel
theorem dX8_isTruth_85 : decode cX8_isTruth 85 = .ok (.aload_n 0, 1) := by decide +kernel
theorem dX8_isTruth_86 : decode cX8_isTruth 86 = .ok (.getfield 52, 3) := by decide +kernel
theorem dX8_isTruth_89 : decode cX8_isTruth 89 = .ok (.iconst 1, 1) := by decide +kernel
theorem dX8_isTruth_90 : decode cX8_isTruth 90 = .ok (.iaload, 1) := by decide +kernel
theorem dX8_isTruth_91 : decode cX8_isTruth 91 = .ok (.aload_n 0, 1) := by decide +kernel
theorem dX8_isTruth_92 : decode cX8_isTruth 92 = .ok (.getfield 52, 3) := by decide +kernel
theorem dX8_isTruth_95 : decode cX8_isTruth 95 = .ok (.iconst 2, 1) := by decide +kernel
theorem dX8_isTruth_96 : decode cX8_isTruth 96 = .ok (.iaload, 1) := by decide +kernel
theorem dX8_isTruth_97 : decode cX8_isTruth 97 = .ok (.aload_n 0, 1) := by decide +kernel
theorem dX8_isTruth_98 : decode cX8_isTruth 98 = .ok (.getfield 52, 3) := by decide +kernel
theorem dX8_isTruth_101 : decode cX8_isTruth 101 = .ok (.iconst 3, 1) := by decide +kernel
theorem dX8_isTruth_102 : decode cX8_isTruth 102 = .ok (.iaload, 1) := by decide +kernel
theorem dX8_isTruth_103 : decode cX8_isTruth 103 = .ok (.invokevirtual 162, 3) := by decide +kernel
theorem dX8_isTruth_106 : decode cX8_isTruth 106 = .ok (.invokevirtual 166, 3) := by decide +kernel
theorem dX8_isTruth_109 : decode cX8_isTruth 109 = .ok (.ifCond .eq 7, 3) := by decide +kernel
theorem dX8_isTruth_112 : decode cX8_isTruth 112 = .ok (.iconst 1, 1) := by decide +kernel
theorem dX8_isTruth_113 : decode cX8_isTruth 113 = .ok (.goto 4, 3) := by decide +kernel
theorem dX8_isTruth_116 : decode cX8_isTruth 116 = .ok (.iconst 0, 1) := by decide +kernel
theorem dX8_isTruth_117 : decode cX8_isTruth 117 = .ok (.ireturn, 1) := by decide +kernel
theorem dX8_lay_0 : decode cX8_lay 0 = .ok (.aload_n 0, 1) := by decide +kernel
theorem dX8_lay_1 : decode cX8_lay 1 = .ok (.invokevirtual 147, 3) := by decide +kernel
theorem dX8_lay_4 : decode cX8_lay 4 = .ok (.bipush (-4), 2) := by decide +kernel
theorem dX8_lay_6 : decode cX8_lay 6 = .ok (.if_icmp .ne 19, 3) := by decide +kernel
theorem dX8_lay_9 : decode cX8_lay 9 = .ok (.aload_n 0, 1) := by decide +kernel
theorem dX8_lay_10 : decode cX8_lay 10 = .ok (.getfield 28, 3) := by decide +kernel
theorem dX8_lay_13 : decode cX8_lay 13 = .ok (.iconst 1, 1) := by decide +kernel
theorem dX8_lay_14 : decode cX8_lay 14 = .ok (.iaload, 1) := by decide +kernel
theorem dX8_lay_15 : decode cX8_lay 15 = .ok (.ifCond .eq 10, 3) := by decide +kernel
theorem dX8_lay_18 : decode cX8_lay 18 = .ok (.aload_n 0, 1) := by decide +kernel
theorem dX8_lay_19 : decode cX8_lay 19 = .ok (.invokevirtual 169, 3) := by decide +kernel
theorem dX8_lay_22 : decode cX8_lay 22 = .ok (.ifCond .ne 6, 3) := by decide +kernel
theorem dX8_lay_25 : decode cX8_lay 25 = .ok (.bipush (-2), 2) := by decide +kernel
theorem dX8_lay_27 : decode cX8_lay 27 = .ok (.ireturn, 1) := by decide +kernel
theorem dX8_lay_28 : decode cX8_lay 28 = .ok (.aload_n 0, 1) := by decide +kernel
theorem dX8_lay_29 : decode cX8_lay 29 = .ok (.getfield 13, 3) := by decide +kernel
theorem dX8_lay_32 : decode cX8_lay 32 = .ok (.iconst 0, 1) := by decide +kernel
theorem dX8_lay_33 : decode cX8_lay 33 = .ok (.aload_n 0, 1) := by decide +kernel
theorem dX8_lay_34 : decode cX8_lay 34 = .ok (.getfield 13, 3) := by decide +kernel
theorem dX8_lay_37 : decode cX8_lay 37 = .ok (.iconst 1, 1) := by decide +kernel
theorem dX8_lay_38 : decode cX8_lay 38 = .ok (.iaload, 1) := by decide +kernel
theorem dX8_lay_39 : decode cX8_lay 39 = .ok (.iastore, 1) := by decide +kernel
theorem dX8_lay_40 : decode cX8_lay 40 = .ok (.aload_n 0, 1) := by decide +kernel
theorem dX8_lay_41 : decode cX8_lay 41 = .ok (.getfield 28, 3) := by decide +kernel
theorem dX8_lay_44 : decode cX8_lay 44 = .ok (.iconst 0, 1) := by decide +kernel
theorem dX8_lay_45 : decode cX8_lay 45 = .ok (.aload_n 0, 1) := by decide +kernel
theorem dX8_lay_46 : decode cX8_lay 46 = .ok (.getfield 28, 3) := by decide +kernel
theorem dX8_lay_49 : decode cX8_lay 49 = .ok (.iconst 1, 1) := by decide +kernel
theorem dX8_lay_50 : decode cX8_lay 50 = .ok (.iaload, 1) := by decide +kernel
theorem dX8_lay_51 : decode cX8_lay 51 = .ok (.iastore, 1) := by decide +kernel
theorem dX8_lay_52 : decode cX8_lay 52 = .ok (.aload_n 0, 1) := by decide +kernel
theorem dX8_lay_53 : decode cX8_lay 53 = .ok (.getfield 40, 3) := by decide +kernel
theorem dX8_lay_56 : decode cX8_lay 56 = .ok (.iconst 0, 1) := by decide +kernel
theorem dX8_lay_57 : decode cX8_lay 57 = .ok (.aload_n 0, 1) := by decide +kernel
theorem dX8_lay_58 : decode cX8_lay 58 = .ok (.getfield 40, 3) := by decide +kernel
theorem dX8_lay_61 : decode cX8_lay 61 = .ok (.iconst 1, 1) := by decide +kernel
theorem dX8_lay_62 : decode cX8_lay 62 = .ok (.iaload, 1) := by decide +kernel
theorem dX8_lay_63 : decode cX8_lay 63 = .ok (.iastore, 1) := by decide +kernel
theorem dX8_lay_64 : decode cX8_lay 64 = .ok (.aload_n 0, 1) := by decide +kernel
theorem dX8_lay_65 : decode cX8_lay 65 = .ok (.getfield 43, 3) := by decide +kernel
theorem dX8_lay_68 : decode cX8_lay 68 = .ok (.iconst 0, 1) := by decide +kernel
theorem dX8_lay_69 : decode cX8_lay 69 = .ok (.aload_n 0, 1) := by decide +kernel
theorem dX8_lay_70 : decode cX8_lay 70 = .ok (.getfield 43, 3) := by decide +kernel
theorem dX8_lay_73 : decode cX8_lay 73 = .ok (.iconst 1, 1) := by decide +kernel
theorem dX8_lay_74 : decode cX8_lay 74 = .ok (.iaload, 1) := by decide +kernel
theorem dX8_lay_75 : decode cX8_lay 75 = .ok (.iastore, 1) := by decide +kernel
theorem dX8_lay_76 : decode cX8_lay 76 = .ok (.iconst 0, 1) := by decide +kernel
theorem dX8_lay_77 : decode cX8_lay 77 = .ok (.istore_n 1, 1) := by decide +kernel
theorem dX8_lay_78 : decode cX8_lay 78 = .ok (.iload_n 1, 1) := by decide +kernel
theorem dX8_lay_79 : decode cX8_lay 79 = .ok (.bipush 8, 2) := by decide +kernel
theorem dX8_lay_81 : decode cX8_lay 81 = .ok (.if_icmp .ge 69, 3) := by decide +kernel
theorem dX8_lay_84 : decode cX8_lay 84 = .ok (.aload_n 0, 1) := by decide +kernel
theorem dX8_lay_85 : decode cX8_lay 85 = .ok (.getfield 16, 3) := by decide +kernel
theorem dX8_lay_88 : decode cX8_lay 88 = .ok (.iload_n 1, 1) := by decide +kernel
theorem dX8_lay_89 : decode cX8_lay 89 = .ok (.aload_n 0, 1) := by decide +kernel
theorem dX8_lay_90 : decode cX8_lay 90 = .ok (.getfield 16, 3) := by decide +kernel
theorem dX8_lay_93 : decode cX8_lay 93 = .ok (.bipush 8, 2) := by decide +kernel
theorem dX8_lay_95 : decode cX8_lay 95 = .ok (.iload_n 1, 1) := by decide +kernel
theorem dX8_lay_96 : decode cX8_lay 96 = .ok (.iadd, 1) := by decide +kernel
theorem dX8_lay_97 : decode cX8_lay 97 = .ok (.iaload, 1) := by decide +kernel
theorem dX8_lay_98 : decode cX8_lay 98 = .ok (.iastore, 1) := by decide +kernel
theorem dX8_lay_99 : decode cX8_lay 99 = .ok (.aload_n 0, 1) := by decide +kernel
theorem dX8_lay_100 : decode cX8_lay 100 = .ok (.getfield 19, 3) := by decide +kernel
theorem dX8_lay_103 : decode cX8_lay 103 = .ok (.iload_n 1, 1) := by decide +kernel
theorem dX8_lay_104 : decode cX8_lay 104 = .ok (.aload_n 0, 1) := by decide +kernel
theorem dX8_lay_105 : decode cX8_lay 105 = .ok (.getfield 19, 3) := by decide +kernel
theorem dX8_lay_108 : decode cX8_lay 108 = .ok (.bipush 8, 2) := by decide +kernel
theorem dX8_lay_110 : decode cX8_lay 110 = .ok (.iload_n 1, 1) := by decide +kernel
theorem dX8_lay_111 : decode cX8_lay 111 = .ok (.iadd, 1) := by decide +kernel
theorem dX8_lay_112 : decode cX8_lay 112 = .ok (.iaload, 1) := by decide +kernel
theorem dX8_lay_113 : decode cX8_lay 113 = .ok (.iastore, 1) := by decide +kernel
theorem dX8_lay_114 : decode cX8_lay 114 = .ok (.aload_n 0, 1) := by decide +kernel
theorem dX8_lay_115 : decode cX8_lay 115 = .ok (.getfield 22, 3) := by decide +kernel
theorem dX8_lay_118 : decode cX8_lay 118 = .ok (.iload_n 1, 1) := by decide +kernel
theorem dX8_lay_119 : decode cX8_lay 119 = .ok (.aload_n 0, 1) := by decide +kernel
theorem dX8_lay_120 : decode cX8_lay 120 = .ok (.getfield 22, 3) := by decide +kernel
theorem dX8_lay_123 : decode cX8_lay 123 = .ok (.bipush 8, 2) := by decide +kernel
theorem dX8_lay_125 : decode cX8_lay 125 = .ok (.iload_n 1, 1) := by decide +kernel
theorem dX8_lay_126 : decode cX8_lay 126 = .ok (.iadd, 1) := by decide +kernel
theorem dX8_lay_127 : decode cX8_lay 127 = .ok (.iaload, 1) := by decide +kernel
theorem dX8_lay_128 : decode cX8_lay 128 = .ok (.iastore, 1) := by decide +kernel
theorem dX8_lay_129 : decode cX8_lay 129 = .ok (.aload_n 0, 1) := by decide +kernel
theorem dX8_lay_130 : decode cX8_lay 130 = .ok (.getfield 25, 3) := by decide +kernel
theorem dX8_lay_133 : decode cX8_lay 133 = .ok (.iload_n 1, 1) := by decide +kernel
theorem dX8_lay_134 : decode cX8_lay 134 = .ok (.aload_n 0, 1) := by decide +kernel
theorem dX8_lay_135 : decode cX8_lay 135 = .ok (.getfield 25, 3) := by decide +kernel
theorem dX8_lay_138 : decode cX8_lay 138 = .ok (.bipush 8, 2) := by decide +kernel
theorem dX8_lay_140 : decode cX8_lay 140 = .ok (.iload_n 1, 1) := by decide +kernel
theorem dX8_lay_141 : decode cX8_lay 141 = .ok (.iadd, 1) := by decide +kernel
theorem dX8_lay_142 : decode cX8_lay 142 = .ok (.iaload, 1) := by decide +kernel
theorem dX8_lay_143 : decode cX8_lay 143 = .ok (.iastore, 1) := by decide +kernel
theorem dX8_lay_144 : decode cX8_lay 144 = .ok (.iinc 1 1, 3) := by decide +kernel
theorem dX8_lay_147 : decode cX8_lay 147 = .ok (.goto (-69), 3) := by decide +kernel
theorem dX8_lay_150 : decode cX8_lay 150 = .ok (.iconst 0, 1) := by decide +kernel
theorem dX8_lay_151 : decode cX8_lay 151 = .ok (.istore_n 1, 1) := by decide +kernel
theorem dX8_lay_152 : decode cX8_lay 152 = .ok (.iload_n 1, 1) := by decide +kernel
theorem dX8_lay_153 : decode cX8_lay 153 = .ok (.iconst 4, 1) := by decide +kernel
theorem dX8_lay_154 : decode cX8_lay 154 = .ok (.if_icmp .ge 79, 3) := by decide +kernel
theorem dX8_lay_157 : decode cX8_lay 157 = .ok (.aload_n 0, 1) := by decide +kernel
theorem dX8_lay_158 : decode cX8_lay 158 = .ok (.getfield 31, 3) := by decide +kernel
theorem dX8_lay_161 : decode cX8_lay 161 = .ok (.iload_n 1, 1) := by decide +kernel
theorem dX8_lay_162 : decode cX8_lay 162 = .ok (.aload_n 0, 1) := by decide +kernel
theorem dX8_lay_163 : decode cX8_lay 163 = .ok (.getfield 31, 3) := by decide +kernel
theorem dX8_lay_166 : decode cX8_lay 166 = .ok (.iconst 4, 1) := by decide +kernel
theorem dX8_lay_167 : decode cX8_lay 167 = .ok (.iload_n 1, 1) := by decide +kernel
theorem dX8_lay_168 : decode cX8_lay 168 = .ok (.iadd, 1) := by decide +kernel
theorem dX8_lay_169 : decode cX8_lay 169 = .ok (.iaload, 1) := by decide +kernel
theorem dX8_lay_170 : decode cX8_lay 170 = .ok (.iastore, 1) := by decide +kernel
theorem dX8_lay_171 : decode cX8_lay 171 = .ok (.aload_n 0, 1) := by decide +kernel
theorem dX8_lay_172 : decode cX8_lay 172 = .ok (.getfield 34, 3) := by decide +kernel
theorem dX8_lay_175 : decode cX8_lay 175 = .ok (.iload_n 1, 1) := by decide +kernel
theorem dX8_lay_176 : decode cX8_lay 176 = .ok (.aload_n 0, 1) := by decide +kernel
theorem dX8_lay_177 : decode cX8_lay 177 = .ok (.getfield 34, 3) := by decide +kernel
theorem dX8_lay_180 : decode cX8_lay 180 = .ok (.iconst 4, 1) := by decide +kernel
theorem dX8_lay_181 : decode cX8_lay 181 = .ok (.iload_n 1, 1) := by decide +kernel
theorem dX8_lay_182 : decode cX8_lay 182 = .ok (.iadd, 1) := by decide +kernel
theorem dX8_lay_183 : decode cX8_lay 183 = .ok (.iaload, 1) := by decide +kernel
theorem dX8_lay_184 : decode cX8_lay 184 = .ok (.iastore, 1) := by decide +kernel
theorem dX8_lay_185 : decode cX8_lay 185 = .ok (.aload_n 0, 1) := by decide +kernel
theorem dX8_lay_186 : decode cX8_lay 186 = .ok (.getfield 37, 3) := by decide +kernel
theorem dX8_lay_189 : decode cX8_lay 189 = .ok (.iload_n 1, 1) := by decide +kernel
theorem dX8_lay_190 : decode cX8_lay 190 = .ok (.aload_n 0, 1) := by decide +kernel
theorem dX8_lay_191 : decode cX8_lay 191 = .ok (.getfield 37, 3) := by decide +kernel
theorem dX8_lay_194 : decode cX8_lay 194 = .ok (.iconst 4, 1) := by decide +kernel
theorem dX8_lay_195 : decode cX8_lay 195 = .ok (.iload_n 1, 1) := by decide +kernel
theorem dX8_lay_196 : decode cX8_lay 196 = .ok (.iadd, 1) := by decide +kernel
theorem dX8_lay_197 : decode cX8_lay 197 = .ok (.iaload, 1) := by decide +kernel
theorem dX8_lay_198 : decode cX8_lay 198 = .ok (.iastore, 1) := by decide +kernel
theorem dX8_lay_199 : decode cX8_lay 199 = .ok (.aload_n 0, 1) := by decide +kernel
theorem dX8_lay_200 : decode cX8_lay 200 = .ok (.getfield 46, 3) := by decide +kernel
theorem dX8_lay_203 : decode cX8_lay 203 = .ok (.iload_n 1, 1) := by decide +kernel
theorem dX8_lay_204 : decode cX8_lay 204 = .ok (.aload_n 0, 1) := by decide +kernel
theorem dX8_lay_205 : decode cX8_lay 205 = .ok (.getfield 46, 3) := by decide +kernel
theorem dX8_lay_208 : decode cX8_lay 208 = .ok (.iconst 4, 1) := by decide +kernel
theorem dX8_lay_209 : decode cX8_lay 209 = .ok (.iload_n 1, 1) := by decide +kernel
theorem dX8_lay_210 : decode cX8_lay 210 = .ok (.iadd, 1) := by decide +kernel
theorem dX8_lay_211 : decode cX8_lay 211 = .ok (.iaload, 1) := by decide +kernel
theorem dX8_lay_212 : decode cX8_lay 212 = .ok (.iastore, 1) := by decide +kernel
theorem dX8_lay_213 : decode cX8_lay 213 = .ok (.aload_n 0, 1) := by decide +kernel
theorem dX8_lay_214 : decode cX8_lay 214 = .ok (.getfield 49, 3) := by decide +kernel
theorem dX8_lay_217 : decode cX8_lay 217 = .ok (.iload_n 1, 1) := by decide +kernel
theorem dX8_lay_218 : decode cX8_lay 218 = .ok (.aload_n 0, 1) := by decide +kernel
theorem dX8_lay_219 : decode cX8_lay 219 = .ok (.getfield 49, 3) := by decide +kernel
theorem dX8_lay_222 : decode cX8_lay 222 = .ok (.iconst 4, 1) := by decide +kernel
theorem dX8_lay_223 : decode cX8_lay 223 = .ok (.iload_n 1, 1) := by decide +kernel
theorem dX8_lay_224 : decode cX8_lay 224 = .ok (.iadd, 1) := by decide +kernel
theorem dX8_lay_225 : decode cX8_lay 225 = .ok (.iaload, 1) := by decide +kernel
theorem dX8_lay_226 : decode cX8_lay 226 = .ok (.iastore, 1) := by decide +kernel
theorem dX8_lay_227 : decode cX8_lay 227 = .ok (.iinc 1 1, 3) := by decide +kernel
theorem dX8_lay_230 : decode cX8_lay 230 = .ok (.goto (-78), 3) := by decide +kernel
theorem dX8_lay_233 : decode cX8_lay 233 = .ok (.aload_n 0, 1) := by decide +kernel
theorem dX8_lay_234 : decode cX8_lay 234 = .ok (.invokevirtual 102, 3) := by decide +kernel
theorem dX8_lay_237 : decode cX8_lay 237 = .ok (.aload_n 0, 1) := by decide +kernel
theorem dX8_lay_238 : decode cX8_lay 238 = .ok (.getfield 172, 3) := by decide +kernel
theorem dX8_lay_241 : decode cX8_lay 241 = .ok (.ireturn, 1) := by decide +kernel
theorem dX8_layWorlds_0 : decode cX8_layWorlds 0 = .ok (.aload_n 0, 1) := by decide +kernel
theorem dX8_layWorlds_1 : decode cX8_layWorlds 1 = .ok (.iconst 1, 1) := by decide +kernel
theorem dX8_layWorlds_2 : decode cX8_layWorlds 2 = .ok (.putfield 172, 3) := by decide +kernel
theorem dX8_layWorlds_5 : decode cX8_layWorlds 5 = .ok (.aload_n 0, 1) := by decide +kernel
theorem dX8_layWorlds_6 : decode cX8_layWorlds 6 = .ok (.getfield 55, 3) := by decide +kernel
theorem dX8_layWorlds_9 : decode cX8_layWorlds 9 = .ok (.iconst 0, 1) := by decide +kernel
theorem dX8_layWorlds_10 : decode cX8_layWorlds 10 = .ok (.iconst 0, 1) := by decide +kernel
theorem dX8_layWorlds_11 : decode cX8_layWorlds 11 = .ok (.iastore, 1) := by decide +kernel
theorem dX8_layWorlds_12 : decode cX8_layWorlds 12 = .ok (.iconst 0, 1) := by decide +kernel
theorem dX8_layWorlds_13 : decode cX8_layWorlds 13 = .ok (.istore_n 1, 1) := by decide +kernel
theorem dX8_layWorlds_14 : decode cX8_layWorlds 14 = .ok (.iload_n 1, 1) := by decide +kernel
theorem dX8_layWorlds_15 : decode cX8_layWorlds 15 = .ok (.aload_n 0, 1) := by decide +kernel
theorem dX8_layWorlds_16 : decode cX8_layWorlds 16 = .ok (.getfield 28, 3) := by decide +kernel
theorem dX8_layWorlds_19 : decode cX8_layWorlds 19 = .ok (.iconst 0, 1) := by decide +kernel
theorem dX8_layWorlds_20 : decode cX8_layWorlds 20 = .ok (.iaload, 1) := by decide +kernel
theorem dX8_layWorlds_21 : decode cX8_layWorlds 21 = .ok (.if_icmp .ge 156, 3) := by decide +kernel
theorem dX8_layWorlds_24 : decode cX8_layWorlds 24 = .ok (.iconst 0, 1) := by decide +kernel
theorem dX8_layWorlds_25 : decode cX8_layWorlds 25 = .ok (.istore_n 2, 1) := by decide +kernel
theorem dX8_layWorlds_26 : decode cX8_layWorlds 26 = .ok (.iconst 0, 1) := by decide +kernel
theorem dX8_layWorlds_27 : decode cX8_layWorlds 27 = .ok (.istore_n 3, 1) := by decide +kernel
theorem dX8_layWorlds_28 : decode cX8_layWorlds 28 = .ok (.iload_n 3, 1) := by decide +kernel
theorem dX8_layWorlds_29 : decode cX8_layWorlds 29 = .ok (.aload_n 0, 1) := by decide +kernel
theorem dX8_layWorlds_30 : decode cX8_layWorlds 30 = .ok (.getfield 172, 3) := by decide +kernel
theorem dX8_layWorlds_33 : decode cX8_layWorlds 33 = .ok (.if_icmp .ge 108, 3) := by decide +kernel
theorem dX8_layWorlds_36 : decode cX8_layWorlds 36 = .ok (.aload_n 0, 1) := by decide +kernel
theorem dX8_layWorlds_37 : decode cX8_layWorlds 37 = .ok (.getfield 55, 3) := by decide +kernel
theorem dX8_layWorlds_40 : decode cX8_layWorlds 40 = .ok (.iload_n 3, 1) := by decide +kernel
theorem dX8_layWorlds_41 : decode cX8_layWorlds 41 = .ok (.iaload, 1) := by decide +kernel
theorem dX8_layWorlds_42 : decode cX8_layWorlds 42 = .ok (.aload_n 0, 1) := by decide +kernel
theorem dX8_layWorlds_43 : decode cX8_layWorlds 43 = .ok (.getfield 55, 3) := by decide +kernel
theorem dX8_layWorlds_46 : decode cX8_layWorlds 46 = .ok (.iload_n 3, 1) := by decide +kernel
theorem dX8_layWorlds_47 : decode cX8_layWorlds 47 = .ok (.iaload, 1) := by decide +kernel
theorem dX8_layWorlds_48 : decode cX8_layWorlds 48 = .ok (.bipush 8, 2) := by decide +kernel
theorem dX8_layWorlds_50 : decode cX8_layWorlds 50 = .ok (.ishr, 1) := by decide +kernel
theorem dX8_layWorlds_51 : decode cX8_layWorlds 51 = .ok (.ior, 1) := by decide +kernel
theorem dX8_layWorlds_52 : decode cX8_layWorlds 52 = .ok (.aload_n 0, 1) := by decide +kernel
theorem dX8_layWorlds_53 : decode cX8_layWorlds 53 = .ok (.getfield 55, 3) := by decide +kernel
theorem dX8_layWorlds_56 : decode cX8_layWorlds 56 = .ok (.iload_n 3, 1) := by decide +kernel
theorem dX8_layWorlds_57 : decode cX8_layWorlds 57 = .ok (.iaload, 1) := by decide +kernel
theorem dX8_layWorlds_58 : decode cX8_layWorlds 58 = .ok (.bipush 16, 2) := by decide +kernel
theorem dX8_layWorlds_60 : decode cX8_layWorlds 60 = .ok (.ishr, 1) := by decide +kernel
theorem dX8_layWorlds_61 : decode cX8_layWorlds 61 = .ok (.ior, 1) := by decide +kernel
theorem dX8_layWorlds_62 : decode cX8_layWorlds 62 = .ok (.sipush 255, 3) := by decide +kernel
theorem dX8_layWorlds_65 : decode cX8_layWorlds 65 = .ok (.iand, 1) := by decide +kernel
theorem dX8_layWorlds_66 : decode cX8_layWorlds 66 = .ok (.istore 4, 2) := by decide +kernel
theorem dX8_layWorlds_68 : decode cX8_layWorlds 68 = .ok (.iconst 1, 1) := by decide +kernel
theorem dX8_layWorlds_69 : decode cX8_layWorlds 69 = .ok (.istore 5, 2) := by decide +kernel
theorem dX8_layWorlds_71 : decode cX8_layWorlds 71 = .ok (.iload 5, 2) := by decide +kernel
theorem dX8_layWorlds_73 : decode cX8_layWorlds 73 = .ok (.iconst 1, 1) := by decide +kernel
theorem dX8_layWorlds_74 : decode cX8_layWorlds 74 = .ok (.aload_n 0, 1) := by decide +kernel
theorem dX8_layWorlds_75 : decode cX8_layWorlds 75 = .ok (.getfield 13, 3) := by decide +kernel
theorem dX8_layWorlds_78 : decode cX8_layWorlds 78 = .ok (.iconst 0, 1) := by decide +kernel
theorem dX8_layWorlds_79 : decode cX8_layWorlds 79 = .ok (.iaload, 1) := by decide +kernel
theorem dX8_layWorlds_80 : decode cX8_layWorlds 80 = .ok (.ishl, 1) := by decide +kernel
theorem dX8_layWorlds_81 : decode cX8_layWorlds 81 = .ok (.if_icmp .ge 54, 3) := by decide +kernel
theorem dX8_layWorlds_84 : decode cX8_layWorlds 84 = .ok (.iload 5, 2) := by decide +kernel
theorem dX8_layWorlds_86 : decode cX8_layWorlds 86 = .ok (.invokestatic 159, 3) := by decide +kernel
theorem dX8_layWorlds_89 : decode cX8_layWorlds 89 = .ok (.aload_n 0, 1) := by decide +kernel
theorem dX8_layWorlds_90 : decode cX8_layWorlds 90 = .ok (.getfield 37, 3) := by decide +kernel
theorem dX8_layWorlds_93 : decode cX8_layWorlds 93 = .ok (.iload_n 1, 1) := by decide +kernel
theorem dX8_layWorlds_94 : decode cX8_layWorlds 94 = .ok (.iaload, 1) := by decide +kernel
theorem dX8_layWorlds_95 : decode cX8_layWorlds 95 = .ok (.if_icmp .ne 34, 3) := by decide +kernel
theorem dX8_layWorlds_98 : decode cX8_layWorlds 98 = .ok (.iload 5, 2) := by decide +kernel
theorem dX8_layWorlds_100 : decode cX8_layWorlds 100 = .ok (.iload 4, 2) := by decide +kernel
theorem dX8_layWorlds_102 : decode cX8_layWorlds 102 = .ok (.iand, 1) := by decide +kernel
theorem dX8_layWorlds_103 : decode cX8_layWorlds 103 = .ok (.ifCond .ne 26, 3) := by decide +kernel
theorem dX8_layWorlds_106 : decode cX8_layWorlds 106 = .ok (.aload_n 0, 1) := by decide +kernel
theorem dX8_layWorlds_107 : decode cX8_layWorlds 107 = .ok (.getfield 70, 3) := by decide +kernel
theorem dX8_layWorlds_110 : decode cX8_layWorlds 110 = .ok (.iload_n 2, 1) := by decide +kernel
theorem dX8_layWorlds_111 : decode cX8_layWorlds 111 = .ok (.aload_n 0, 1) := by decide +kernel
theorem dX8_layWorlds_112 : decode cX8_layWorlds 112 = .ok (.getfield 55, 3) := by decide +kernel
theorem dX8_layWorlds_115 : decode cX8_layWorlds 115 = .ok (.iload_n 3, 1) := by decide +kernel
theorem dX8_layWorlds_116 : decode cX8_layWorlds 116 = .ok (.iaload, 1) := by decide +kernel
theorem dX8_layWorlds_117 : decode cX8_layWorlds 117 = .ok (.iload 5, 2) := by decide +kernel
theorem dX8_layWorlds_119 : decode cX8_layWorlds 119 = .ok (.bipush 8, 2) := by decide +kernel
theorem dX8_layWorlds_121 : decode cX8_layWorlds 121 = .ok (.iload_n 1, 1) := by decide +kernel
theorem dX8_layWorlds_122 : decode cX8_layWorlds 122 = .ok (.imul, 1) := by decide +kernel
theorem dX8_layWorlds_123 : decode cX8_layWorlds 123 = .ok (.ishl, 1) := by decide +kernel
theorem dX8_layWorlds_124 : decode cX8_layWorlds 124 = .ok (.ior, 1) := by decide +kernel
theorem dX8_layWorlds_125 : decode cX8_layWorlds 125 = .ok (.iastore, 1) := by decide +kernel
theorem dX8_layWorlds_126 : decode cX8_layWorlds 126 = .ok (.iinc 2 1, 3) := by decide +kernel
theorem dX8_layWorlds_129 : decode cX8_layWorlds 129 = .ok (.iinc 5 1, 3) := by decide +kernel
theorem dX8_layWorlds_132 : decode cX8_layWorlds 132 = .ok (.goto (-61), 3) := by decide +kernel
theorem dX8_layWorlds_135 : decode cX8_layWorlds 135 = .ok (.iinc 3 1, 3) := by decide +kernel
theorem dX8_layWorlds_138 : decode cX8_layWorlds 138 = .ok (.goto (-110), 3) := by decide +kernel
theorem dX8_layWorlds_141 : decode cX8_layWorlds 141 = .ok (.aload_n 0, 1) := by decide +kernel
theorem dX8_layWorlds_142 : decode cX8_layWorlds 142 = .ok (.iload_n 2, 1) := by decide +kernel
theorem dX8_layWorlds_143 : decode cX8_layWorlds 143 = .ok (.putfield 172, 3) := by decide +kernel
theorem dX8_layWorlds_146 : decode cX8_layWorlds 146 = .ok (.iconst 0, 1) := by decide +kernel
theorem dX8_layWorlds_147 : decode cX8_layWorlds 147 = .ok (.istore_n 3, 1) := by decide +kernel
theorem dX8_layWorlds_148 : decode cX8_layWorlds 148 = .ok (.iload_n 3, 1) := by decide +kernel
theorem dX8_layWorlds_149 : decode cX8_layWorlds 149 = .ok (.iload_n 2, 1) := by decide +kernel
theorem dX8_layWorlds_150 : decode cX8_layWorlds 150 = .ok (.if_icmp .ge 21, 3) := by decide +kernel
theorem dX8_layWorlds_153 : decode cX8_layWorlds 153 = .ok (.aload_n 0, 1) := by decide +kernel
theorem dX8_layWorlds_154 : decode cX8_layWorlds 154 = .ok (.getfield 55, 3) := by decide +kernel
theorem dX8_layWorlds_157 : decode cX8_layWorlds 157 = .ok (.iload_n 3, 1) := by decide +kernel
theorem dX8_layWorlds_158 : decode cX8_layWorlds 158 = .ok (.aload_n 0, 1) := by decide +kernel
theorem dX8_layWorlds_159 : decode cX8_layWorlds 159 = .ok (.getfield 70, 3) := by decide +kernel
theorem dX8_layWorlds_162 : decode cX8_layWorlds 162 = .ok (.iload_n 3, 1) := by decide +kernel
theorem dX8_layWorlds_163 : decode cX8_layWorlds 163 = .ok (.iaload, 1) := by decide +kernel
theorem dX8_layWorlds_164 : decode cX8_layWorlds 164 = .ok (.iastore, 1) := by decide +kernel
theorem dX8_layWorlds_165 : decode cX8_layWorlds 165 = .ok (.iinc 3 1, 3) := by decide +kernel
theorem dX8_layWorlds_168 : decode cX8_layWorlds 168 = .ok (.goto (-20), 3) := by decide +kernel
theorem dX8_layWorlds_171 : decode cX8_layWorlds 171 = .ok (.iinc 1 1, 3) := by decide +kernel
theorem dX8_layWorlds_174 : decode cX8_layWorlds 174 = .ok (.goto (-160), 3) := by decide +kernel
theorem dX8_layWorlds_177 : decode cX8_layWorlds 177 = .ok (.iconst 0, 1) := by decide +kernel
theorem dX8_layWorlds_178 : decode cX8_layWorlds 178 = .ok (.istore_n 1, 1) := by decide +kernel
theorem dX8_layWorlds_179 : decode cX8_layWorlds 179 = .ok (.iconst 0, 1) := by decide +kernel
theorem dX8_layWorlds_180 : decode cX8_layWorlds 180 = .ok (.istore_n 2, 1) := by decide +kernel
theorem dX8_layWorlds_181 : decode cX8_layWorlds 181 = .ok (.iload_n 2, 1) := by decide +kernel
theorem dX8_layWorlds_182 : decode cX8_layWorlds 182 = .ok (.aload_n 0, 1) := by decide +kernel
theorem dX8_layWorlds_183 : decode cX8_layWorlds 183 = .ok (.getfield 172, 3) := by decide +kernel
theorem dX8_layWorlds_186 : decode cX8_layWorlds 186 = .ok (.if_icmp .ge 43, 3) := by decide +kernel
theorem dX8_layWorlds_189 : decode cX8_layWorlds 189 = .ok (.aload_n 0, 1) := by decide +kernel
theorem dX8_layWorlds_190 : decode cX8_layWorlds 190 = .ok (.getfield 55, 3) := by decide +kernel
theorem dX8_layWorlds_193 : decode cX8_layWorlds 193 = .ok (.iload_n 1, 1) := by decide +kernel
theorem dX8_layWorlds_194 : decode cX8_layWorlds 194 = .ok (.aload_n 0, 1) := by decide +kernel
theorem dX8_layWorlds_195 : decode cX8_layWorlds 195 = .ok (.getfield 55, 3) := by decide +kernel
theorem dX8_layWorlds_198 : decode cX8_layWorlds 198 = .ok (.iload_n 2, 1) := by decide +kernel
theorem dX8_layWorlds_199 : decode cX8_layWorlds 199 = .ok (.iaload, 1) := by decide +kernel
theorem dX8_layWorlds_200 : decode cX8_layWorlds 200 = .ok (.iastore, 1) := by decide +kernel
theorem dX8_layWorlds_201 : decode cX8_layWorlds 201 = .ok (.iload_n 1, 1) := by decide +kernel
theorem dX8_layWorlds_202 : decode cX8_layWorlds 202 = .ok (.aload_n 0, 1) := by decide +kernel
theorem dX8_layWorlds_203 : decode cX8_layWorlds 203 = .ok (.iconst 0, 1) := by decide +kernel
theorem dX8_layWorlds_204 : decode cX8_layWorlds 204 = .ok (.aload_n 0, 1) := by decide +kernel
theorem dX8_layWorlds_205 : decode cX8_layWorlds 205 = .ok (.getfield 55, 3) := by decide +kernel
theorem dX8_layWorlds_208 : decode cX8_layWorlds 208 = .ok (.iload_n 2, 1) := by decide +kernel
theorem dX8_layWorlds_209 : decode cX8_layWorlds 209 = .ok (.iaload, 1) := by decide +kernel
theorem dX8_layWorlds_210 : decode cX8_layWorlds 210 = .ok (.invokevirtual 166, 3) := by decide +kernel
theorem dX8_layWorlds_213 : decode cX8_layWorlds 213 = .ok (.ifCond .eq 7, 3) := by decide +kernel
theorem dX8_layWorlds_216 : decode cX8_layWorlds 216 = .ok (.iconst 1, 1) := by decide +kernel
theorem dX8_layWorlds_217 : decode cX8_layWorlds 217 = .ok (.goto 4, 3) := by decide +kernel
theorem dX8_layWorlds_220 : decode cX8_layWorlds 220 = .ok (.iconst 0, 1) := by decide +kernel
theorem dX8_layWorlds_221 : decode cX8_layWorlds 221 = .ok (.iadd, 1) := by decide +kernel
theorem dX8_layWorlds_222 : decode cX8_layWorlds 222 = .ok (.istore_n 1, 1) := by decide +kernel
theorem dX8_layWorlds_223 : decode cX8_layWorlds 223 = .ok (.iinc 2 1, 3) := by decide +kernel
theorem dX8_layWorlds_226 : decode cX8_layWorlds 226 = .ok (.goto (-45), 3) := by decide +kernel
theorem dX8_layWorlds_229 : decode cX8_layWorlds 229 = .ok (.aload_n 0, 1) := by decide +kernel
theorem dX8_layWorlds_230 : decode cX8_layWorlds 230 = .ok (.iload_n 1, 1) := by decide +kernel
theorem dX8_layWorlds_231 : decode cX8_layWorlds 231 = .ok (.putfield 172, 3) := by decide +kernel
theorem dX8_layWorlds_234 : decode cX8_layWorlds 234 = .ok (.return_, 1) := by decide +kernel
theorem dX8_begin_0 : decode cX8_begin 0 = .ok (.iconst 0, 1) := by decide +kernel
theorem dX8_begin_1 : decode cX8_begin 1 = .ok (.istore_n 1, 1) := by decide +kernel
theorem dX8_begin_2 : decode cX8_begin 2 = .ok (.iload_n 1, 1) := by decide +kernel
theorem dX8_begin_3 : decode cX8_begin 3 = .ok (.bipush 21, 2) := by decide +kernel
theorem dX8_begin_5 : decode cX8_begin 5 = .ok (.if_icmp .ge 30, 3) := by decide +kernel
theorem dX8_begin_8 : decode cX8_begin 8 = .ok (.aload_n 0, 1) := by decide +kernel
theorem dX8_begin_9 : decode cX8_begin 9 = .ok (.getfield 58, 3) := by decide +kernel
theorem dX8_begin_12 : decode cX8_begin 12 = .ok (.iload_n 1, 1) := by decide +kernel
theorem dX8_begin_13 : decode cX8_begin 13 = .ok (.iload_n 1, 1) := by decide +kernel
theorem dX8_begin_14 : decode cX8_begin 14 = .ok (.iconst 4, 1) := by decide +kernel
theorem dX8_begin_15 : decode cX8_begin 15 = .ok (.if_icmp .ge 12, 3) := by decide +kernel
theorem dX8_begin_18 : decode cX8_begin 18 = .ok (.aload_n 0, 1) := by decide +kernel
theorem dX8_begin_19 : decode cX8_begin 19 = .ok (.getfield 52, 3) := by decide +kernel
theorem dX8_begin_22 : decode cX8_begin 22 = .ok (.iload_n 1, 1) := by decide +kernel
theorem dX8_begin_23 : decode cX8_begin 23 = .ok (.iaload, 1) := by decide +kernel
theorem dX8_begin_24 : decode cX8_begin 24 = .ok (.goto 4, 3) := by decide +kernel
theorem dX8_begin_27 : decode cX8_begin 27 = .ok (.iconst 0, 1) := by decide +kernel
theorem dX8_begin_28 : decode cX8_begin 28 = .ok (.iastore, 1) := by decide +kernel
theorem dX8_begin_29 : decode cX8_begin 29 = .ok (.iinc 1 1, 3) := by decide +kernel
theorem dX8_begin_32 : decode cX8_begin 32 = .ok (.goto (-30), 3) := by decide +kernel
theorem dX8_begin_35 : decode cX8_begin 35 = .ok (.aload_n 0, 1) := by decide +kernel
theorem dX8_begin_36 : decode cX8_begin 36 = .ok (.iconst 0, 1) := by decide +kernel
theorem dX8_begin_37 : decode cX8_begin 37 = .ok (.putfield 175, 3) := by decide +kernel
theorem dX8_begin_40 : decode cX8_begin 40 = .ok (.aload_n 0, 1) := by decide +kernel
theorem dX8_begin_41 : decode cX8_begin 41 = .ok (.iconst 0, 1) := by decide +kernel
theorem dX8_begin_42 : decode cX8_begin 42 = .ok (.putfield 178, 3) := by decide +kernel
theorem dX8_begin_45 : decode cX8_begin 45 = .ok (.aload_n 0, 1) := by decide +kernel
theorem dX8_begin_46 : decode cX8_begin 46 = .ok (.invokevirtual 181, 3) := by decide +kernel
theorem dX8_begin_49 : decode cX8_begin 49 = .ok (.return_, 1) := by decide +kernel
theorem dX8_isThing_0 : decode cX8_isThing 0 = .ok (.iload_n 1, 1) := by decide +kernel
theorem dX8_isThing_1 : decode cX8_isThing 1 = .ok (.i2l, 1) := by decide +kernel
theorem dX8_isThing_2 : decode cX8_isThing 2 = .ok (.lconst 0, 1) := by decide +kernel
theorem dX8_isThing_3 : decode cX8_isThing 3 = .ok (.aload_n 0, 1) := by decide +kernel
theorem dX8_isThing_4 : decode cX8_isThing 4 = .ok (.getfield 13, 3) := by decide +kernel
theorem dX8_isThing_7 : decode cX8_isThing 7 = .ok (.iconst 0, 1) := by decide +kernel
theorem dX8_isThing_8 : decode cX8_isThing 8 = .ok (.iaload, 1) := by decide +kernel
theorem dX8_isThing_9 : decode cX8_isThing 9 = .ok (.iconst 1, 1) := by decide +kernel
theorem dX8_isThing_10 : decode cX8_isThing 10 = .ok (.isub, 1) := by decide +kernel
theorem dX8_isThing_11 : decode cX8_isThing 11 = .ok (.i2l, 1) := by decide +kernel
theorem dX8_isThing_12 : decode cX8_isThing 12 = .ok (.invokestatic 109, 3) := by decide +kernel
theorem dX8_isThing_15 : decode cX8_isThing 15 = .ok (.ireturn, 1) := by decide +kernel
theorem dX8_isParcel_0 : decode cX8_isParcel 0 = .ok (.iload_n 1, 1) := by decide +kernel
theorem dX8_isParcel_1 : decode cX8_isParcel 1 = .ok (.i2l, 1) := by decide +kernel
theorem dX8_isParcel_2 : decode cX8_isParcel 2 = .ok (.lconst 0, 1) := by decide +kernel
theorem dX8_isParcel_3 : decode cX8_isParcel 3 = .ok (.aload_n 0, 1) := by decide +kernel
theorem dX8_isParcel_4 : decode cX8_isParcel 4 = .ok (.getfield 28, 3) := by decide +kernel
theorem dX8_isParcel_7 : decode cX8_isParcel 7 = .ok (.iconst 0, 1) := by decide +kernel
theorem dX8_isParcel_8 : decode cX8_isParcel 8 = .ok (.iaload, 1) := by decide +kernel
theorem dX8_isParcel_9 : decode cX8_isParcel 9 = .ok (.iconst 1, 1) := by decide +kernel
theorem dX8_isParcel_10 : decode cX8_isParcel 10 = .ok (.isub, 1) := by decide +kernel
theorem dX8_isParcel_11 : decode cX8_isParcel 11 = .ok (.i2l, 1) := by decide +kernel
theorem dX8_isParcel_12 : decode cX8_isParcel 12 = .ok (.invokestatic 109, 3) := by decide +kernel
theorem dX8_isParcel_15 : decode cX8_isParcel 15 = .ok (.ireturn, 1) := by decide +kernel
theorem dX8_thing_0 : decode cX8_thing 0 = .ok (.aload_n 0, 1) := by decide +kernel
theorem dX8_thing_1 : decode cX8_thing 1 = .ok (.iload_n 1, 1) := by decide +kernel
theorem dX8_thing_2 : decode cX8_thing 2 = .ok (.invokevirtual 184, 3) := by decide +kernel
theorem dX8_thing_5 : decode cX8_thing 5 = .ok (.ifCond .eq 15, 3) := by decide +kernel
theorem dX8_thing_8 : decode cX8_thing 8 = .ok (.iload_n 2, 1) := by decide +kernel
theorem dX8_thing_9 : decode cX8_thing 9 = .ok (.i2l, 1) := by decide +kernel
theorem dX8_thing_10 : decode cX8_thing 10 = .ok (.lconst 0, 1) := by decide +kernel
theorem dX8_thing_11 : decode cX8_thing 11 = .ok (.ldc2_w 187, 3) := by decide +kernel
theorem dX8_thing_14 : decode cX8_thing 14 = .ok (.invokestatic 109, 3) := by decide +kernel
theorem dX8_thing_17 : decode cX8_thing 17 = .ok (.ifCond .ne 5, 3) := by decide +kernel
theorem dX8_thing_20 : decode cX8_thing 20 = .ok (.iconst (-1), 1) := by decide +kernel
theorem dX8_thing_21 : decode cX8_thing 21 = .ok (.ireturn, 1) := by decide +kernel
theorem dX8_thing_22 : decode cX8_thing 22 = .ok (.bipush (-4), 2) := by decide +kernel
theorem dX8_thing_24 : decode cX8_thing 24 = .ok (.istore_n 3, 1) := by decide +kernel
theorem dX8_thing_25 : decode cX8_thing 25 = .ok (.iconst 0, 1) := by decide +kernel
theorem dX8_thing_26 : decode cX8_thing 26 = .ok (.istore 4, 2) := by decide +kernel
theorem dX8_thing_28 : decode cX8_thing 28 = .ok (.iload 4, 2) := by decide +kernel
theorem dX8_thing_30 : decode cX8_thing 30 = .ok (.aload_n 0, 1) := by decide +kernel
theorem dX8_thing_31 : decode cX8_thing 31 = .ok (.getfield 28, 3) := by decide +kernel
theorem dX8_thing_34 : decode cX8_thing 34 = .ok (.iconst 0, 1) := by decide +kernel
theorem dX8_thing_35 : decode cX8_thing 35 = .ok (.iaload, 1) := by decide +kernel
theorem dX8_thing_36 : decode cX8_thing 36 = .ok (.if_icmp .ge 30, 3) := by decide +kernel
theorem dX8_thing_39 : decode cX8_thing 39 = .ok (.aload_n 0, 1) := by decide +kernel
theorem dX8_thing_40 : decode cX8_thing 40 = .ok (.getfield 58, 3) := by decide +kernel
theorem dX8_thing_43 : decode cX8_thing 43 = .ok (.iload 4, 2) := by decide +kernel
theorem dX8_thing_45 : decode cX8_thing 45 = .ok (.iaload, 1) := by decide +kernel
theorem dX8_thing_46 : decode cX8_thing 46 = .ok (.iload_n 1, 1) := by decide +kernel
theorem dX8_thing_47 : decode cX8_thing 47 = .ok (.invokestatic 151, 3) := by decide +kernel
theorem dX8_thing_50 : decode cX8_thing 50 = .ok (.ifCond .eq 8, 3) := by decide +kernel
theorem dX8_thing_53 : decode cX8_thing 53 = .ok (.iload 4, 2) := by decide +kernel
theorem dX8_thing_55 : decode cX8_thing 55 = .ok (.goto 4, 3) := by decide +kernel
theorem dX8_thing_58 : decode cX8_thing 58 = .ok (.iload_n 3, 1) := by decide +kernel
theorem dX8_thing_59 : decode cX8_thing 59 = .ok (.istore_n 3, 1) := by decide +kernel
theorem dX8_thing_60 : decode cX8_thing 60 = .ok (.iinc 4 1, 3) := by decide +kernel
theorem dX8_thing_63 : decode cX8_thing 63 = .ok (.goto (-35), 3) := by decide +kernel
theorem dX8_thing_66 : decode cX8_thing 66 = .ok (.iload_n 2, 1) := by decide +kernel
theorem dX8_thing_67 : decode cX8_thing 67 = .ok (.ifCond .ne 12, 3) := by decide +kernel
theorem dX8_thing_70 : decode cX8_thing 70 = .ok (.aload_n 0, 1) := by decide +kernel
theorem dX8_thing_71 : decode cX8_thing 71 = .ok (.getfield 16, 3) := by decide +kernel
theorem dX8_thing_74 : decode cX8_thing 74 = .ok (.iload_n 1, 1) := by decide +kernel
theorem dX8_thing_75 : decode cX8_thing 75 = .ok (.iaload, 1) := by decide +kernel
theorem dX8_thing_76 : decode cX8_thing 76 = .ok (.goto 46, 3) := by decide +kernel
theorem dX8_thing_79 : decode cX8_thing 79 = .ok (.iload_n 2, 1) := by decide +kernel
theorem dX8_thing_80 : decode cX8_thing 80 = .ok (.iconst 1, 1) := by decide +kernel
theorem dX8_thing_81 : decode cX8_thing 81 = .ok (.if_icmp .ne 12, 3) := by decide +kernel
theorem dX8_thing_84 : decode cX8_thing 84 = .ok (.aload_n 0, 1) := by decide +kernel
theorem dX8_thing_85 : decode cX8_thing 85 = .ok (.getfield 19, 3) := by decide +kernel
theorem dX8_thing_88 : decode cX8_thing 88 = .ok (.iload_n 1, 1) := by decide +kernel
theorem dX8_thing_89 : decode cX8_thing 89 = .ok (.iaload, 1) := by decide +kernel
theorem dX8_thing_90 : decode cX8_thing 90 = .ok (.goto 32, 3) := by decide +kernel
theorem dX8_thing_93 : decode cX8_thing 93 = .ok (.iload_n 2, 1) := by decide +kernel
theorem dX8_thing_94 : decode cX8_thing 94 = .ok (.iconst 2, 1) := by decide +kernel
theorem dX8_thing_95 : decode cX8_thing 95 = .ok (.if_icmp .ne 12, 3) := by decide +kernel
theorem dX8_thing_98 : decode cX8_thing 98 = .ok (.aload_n 0, 1) := by decide +kernel
theorem dX8_thing_99 : decode cX8_thing 99 = .ok (.getfield 22, 3) := by decide +kernel
theorem dX8_thing_102 : decode cX8_thing 102 = .ok (.iload_n 1, 1) := by decide +kernel
theorem dX8_thing_103 : decode cX8_thing 103 = .ok (.iaload, 1) := by decide +kernel
theorem dX8_thing_104 : decode cX8_thing 104 = .ok (.goto 18, 3) := by decide +kernel
theorem dX8_thing_107 : decode cX8_thing 107 = .ok (.iload_n 2, 1) := by decide +kernel
theorem dX8_thing_108 : decode cX8_thing 108 = .ok (.iconst 3, 1) := by decide +kernel
theorem dX8_thing_109 : decode cX8_thing 109 = .ok (.if_icmp .ne 12, 3) := by decide +kernel
theorem dX8_thing_112 : decode cX8_thing 112 = .ok (.aload_n 0, 1) := by decide +kernel
theorem dX8_thing_113 : decode cX8_thing 113 = .ok (.getfield 25, 3) := by decide +kernel
theorem dX8_thing_116 : decode cX8_thing 116 = .ok (.iload_n 1, 1) := by decide +kernel
theorem dX8_thing_117 : decode cX8_thing 117 = .ok (.iaload, 1) := by decide +kernel
theorem dX8_thing_118 : decode cX8_thing 118 = .ok (.goto 4, 3) := by decide +kernel
theorem dX8_thing_121 : decode cX8_thing 121 = .ok (.iload_n 3, 1) := by decide +kernel
theorem dX8_thing_122 : decode cX8_thing 122 = .ok (.ireturn, 1) := by decide +kernel
theorem dX8_parcel_0 : decode cX8_parcel 0 = .ok (.aload_n 0, 1) := by decide +kernel
theorem dX8_parcel_1 : decode cX8_parcel 1 = .ok (.iload_n 1, 1) := by decide +kernel
theorem dX8_parcel_2 : decode cX8_parcel 2 = .ok (.invokevirtual 189, 3) := by decide +kernel
theorem dX8_parcel_5 : decode cX8_parcel 5 = .ok (.ifCond .eq 15, 3) := by decide +kernel
theorem dX8_parcel_8 : decode cX8_parcel 8 = .ok (.iload_n 2, 1) := by decide +kernel
theorem dX8_parcel_9 : decode cX8_parcel 9 = .ok (.i2l, 1) := by decide +kernel
theorem dX8_parcel_10 : decode cX8_parcel 10 = .ok (.lconst 0, 1) := by decide +kernel
theorem dX8_parcel_11 : decode cX8_parcel 11 = .ok (.ldc2_w 187, 3) := by decide +kernel
theorem dX8_parcel_14 : decode cX8_parcel 14 = .ok (.invokestatic 109, 3) := by decide +kernel
theorem dX8_parcel_17 : decode cX8_parcel 17 = .ok (.ifCond .ne 5, 3) := by decide +kernel
theorem dX8_parcel_20 : decode cX8_parcel 20 = .ok (.iconst (-1), 1) := by decide +kernel
theorem dX8_parcel_21 : decode cX8_parcel 21 = .ok (.ireturn, 1) := by decide +kernel
theorem dX8_parcel_22 : decode cX8_parcel 22 = .ok (.iload_n 2, 1) := by decide +kernel
theorem dX8_parcel_23 : decode cX8_parcel 23 = .ok (.ifCond .ne 12, 3) := by decide +kernel
theorem dX8_parcel_26 : decode cX8_parcel 26 = .ok (.aload_n 0, 1) := by decide +kernel
theorem dX8_parcel_27 : decode cX8_parcel 27 = .ok (.getfield 31, 3) := by decide +kernel
theorem dX8_parcel_30 : decode cX8_parcel 30 = .ok (.iload_n 1, 1) := by decide +kernel
theorem dX8_parcel_31 : decode cX8_parcel 31 = .ok (.iaload, 1) := by decide +kernel
theorem dX8_parcel_32 : decode cX8_parcel 32 = .ok (.goto 53, 3) := by decide +kernel
theorem dX8_parcel_35 : decode cX8_parcel 35 = .ok (.iload_n 2, 1) := by decide +kernel
theorem dX8_parcel_36 : decode cX8_parcel 36 = .ok (.iconst 1, 1) := by decide +kernel
theorem dX8_parcel_37 : decode cX8_parcel 37 = .ok (.if_icmp .ne 12, 3) := by decide +kernel
theorem dX8_parcel_40 : decode cX8_parcel 40 = .ok (.aload_n 0, 1) := by decide +kernel
theorem dX8_parcel_41 : decode cX8_parcel 41 = .ok (.getfield 34, 3) := by decide +kernel
theorem dX8_parcel_44 : decode cX8_parcel 44 = .ok (.iload_n 1, 1) := by decide +kernel
theorem dX8_parcel_45 : decode cX8_parcel 45 = .ok (.iaload, 1) := by decide +kernel
theorem dX8_parcel_46 : decode cX8_parcel 46 = .ok (.goto 39, 3) := by decide +kernel
theorem dX8_parcel_49 : decode cX8_parcel 49 = .ok (.iload_n 2, 1) := by decide +kernel
theorem dX8_parcel_50 : decode cX8_parcel 50 = .ok (.iconst 2, 1) := by decide +kernel
theorem dX8_parcel_51 : decode cX8_parcel 51 = .ok (.if_icmp .ne 12, 3) := by decide +kernel
theorem dX8_parcel_54 : decode cX8_parcel 54 = .ok (.aload_n 0, 1) := by decide +kernel
theorem dX8_parcel_55 : decode cX8_parcel 55 = .ok (.getfield 37, 3) := by decide +kernel
theorem dX8_parcel_58 : decode cX8_parcel 58 = .ok (.iload_n 1, 1) := by decide +kernel
theorem dX8_parcel_59 : decode cX8_parcel 59 = .ok (.iaload, 1) := by decide +kernel
theorem dX8_parcel_60 : decode cX8_parcel 60 = .ok (.goto 25, 3) := by decide +kernel
theorem dX8_parcel_63 : decode cX8_parcel 63 = .ok (.iload_n 2, 1) := by decide +kernel
theorem dX8_parcel_64 : decode cX8_parcel 64 = .ok (.iconst 3, 1) := by decide +kernel
theorem dX8_parcel_65 : decode cX8_parcel 65 = .ok (.if_icmp .ne 12, 3) := by decide +kernel
theorem dX8_parcel_68 : decode cX8_parcel 68 = .ok (.aload_n 0, 1) := by decide +kernel
theorem dX8_parcel_69 : decode cX8_parcel 69 = .ok (.getfield 58, 3) := by decide +kernel
theorem dX8_parcel_72 : decode cX8_parcel 72 = .ok (.iload_n 1, 1) := by decide +kernel
theorem dX8_parcel_73 : decode cX8_parcel 73 = .ok (.iaload, 1) := by decide +kernel
theorem dX8_parcel_74 : decode cX8_parcel 74 = .ok (.goto 11, 3) := by decide +kernel
theorem dX8_parcel_77 : decode cX8_parcel 77 = .ok (.aload_n 0, 1) := by decide +kernel
theorem dX8_parcel_78 : decode cX8_parcel 78 = .ok (.getfield 58, 3) := by decide +kernel
theorem dX8_parcel_81 : decode cX8_parcel 81 = .ok (.iconst 4, 1) := by decide +kernel
theorem dX8_parcel_82 : decode cX8_parcel 82 = .ok (.iload_n 1, 1) := by decide +kernel
theorem dX8_parcel_83 : decode cX8_parcel 83 = .ok (.iadd, 1) := by decide +kernel
theorem dX8_parcel_84 : decode cX8_parcel 84 = .ok (.iaload, 1) := by decide +kernel
theorem dX8_parcel_85 : decode cX8_parcel 85 = .ok (.ireturn, 1) := by decide +kernel
theorem dX8_setIn_0 : decode cX8_setIn 0 = .ok (.iload_n 0, 1) := by decide +kernel
theorem dX8_setIn_1 : decode cX8_setIn 1 = .ok (.bipush 8, 2) := by decide +kernel
theorem dX8_setIn_3 : decode cX8_setIn 3 = .ok (.iload_n 1, 1) := by decide +kernel
theorem dX8_setIn_4 : decode cX8_setIn 4 = .ok (.imul, 1) := by decide +kernel
theorem dX8_setIn_5 : decode cX8_setIn 5 = .ok (.ishr, 1) := by decide +kernel
theorem dX8_setIn_6 : decode cX8_setIn 6 = .ok (.sipush 255, 3) := by decide +kernel
theorem dX8_setIn_9 : decode cX8_setIn 9 = .ok (.iand, 1) := by decide +kernel
theorem dX8_setIn_10 : decode cX8_setIn 10 = .ok (.ireturn, 1) := by decide +kernel
theorem dX8_world_0 : decode cX8_world 0 = .ok (.iload_n 1, 1) := by decide +kernel
theorem dX8_world_1 : decode cX8_world 1 = .ok (.ifCond .lt 11, 3) := by decide +kernel
theorem dX8_world_4 : decode cX8_world 4 = .ok (.aload_n 0, 1) := by decide +kernel
theorem dX8_world_5 : decode cX8_world 5 = .ok (.iload_n 2, 1) := by decide +kernel
theorem dX8_world_6 : decode cX8_world 6 = .ok (.invokevirtual 189, 3) := by decide +kernel
theorem dX8_world_9 : decode cX8_world 9 = .ok (.ifCond .ne 7, 3) := by decide +kernel
theorem dX8_world_12 : decode cX8_world 12 = .ok (.iconst (-1), 1) := by decide +kernel
theorem dX8_world_13 : decode cX8_world 13 = .ok (.goto 26, 3) := by decide +kernel
theorem dX8_world_16 : decode cX8_world 16 = .ok (.iload_n 1, 1) := by decide +kernel
theorem dX8_world_17 : decode cX8_world 17 = .ok (.aload_n 0, 1) := by decide +kernel
theorem dX8_world_18 : decode cX8_world 18 = .ok (.getfield 172, 3) := by decide +kernel
theorem dX8_world_21 : decode cX8_world 21 = .ok (.if_icmp .ge 16, 3) := by decide +kernel
theorem dX8_world_24 : decode cX8_world 24 = .ok (.aload_n 0, 1) := by decide +kernel
theorem dX8_world_25 : decode cX8_world 25 = .ok (.getfield 55, 3) := by decide +kernel
theorem dX8_world_28 : decode cX8_world 28 = .ok (.iload_n 1, 1) := by decide +kernel
theorem dX8_world_29 : decode cX8_world 29 = .ok (.iaload, 1) := by decide +kernel
theorem dX8_world_30 : decode cX8_world 30 = .ok (.iload_n 2, 1) := by decide +kernel
theorem dX8_world_31 : decode cX8_world 31 = .ok (.invokestatic 192, 3) := by decide +kernel
theorem dX8_world_34 : decode cX8_world 34 = .ok (.goto 5, 3) := by decide +kernel
theorem dX8_world_37 : decode cX8_world 37 = .ok (.bipush (-4), 2) := by decide +kernel
theorem dX8_world_39 : decode cX8_world 39 = .ok (.ireturn, 1) := by decide +kernel
theorem dX8_weightOf_0 : decode cX8_weightOf 0 = .ok (.aload_n 0, 1) := by decide +kernel
theorem dX8_weightOf_1 : decode cX8_weightOf 1 = .ok (.getfield 31, 3) := by decide +kernel
theorem dX8_weightOf_4 : decode cX8_weightOf 4 = .ok (.iload_n 1, 1) := by decide +kernel
theorem dX8_weightOf_5 : decode cX8_weightOf 5 = .ok (.iaload, 1) := by decide +kernel
theorem dX8_weightOf_6 : decode cX8_weightOf 6 = .ok (.istore_n 3, 1) := by decide +kernel
theorem dX8_weightOf_7 : decode cX8_weightOf 7 = .ok (.iconst 0, 1) := by decide +kernel
theorem dX8_weightOf_8 : decode cX8_weightOf 8 = .ok (.istore 4, 2) := by decide +kernel
theorem dX8_weightOf_10 : decode cX8_weightOf 10 = .ok (.iload 4, 2) := by decide +kernel
theorem dX8_weightOf_12 : decode cX8_weightOf 12 = .ok (.aload_n 0, 1) := by decide +kernel
theorem dX8_weightOf_13 : decode cX8_weightOf 13 = .ok (.getfield 13, 3) := by decide +kernel
theorem dX8_weightOf_16 : decode cX8_weightOf 16 = .ok (.iconst 0, 1) := by decide +kernel
theorem dX8_weightOf_17 : decode cX8_weightOf 17 = .ok (.iaload, 1) := by decide +kernel
theorem dX8_weightOf_18 : decode cX8_weightOf 18 = .ok (.if_icmp .ge 32, 3) := by decide +kernel
theorem dX8_weightOf_21 : decode cX8_weightOf 21 = .ok (.iload_n 3, 1) := by decide +kernel
theorem dX8_weightOf_22 : decode cX8_weightOf 22 = .ok (.iload_n 2, 1) := by decide +kernel
theorem dX8_weightOf_23 : decode cX8_weightOf 23 = .ok (.iload 4, 2) := by decide +kernel
theorem dX8_weightOf_25 : decode cX8_weightOf 25 = .ok (.invokestatic 151, 3) := by decide +kernel
theorem dX8_weightOf_28 : decode cX8_weightOf 28 = .ok (.ifCond .eq 13, 3) := by decide +kernel
theorem dX8_weightOf_31 : decode cX8_weightOf 31 = .ok (.aload_n 0, 1) := by decide +kernel
theorem dX8_weightOf_32 : decode cX8_weightOf 32 = .ok (.getfield 16, 3) := by decide +kernel
theorem dX8_weightOf_35 : decode cX8_weightOf 35 = .ok (.iload 4, 2) := by decide +kernel
theorem dX8_weightOf_37 : decode cX8_weightOf 37 = .ok (.iaload, 1) := by decide +kernel
theorem dX8_weightOf_38 : decode cX8_weightOf 38 = .ok (.goto 4, 3) := by decide +kernel
theorem dX8_weightOf_41 : decode cX8_weightOf 41 = .ok (.iconst 0, 1) := by decide +kernel
theorem dX8_weightOf_42 : decode cX8_weightOf 42 = .ok (.iadd, 1) := by decide +kernel
theorem dX8_weightOf_43 : decode cX8_weightOf 43 = .ok (.istore_n 3, 1) := by decide +kernel
theorem dX8_weightOf_44 : decode cX8_weightOf 44 = .ok (.iinc 4 1, 3) := by decide +kernel
theorem dX8_weightOf_47 : decode cX8_weightOf 47 = .ok (.goto (-37), 3) := by decide +kernel
theorem dX8_weightOf_50 : decode cX8_weightOf 50 = .ok (.iload_n 3, 1) := by decide +kernel
theorem dX8_weightOf_51 : decode cX8_weightOf 51 = .ok (.ireturn, 1) := by decide +kernel
theorem dX8_manyOf_0 : decode cX8_manyOf 0 = .ok (.iconst 0, 1) := by decide +kernel
theorem dX8_manyOf_1 : decode cX8_manyOf 1 = .ok (.istore_n 3, 1) := by decide +kernel
theorem dX8_manyOf_2 : decode cX8_manyOf 2 = .ok (.iconst 0, 1) := by decide +kernel
theorem dX8_manyOf_3 : decode cX8_manyOf 3 = .ok (.istore 4, 2) := by decide +kernel
theorem dX8_manyOf_5 : decode cX8_manyOf 5 = .ok (.iload 4, 2) := by decide +kernel
theorem dX8_manyOf_7 : decode cX8_manyOf 7 = .ok (.aload_n 0, 1) := by decide +kernel
theorem dX8_manyOf_8 : decode cX8_manyOf 8 = .ok (.getfield 13, 3) := by decide +kernel
theorem dX8_manyOf_11 : decode cX8_manyOf 11 = .ok (.iconst 0, 1) := by decide +kernel
theorem dX8_manyOf_12 : decode cX8_manyOf 12 = .ok (.iaload, 1) := by decide +kernel
theorem dX8_manyOf_13 : decode cX8_manyOf 13 = .ok (.if_icmp .ge 37, 3) := by decide +kernel
theorem dX8_manyOf_16 : decode cX8_manyOf 16 = .ok (.iload_n 3, 1) := by decide +kernel
theorem dX8_manyOf_17 : decode cX8_manyOf 17 = .ok (.iload_n 1, 1) := by decide +kernel
theorem dX8_manyOf_18 : decode cX8_manyOf 18 = .ok (.iload 4, 2) := by decide +kernel
theorem dX8_manyOf_20 : decode cX8_manyOf 20 = .ok (.invokestatic 151, 3) := by decide +kernel
theorem dX8_manyOf_23 : decode cX8_manyOf 23 = .ok (.ifCond .eq 18, 3) := by decide +kernel
theorem dX8_manyOf_26 : decode cX8_manyOf 26 = .ok (.aload_n 0, 1) := by decide +kernel
theorem dX8_manyOf_27 : decode cX8_manyOf 27 = .ok (.getfield 19, 3) := by decide +kernel
theorem dX8_manyOf_30 : decode cX8_manyOf 30 = .ok (.iload 4, 2) := by decide +kernel
theorem dX8_manyOf_32 : decode cX8_manyOf 32 = .ok (.iaload, 1) := by decide +kernel
theorem dX8_manyOf_33 : decode cX8_manyOf 33 = .ok (.iload_n 2, 1) := by decide +kernel
theorem dX8_manyOf_34 : decode cX8_manyOf 34 = .ok (.if_icmp .ne 7, 3) := by decide +kernel
theorem dX8_manyOf_37 : decode cX8_manyOf 37 = .ok (.iconst 1, 1) := by decide +kernel
theorem dX8_manyOf_38 : decode cX8_manyOf 38 = .ok (.goto 4, 3) := by decide +kernel
theorem dX8_manyOf_41 : decode cX8_manyOf 41 = .ok (.iconst 0, 1) := by decide +kernel
theorem dX8_manyOf_42 : decode cX8_manyOf 42 = .ok (.iadd, 1) := by decide +kernel
theorem dX8_manyOf_43 : decode cX8_manyOf 43 = .ok (.istore_n 3, 1) := by decide +kernel
theorem dX8_manyOf_44 : decode cX8_manyOf 44 = .ok (.iinc 4 1, 3) := by decide +kernel
theorem dX8_manyOf_47 : decode cX8_manyOf 47 = .ok (.goto (-42), 3) := by decide +kernel
theorem dX8_manyOf_50 : decode cX8_manyOf 50 = .ok (.iload_n 3, 1) := by decide +kernel
theorem dX8_manyOf_51 : decode cX8_manyOf 51 = .ok (.ireturn, 1) := by decide +kernel
theorem dX8_answerOf_0 : decode cX8_answerOf 0 = .ok (.iload_n 2, 1) := by decide +kernel
theorem dX8_answerOf_1 : decode cX8_answerOf 1 = .ok (.tableswitch 86 0 2 #[27, 44, 74], 27) := by decide +kernel
theorem dX8_answerOf_28 : decode cX8_answerOf 28 = .ok (.aload_n 0, 1) := by decide +kernel
theorem dX8_answerOf_29 : decode cX8_answerOf 29 = .ok (.iload_n 1, 1) := by decide +kernel
theorem dX8_answerOf_30 : decode cX8_answerOf 30 = .ok (.iload_n 3, 1) := by decide +kernel
theorem dX8_answerOf_31 : decode cX8_answerOf 31 = .ok (.invokevirtual 195, 3) := by decide +kernel
theorem dX8_answerOf_34 : decode cX8_answerOf 34 = .ok (.iload 4, 2) := by decide +kernel
theorem dX8_answerOf_36 : decode cX8_answerOf 36 = .ok (.iadd, 1) := by decide +kernel
theorem dX8_answerOf_37 : decode cX8_answerOf 37 = .ok (.aload_n 0, 1) := by decide +kernel
theorem dX8_answerOf_38 : decode cX8_answerOf 38 = .ok (.getfield 40, 3) := by decide +kernel
theorem dX8_answerOf_41 : decode cX8_answerOf 41 = .ok (.iconst 0, 1) := by decide +kernel
theorem dX8_answerOf_42 : decode cX8_answerOf 42 = .ok (.iaload, 1) := by decide +kernel
theorem dX8_answerOf_43 : decode cX8_answerOf 43 = .ok (.idiv, 1) := by decide +kernel
theorem dX8_answerOf_44 : decode cX8_answerOf 44 = .ok (.ireturn, 1) := by decide +kernel
theorem dX8_answerOf_45 : decode cX8_answerOf 45 = .ok (.aload_n 0, 1) := by decide +kernel
theorem dX8_answerOf_46 : decode cX8_answerOf 46 = .ok (.iload_n 3, 1) := by decide +kernel
theorem dX8_answerOf_47 : decode cX8_answerOf 47 = .ok (.iconst 2, 1) := by decide +kernel
theorem dX8_answerOf_48 : decode cX8_answerOf 48 = .ok (.invokevirtual 198, 3) := by decide +kernel
theorem dX8_answerOf_51 : decode cX8_answerOf 51 = .ok (.ifCond .le 7, 3) := by decide +kernel
theorem dX8_answerOf_54 : decode cX8_answerOf 54 = .ok (.iconst 2, 1) := by decide +kernel
theorem dX8_answerOf_55 : decode cX8_answerOf 55 = .ok (.goto 4, 3) := by decide +kernel
theorem dX8_answerOf_58 : decode cX8_answerOf 58 = .ok (.iconst 0, 1) := by decide +kernel
theorem dX8_answerOf_59 : decode cX8_answerOf 59 = .ok (.aload_n 0, 1) := by decide +kernel
theorem dX8_answerOf_60 : decode cX8_answerOf 60 = .ok (.iload_n 3, 1) := by decide +kernel
theorem dX8_answerOf_61 : decode cX8_answerOf 61 = .ok (.iconst 1, 1) := by decide +kernel
theorem dX8_answerOf_62 : decode cX8_answerOf 62 = .ok (.invokevirtual 198, 3) := by decide +kernel
theorem dX8_answerOf_65 : decode cX8_answerOf 65 = .ok (.ifCond .le 7, 3) := by decide +kernel
theorem dX8_answerOf_68 : decode cX8_answerOf 68 = .ok (.iconst 1, 1) := by decide +kernel
theorem dX8_answerOf_69 : decode cX8_answerOf 69 = .ok (.goto 4, 3) := by decide +kernel
theorem dX8_answerOf_72 : decode cX8_answerOf 72 = .ok (.iconst 0, 1) := by decide +kernel
theorem dX8_answerOf_73 : decode cX8_answerOf 73 = .ok (.iadd, 1) := by decide +kernel
theorem dX8_answerOf_74 : decode cX8_answerOf 74 = .ok (.ireturn, 1) := by decide +kernel
theorem dX8_answerOf_75 : decode cX8_answerOf 75 = .ok (.iload_n 3, 1) := by decide +kernel
theorem dX8_answerOf_76 : decode cX8_answerOf 76 = .ok (.invokestatic 159, 3) := by decide +kernel
theorem dX8_answerOf_79 : decode cX8_answerOf 79 = .ok (.aload_n 0, 1) := by decide +kernel
theorem dX8_answerOf_80 : decode cX8_answerOf 80 = .ok (.iload_n 3, 1) := by decide +kernel
theorem dX8_answerOf_81 : decode cX8_answerOf 81 = .ok (.iconst 0, 1) := by decide +kernel
theorem dX8_answerOf_82 : decode cX8_answerOf 82 = .ok (.invokevirtual 198, 3) := by decide +kernel
theorem dX8_answerOf_85 : decode cX8_answerOf 85 = .ok (.isub, 1) := by decide +kernel
theorem dX8_answerOf_86 : decode cX8_answerOf 86 = .ok (.ireturn, 1) := by decide +kernel
theorem dX8_answerOf_87 : decode cX8_answerOf 87 = .ok (.iload_n 3, 1) := by decide +kernel
theorem dX8_answerOf_88 : decode cX8_answerOf 88 = .ok (.invokestatic 159, 3) := by decide +kernel
theorem dX8_answerOf_91 : decode cX8_answerOf 91 = .ok (.aload_n 0, 1) := by decide +kernel
theorem dX8_answerOf_92 : decode cX8_answerOf 92 = .ok (.iload_n 3, 1) := by decide +kernel
theorem dX8_answerOf_93 : decode cX8_answerOf 93 = .ok (.iconst 0, 1) := by decide +kernel
theorem dX8_answerOf_94 : decode cX8_answerOf 94 = .ok (.invokevirtual 198, 3) := by decide +kernel
theorem dX8_answerOf_97 : decode cX8_answerOf 97 = .ok (.if_icmp .ne 7, 3) := by decide +kernel
theorem dX8_answerOf_100 : decode cX8_answerOf 100 = .ok (.iconst 1, 1) := by decide +kernel
theorem dX8_answerOf_101 : decode cX8_answerOf 101 = .ok (.goto 4, 3) := by decide +kernel
theorem dX8_answerOf_104 : decode cX8_answerOf 104 = .ok (.iconst 0, 1) := by decide +kernel
theorem dX8_answerOf_105 : decode cX8_answerOf 105 = .ok (.ireturn, 1) := by decide +kernel
theorem dX8_answer_0 : decode cX8_answer 0 = .ok (.aload_n 0, 1) := by decide +kernel
theorem dX8_answer_1 : decode cX8_answer 1 = .ok (.iload_n 1, 1) := by decide +kernel
theorem dX8_answer_2 : decode cX8_answer 2 = .ok (.invokevirtual 189, 3) := by decide +kernel
theorem dX8_answer_5 : decode cX8_answer 5 = .ok (.ifCond .eq 46, 3) := by decide +kernel
theorem dX8_answer_8 : decode cX8_answer 8 = .ok (.iload_n 2, 1) := by decide +kernel
theorem dX8_answer_9 : decode cX8_answer 9 = .ok (.i2l, 1) := by decide +kernel
theorem dX8_answer_10 : decode cX8_answer 10 = .ok (.lconst 0, 1) := by decide +kernel
theorem dX8_answer_11 : decode cX8_answer 11 = .ok (.ldc2_w 201, 3) := by decide +kernel
theorem dX8_answer_14 : decode cX8_answer 14 = .ok (.invokestatic 109, 3) := by decide +kernel
theorem dX8_answer_17 : decode cX8_answer 17 = .ok (.ifCond .eq 34, 3) := by decide +kernel
theorem dX8_answer_20 : decode cX8_answer 20 = .ok (.iload_n 3, 1) := by decide +kernel
theorem dX8_answer_21 : decode cX8_answer 21 = .ok (.i2l, 1) := by decide +kernel
theorem dX8_answer_22 : decode cX8_answer 22 = .ok (.lconst 0, 1) := by decide +kernel
theorem dX8_answer_23 : decode cX8_answer 23 = .ok (.iconst 1, 1) := by decide +kernel
theorem dX8_answer_24 : decode cX8_answer 24 = .ok (.aload_n 0, 1) := by decide +kernel
theorem dX8_answer_25 : decode cX8_answer 25 = .ok (.getfield 13, 3) := by decide +kernel
theorem dX8_answer_28 : decode cX8_answer 28 = .ok (.iconst 0, 1) := by decide +kernel
theorem dX8_answer_29 : decode cX8_answer 29 = .ok (.iaload, 1) := by decide +kernel
theorem dX8_answer_30 : decode cX8_answer 30 = .ok (.ishl, 1) := by decide +kernel
theorem dX8_answer_31 : decode cX8_answer 31 = .ok (.iconst 1, 1) := by decide +kernel
theorem dX8_answer_32 : decode cX8_answer 32 = .ok (.isub, 1) := by decide +kernel
theorem dX8_answer_33 : decode cX8_answer 33 = .ok (.i2l, 1) := by decide +kernel
theorem dX8_answer_34 : decode cX8_answer 34 = .ok (.invokestatic 109, 3) := by decide +kernel
theorem dX8_answer_37 : decode cX8_answer 37 = .ok (.ifCond .eq 14, 3) := by decide +kernel
theorem dX8_answer_40 : decode cX8_answer 40 = .ok (.aload_n 0, 1) := by decide +kernel
theorem dX8_answer_41 : decode cX8_answer 41 = .ok (.iload_n 1, 1) := by decide +kernel
theorem dX8_answer_42 : decode cX8_answer 42 = .ok (.iload_n 2, 1) := by decide +kernel
theorem dX8_answer_43 : decode cX8_answer 43 = .ok (.iload_n 3, 1) := by decide +kernel
theorem dX8_answer_44 : decode cX8_answer 44 = .ok (.iconst 0, 1) := by decide +kernel
theorem dX8_answer_45 : decode cX8_answer 45 = .ok (.invokevirtual 203, 3) := by decide +kernel
theorem dX8_answer_48 : decode cX8_answer 48 = .ok (.goto 4, 3) := by decide +kernel
theorem dX8_answer_51 : decode cX8_answer 51 = .ok (.iconst (-1), 1) := by decide +kernel
theorem dX8_answer_52 : decode cX8_answer 52 = .ok (.ireturn, 1) := by decide +kernel
theorem dX8_note_0 : decode cX8_note 0 = .ok (.aload_n 0, 1) := by decide +kernel
theorem dX8_note_1 : decode cX8_note 1 = .ok (.getfield 175, 3) := by decide +kernel
theorem dX8_note_4 : decode cX8_note 4 = .ok (.bipush 8, 2) := by decide +kernel
theorem dX8_note_6 : decode cX8_note 6 = .ok (.if_icmp .ne 43, 3) := by decide +kernel
theorem dX8_note_9 : decode cX8_note 9 = .ok (.iconst 0, 1) := by decide +kernel
theorem dX8_note_10 : decode cX8_note 10 = .ok (.istore_n 1, 1) := by decide +kernel
theorem dX8_note_11 : decode cX8_note 11 = .ok (.iload_n 1, 1) := by decide +kernel
theorem dX8_note_12 : decode cX8_note 12 = .ok (.sipush 147, 3) := by decide +kernel
theorem dX8_note_15 : decode cX8_note 15 = .ok (.if_icmp .ge 24, 3) := by decide +kernel
theorem dX8_note_18 : decode cX8_note 18 = .ok (.aload_n 0, 1) := by decide +kernel
theorem dX8_note_19 : decode cX8_note 19 = .ok (.getfield 61, 3) := by decide +kernel
theorem dX8_note_22 : decode cX8_note 22 = .ok (.iload_n 1, 1) := by decide +kernel
theorem dX8_note_23 : decode cX8_note 23 = .ok (.aload_n 0, 1) := by decide +kernel
theorem dX8_note_24 : decode cX8_note 24 = .ok (.getfield 61, 3) := by decide +kernel
theorem dX8_note_27 : decode cX8_note 27 = .ok (.bipush 21, 2) := by decide +kernel
theorem dX8_note_29 : decode cX8_note 29 = .ok (.iload_n 1, 1) := by decide +kernel
theorem dX8_note_30 : decode cX8_note 30 = .ok (.iadd, 1) := by decide +kernel
theorem dX8_note_31 : decode cX8_note 31 = .ok (.iaload, 1) := by decide +kernel
theorem dX8_note_32 : decode cX8_note 32 = .ok (.iastore, 1) := by decide +kernel
theorem dX8_note_33 : decode cX8_note 33 = .ok (.iinc 1 1, 3) := by decide +kernel
theorem dX8_note_36 : decode cX8_note 36 = .ok (.goto (-25), 3) := by decide +kernel
theorem dX8_note_39 : decode cX8_note 39 = .ok (.aload_n 0, 1) := by decide +kernel
theorem dX8_note_40 : decode cX8_note 40 = .ok (.dup, 1) := by decide +kernel
theorem dX8_note_41 : decode cX8_note 41 = .ok (.getfield 175, 3) := by decide +kernel
theorem dX8_note_44 : decode cX8_note 44 = .ok (.iconst 1, 1) := by decide +kernel
theorem dX8_note_45 : decode cX8_note 45 = .ok (.isub, 1) := by decide +kernel
theorem dX8_note_46 : decode cX8_note 46 = .ok (.putfield 175, 3) := by decide +kernel
theorem dX8_note_49 : decode cX8_note 49 = .ok (.iconst 0, 1) := by decide +kernel
theorem dX8_note_50 : decode cX8_note 50 = .ok (.istore_n 1, 1) := by decide +kernel
theorem dX8_note_51 : decode cX8_note 51 = .ok (.iload_n 1, 1) := by decide +kernel
theorem dX8_note_52 : decode cX8_note 52 = .ok (.bipush 21, 2) := by decide +kernel
theorem dX8_note_54 : decode cX8_note 54 = .ok (.if_icmp .ge 29, 3) := by decide +kernel
theorem dX8_note_57 : decode cX8_note 57 = .ok (.aload_n 0, 1) := by decide +kernel
theorem dX8_note_58 : decode cX8_note 58 = .ok (.getfield 61, 3) := by decide +kernel
theorem dX8_note_61 : decode cX8_note 61 = .ok (.bipush 21, 2) := by decide +kernel
theorem dX8_note_63 : decode cX8_note 63 = .ok (.aload_n 0, 1) := by decide +kernel
theorem dX8_note_64 : decode cX8_note 64 = .ok (.getfield 175, 3) := by decide +kernel
theorem dX8_note_67 : decode cX8_note 67 = .ok (.imul, 1) := by decide +kernel
theorem dX8_note_68 : decode cX8_note 68 = .ok (.iload_n 1, 1) := by decide +kernel
theorem dX8_note_69 : decode cX8_note 69 = .ok (.iadd, 1) := by decide +kernel
theorem dX8_note_70 : decode cX8_note 70 = .ok (.aload_n 0, 1) := by decide +kernel
theorem dX8_note_71 : decode cX8_note 71 = .ok (.getfield 58, 3) := by decide +kernel
theorem dX8_note_74 : decode cX8_note 74 = .ok (.iload_n 1, 1) := by decide +kernel
theorem dX8_note_75 : decode cX8_note 75 = .ok (.iaload, 1) := by decide +kernel
theorem dX8_note_76 : decode cX8_note 76 = .ok (.iastore, 1) := by decide +kernel
theorem dX8_note_77 : decode cX8_note 77 = .ok (.iinc 1 1, 3) := by decide +kernel
theorem dX8_note_80 : decode cX8_note 80 = .ok (.goto (-29), 3) := by decide +kernel
theorem dX8_note_83 : decode cX8_note 83 = .ok (.aload_n 0, 1) := by decide +kernel
