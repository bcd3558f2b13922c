theorem dX4_add_133 : decode cX4_add 133 = .ok (.iload_n 3, 1) := by decide +kernel
theorem dX4_add_134 : decode cX4_add 134 = .ok (.invokestatic 50, 3) := by decide +kernel
theorem dX4_add_137 : decode cX4_add 137 = .ok (.aload_n 1, 1) := by decide +kernel
theorem dX4_add_138 : decode cX4_add 138 = .ok (.iconst 2, 1) := by decide +kernel
theorem dX4_add_139 : decode cX4_add 139 = .ok (.invokestatic 50, 3) := by decide +kernel
theorem dX4_add_142 : decode cX4_add 142 = .ok (.iadd, 1) := by decide +kernel
theorem dX4_add_143 : decode cX4_add 143 = .ok (.invokestatic 46, 3) := by decide +kernel
theorem dX4_add_146 : decode cX4_add 146 = .ok (.aload_n 0, 1) := by decide +kernel
theorem dX4_add_147 : decode cX4_add 147 = .ok (.getfield 30, 3) := by decide +kernel
theorem dX4_add_150 : decode cX4_add 150 = .ok (.iload_n 3, 1) := by decide +kernel
theorem dX4_add_151 : decode cX4_add 151 = .ok (.iload_n 2, 1) := by decide +kernel
theorem dX4_add_152 : decode cX4_add 152 = .ok (.ior, 1) := by decide +kernel
theorem dX4_add_153 : decode cX4_add 153 = .ok (.aload_n 0, 1) := by decide +kernel
theorem dX4_add_154 : decode cX4_add 154 = .ok (.getfield 30, 3) := by decide +kernel
theorem dX4_add_157 : decode cX4_add 157 = .ok (.iload_n 3, 1) := by decide +kernel
theorem dX4_add_158 : decode cX4_add 158 = .ok (.invokestatic 50, 3) := by decide +kernel
theorem dX4_add_161 : decode cX4_add 161 = .ok (.aload_n 1, 1) := by decide +kernel
theorem dX4_add_162 : decode cX4_add 162 = .ok (.iconst 3, 1) := by decide +kernel
theorem dX4_add_163 : decode cX4_add 163 = .ok (.invokestatic 50, 3) := by decide +kernel
theorem dX4_add_166 : decode cX4_add 166 = .ok (.imul, 1) := by decide +kernel
theorem dX4_add_167 : decode cX4_add 167 = .ok (.invokestatic 46, 3) := by decide +kernel
theorem dX4_add_170 : decode cX4_add 170 = .ok (.iinc 3 1, 3) := by decide +kernel
theorem dX4_add_173 : decode cX4_add 173 = .ok (.goto (-80), 3) := by decide +kernel
theorem dX4_add_176 : decode cX4_add 176 = .ok (.aload_n 0, 1) := by decide +kernel
theorem dX4_add_177 : decode cX4_add 177 = .ok (.dup, 1) := by decide +kernel
theorem dX4_add_178 : decode cX4_add 178 = .ok (.getfield 33, 3) := by decide +kernel
theorem dX4_add_181 : decode cX4_add 181 = .ok (.iconst 1, 1) := by decide +kernel
theorem dX4_add_182 : decode cX4_add 182 = .ok (.iadd, 1) := by decide +kernel
theorem dX4_add_183 : decode cX4_add 183 = .ok (.putfield 33, 3) := by decide +kernel
theorem dX4_add_186 : decode cX4_add 186 = .ok (.return_, 1) := by decide +kernel
theorem dX4_sortByKind_0 : decode cX4_sortByKind 0 = .ok (.iload_n 2, 1) := by decide +kernel
theorem dX4_sortByKind_1 : decode cX4_sortByKind 1 = .ok (.iconst 1, 1) := by decide +kernel
theorem dX4_sortByKind_2 : decode cX4_sortByKind 2 = .ok (.if_icmp .ne 13, 3) := by decide +kernel
theorem dX4_sortByKind_5 : decode cX4_sortByKind 5 = .ok (.aload_n 0, 1) := by decide +kernel
theorem dX4_sortByKind_6 : decode cX4_sortByKind 6 = .ok (.dup, 1) := by decide +kernel
theorem dX4_sortByKind_7 : decode cX4_sortByKind 7 = .ok (.getfield 37, 3) := by decide +kernel
theorem dX4_sortByKind_10 : decode cX4_sortByKind 10 = .ok (.iload_n 1, 1) := by decide +kernel
theorem dX4_sortByKind_11 : decode cX4_sortByKind 11 = .ok (.ior, 1) := by decide +kernel
theorem dX4_sortByKind_12 : decode cX4_sortByKind 12 = .ok (.putfield 37, 3) := by decide +kernel
theorem dX4_sortByKind_15 : decode cX4_sortByKind 15 = .ok (.iload_n 2, 1) := by decide +kernel
theorem dX4_sortByKind_16 : decode cX4_sortByKind 16 = .ok (.iconst 2, 1) := by decide +kernel
theorem dX4_sortByKind_17 : decode cX4_sortByKind 17 = .ok (.if_icmp .ne 13, 3) := by decide +kernel
theorem dX4_sortByKind_20 : decode cX4_sortByKind 20 = .ok (.aload_n 0, 1) := by decide +kernel
theorem dX4_sortByKind_21 : decode cX4_sortByKind 21 = .ok (.dup, 1) := by decide +kernel
theorem dX4_sortByKind_22 : decode cX4_sortByKind 22 = .ok (.getfield 40, 3) := by decide +kernel
theorem dX4_sortByKind_25 : decode cX4_sortByKind 25 = .ok (.iload_n 1, 1) := by decide +kernel
theorem dX4_sortByKind_26 : decode cX4_sortByKind 26 = .ok (.ior, 1) := by decide +kernel
theorem dX4_sortByKind_27 : decode cX4_sortByKind 27 = .ok (.putfield 40, 3) := by decide +kernel
theorem dX4_sortByKind_30 : decode cX4_sortByKind 30 = .ok (.iload_n 2, 1) := by decide +kernel
theorem dX4_sortByKind_31 : decode cX4_sortByKind 31 = .ok (.ifCond .eq 13, 3) := by decide +kernel
theorem dX4_sortByKind_34 : decode cX4_sortByKind 34 = .ok (.aload_n 0, 1) := by decide +kernel
theorem dX4_sortByKind_35 : decode cX4_sortByKind 35 = .ok (.dup, 1) := by decide +kernel
theorem dX4_sortByKind_36 : decode cX4_sortByKind 36 = .ok (.getfield 43, 3) := by decide +kernel
theorem dX4_sortByKind_39 : decode cX4_sortByKind 39 = .ok (.iload_n 1, 1) := by decide +kernel
theorem dX4_sortByKind_40 : decode cX4_sortByKind 40 = .ok (.ior, 1) := by decide +kernel
theorem dX4_sortByKind_41 : decode cX4_sortByKind 41 = .ok (.putfield 43, 3) := by decide +kernel
theorem dX4_sortByKind_44 : decode cX4_sortByKind 44 = .ok (.return_, 1) := by decide +kernel
theorem dX4_tipped_0 : decode cX4_tipped 0 = .ok (.iload_n 1, 1) := by decide +kernel
theorem dX4_tipped_1 : decode cX4_tipped 1 = .ok (.aload_n 0, 1) := by decide +kernel
theorem dX4_tipped_2 : decode cX4_tipped 2 = .ok (.getfield 40, 3) := by decide +kernel
theorem dX4_tipped_5 : decode cX4_tipped 5 = .ok (.iand, 1) := by decide +kernel
theorem dX4_tipped_6 : decode cX4_tipped 6 = .ok (.ifCond .eq 7, 3) := by decide +kernel
theorem dX4_tipped_9 : decode cX4_tipped 9 = .ok (.iconst 2, 1) := by decide +kernel
theorem dX4_tipped_10 : decode cX4_tipped 10 = .ok (.goto 4, 3) := by decide +kernel
theorem dX4_tipped_13 : decode cX4_tipped 13 = .ok (.iconst 0, 1) := by decide +kernel
theorem dX4_tipped_14 : decode cX4_tipped 14 = .ok (.iload_n 1, 1) := by decide +kernel
theorem dX4_tipped_15 : decode cX4_tipped 15 = .ok (.aload_n 0, 1) := by decide +kernel
theorem dX4_tipped_16 : decode cX4_tipped 16 = .ok (.getfield 37, 3) := by decide +kernel
theorem dX4_tipped_19 : decode cX4_tipped 19 = .ok (.iand, 1) := by decide +kernel
theorem dX4_tipped_20 : decode cX4_tipped 20 = .ok (.ifCond .eq 7, 3) := by decide +kernel
theorem dX4_tipped_23 : decode cX4_tipped 23 = .ok (.iconst 1, 1) := by decide +kernel
theorem dX4_tipped_24 : decode cX4_tipped 24 = .ok (.goto 4, 3) := by decide +kernel
theorem dX4_tipped_27 : decode cX4_tipped 27 = .ok (.iconst 0, 1) := by decide +kernel
theorem dX4_tipped_28 : decode cX4_tipped 28 = .ok (.iadd, 1) := by decide +kernel
theorem dX4_tipped_29 : decode cX4_tipped 29 = .ok (.ireturn, 1) := by decide +kernel
theorem dX4_shaken_0 : decode cX4_shaken 0 = .ok (.iload_n 1, 1) := by decide +kernel
theorem dX4_shaken_1 : decode cX4_shaken 1 = .ok (.aload_n 0, 1) := by decide +kernel
theorem dX4_shaken_2 : decode cX4_shaken 2 = .ok (.getfield 43, 3) := by decide +kernel
theorem dX4_shaken_5 : decode cX4_shaken 5 = .ok (.iand, 1) := by decide +kernel
theorem dX4_shaken_6 : decode cX4_shaken 6 = .ok (.invokestatic 58, 3) := by decide +kernel
theorem dX4_shaken_9 : decode cX4_shaken 9 = .ok (.ireturn, 1) := by decide +kernel
theorem dX4_pressed_0 : decode cX4_pressed 0 = .ok (.iload_n 1, 1) := by decide +kernel
theorem dX4_pressed_1 : decode cX4_pressed 1 = .ok (.aload_n 0, 1) := by decide +kernel
theorem dX4_pressed_2 : decode cX4_pressed 2 = .ok (.getfield 43, 3) := by decide +kernel
theorem dX4_pressed_5 : decode cX4_pressed 5 = .ok (.iand, 1) := by decide +kernel
theorem dX4_pressed_6 : decode cX4_pressed 6 = .ok (.ifCond .ne 7, 3) := by decide +kernel
theorem dX4_pressed_9 : decode cX4_pressed 9 = .ok (.iconst 1, 1) := by decide +kernel
theorem dX4_pressed_10 : decode cX4_pressed 10 = .ok (.goto 4, 3) := by decide +kernel
theorem dX4_pressed_13 : decode cX4_pressed 13 = .ok (.iconst 0, 1) := by decide +kernel
theorem dX4_pressed_14 : decode cX4_pressed 14 = .ok (.ireturn, 1) := by decide +kernel
theorem dX5_init_0 : decode cX5_init 0 = .ok (.aload_n 0, 1) := by decide +kernel
theorem dX5_init_1 : decode cX5_init 1 = .ok (.invokespecial 3, 3) := by decide +kernel
theorem dX5_init_4 : decode cX5_init 4 = .ok (.aload_n 0, 1) := by decide +kernel
theorem dX5_init_5 : decode cX5_init 5 = .ok (.new 9, 3) := by decide +kernel
theorem dX5_init_8 : decode cX5_init 8 = .ok (.dup, 1) := by decide +kernel
theorem dX5_init_9 : decode cX5_init 9 = .ok (.invokespecial 11, 3) := by decide +kernel
theorem dX5_init_12 : decode cX5_init 12 = .ok (.putfield 12, 3) := by decide +kernel
theorem dX5_init_15 : decode cX5_init 15 = .ok (.aload_n 0, 1) := by decide +kernel
theorem dX5_init_16 : decode cX5_init 16 = .ok (.iconst 4, 1) := by decide +kernel
theorem dX5_init_17 : decode cX5_init 17 = .ok (.newarray .int, 2) := by decide +kernel
theorem dX5_init_19 : decode cX5_init 19 = .ok (.putfield 18, 3) := by decide +kernel
theorem dX5_init_22 : decode cX5_init 22 = .ok (.aload_n 0, 1) := by decide +kernel
theorem dX5_init_23 : decode cX5_init 23 = .ok (.iconst 4, 1) := by decide +kernel
theorem dX5_init_24 : decode cX5_init 24 = .ok (.newarray .int, 2) := by decide +kernel
theorem dX5_init_26 : decode cX5_init 26 = .ok (.putfield 22, 3) := by decide +kernel
theorem dX5_init_29 : decode cX5_init 29 = .ok (.aload_n 0, 1) := by decide +kernel
theorem dX5_init_30 : decode cX5_init 30 = .ok (.iconst 4, 1) := by decide +kernel
theorem dX5_init_31 : decode cX5_init 31 = .ok (.newarray .int, 2) := by decide +kernel
theorem dX5_init_33 : decode cX5_init 33 = .ok (.putfield 25, 3) := by decide +kernel
theorem dX5_init_36 : decode cX5_init 36 = .ok (.aload_n 0, 1) := by decide +kernel
theorem dX5_init_37 : decode cX5_init 37 = .ok (.iconst 1, 1) := by decide +kernel
theorem dX5_init_38 : decode cX5_init 38 = .ok (.putfield 28, 3) := by decide +kernel
theorem dX5_init_41 : decode cX5_init 41 = .ok (.aload_n 0, 1) := by decide +kernel
theorem dX5_init_42 : decode cX5_init 42 = .ok (.iconst 4, 1) := by decide +kernel
theorem dX5_init_43 : decode cX5_init 43 = .ok (.newarray .int, 2) := by decide +kernel
theorem dX5_init_45 : decode cX5_init 45 = .ok (.putfield 32, 3) := by decide +kernel
theorem dX5_init_48 : decode cX5_init 48 = .ok (.aload_n 0, 1) := by decide +kernel
theorem dX5_init_49 : decode cX5_init 49 = .ok (.iconst 4, 1) := by decide +kernel
theorem dX5_init_50 : decode cX5_init 50 = .ok (.newarray .int, 2) := by decide +kernel
theorem dX5_init_52 : decode cX5_init 52 = .ok (.putfield 35, 3) := by decide +kernel
theorem dX5_init_55 : decode cX5_init 55 = .ok (.return_, 1) := by decide +kernel
theorem dX5_clear_0 : decode cX5_clear 0 = .ok (.aload_n 0, 1) := by decide +kernel
theorem dX5_clear_1 : decode cX5_clear 1 = .ok (.getfield 12, 3) := by decide +kernel
theorem dX5_clear_4 : decode cX5_clear 4 = .ok (.invokevirtual 38, 3) := by decide +kernel
theorem dX5_clear_7 : decode cX5_clear 7 = .ok (.aload_n 0, 1) := by decide +kernel
theorem dX5_clear_8 : decode cX5_clear 8 = .ok (.iconst 0, 1) := by decide +kernel
theorem dX5_clear_9 : decode cX5_clear 9 = .ok (.putfield 41, 3) := by decide +kernel
theorem dX5_clear_12 : decode cX5_clear 12 = .ok (.aload_n 0, 1) := by decide +kernel
theorem dX5_clear_13 : decode cX5_clear 13 = .ok (.iconst 0, 1) := by decide +kernel
theorem dX5_clear_14 : decode cX5_clear 14 = .ok (.putfield 44, 3) := by decide +kernel
theorem dX5_clear_17 : decode cX5_clear 17 = .ok (.aload_n 0, 1) := by decide +kernel
theorem dX5_clear_18 : decode cX5_clear 18 = .ok (.iconst 1, 1) := by decide +kernel
theorem dX5_clear_19 : decode cX5_clear 19 = .ok (.putfield 28, 3) := by decide +kernel
theorem dX5_clear_22 : decode cX5_clear 22 = .ok (.aload_n 0, 1) := by decide +kernel
theorem dX5_clear_23 : decode cX5_clear 23 = .ok (.bipush 40, 2) := by decide +kernel
theorem dX5_clear_25 : decode cX5_clear 25 = .ok (.putfield 47, 3) := by decide +kernel
theorem dX5_clear_28 : decode cX5_clear 28 = .ok (.aload_n 0, 1) := by decide +kernel
theorem dX5_clear_29 : decode cX5_clear 29 = .ok (.getfield 32, 3) := by decide +kernel
theorem dX5_clear_32 : decode cX5_clear 32 = .ok (.iconst 0, 1) := by decide +kernel
theorem dX5_clear_33 : decode cX5_clear 33 = .ok (.invokestatic 50, 3) := by decide +kernel
theorem dX5_clear_36 : decode cX5_clear 36 = .ok (.aload_n 0, 1) := by decide +kernel
theorem dX5_clear_37 : decode cX5_clear 37 = .ok (.getfield 35, 3) := by decide +kernel
theorem dX5_clear_40 : decode cX5_clear 40 = .ok (.bipush 10, 2) := by decide +kernel
theorem dX5_clear_42 : decode cX5_clear 42 = .ok (.invokestatic 50, 3) := by decide +kernel
theorem dX5_clear_45 : decode cX5_clear 45 = .ok (.return_, 1) := by decide +kernel
theorem dX5_takes_0 : decode cX5_takes 0 = .ok (.iload_n 1, 1) := by decide +kernel
theorem dX5_takes_1 : decode cX5_takes 1 = .ok (.tableswitch 228 100 116 #[172, 228, 228, 149, 228, 121, 228, 228, 228, 228, 195, 228, 102, 228, 228, 228, 83], 83) := by decide +kernel
theorem dX5_takes_84 : decode cX5_takes 84 = .ok (.iload_n 3, 1) := by decide +kernel
theorem dX5_takes_85 : decode cX5_takes 85 = .ok (.iconst 4, 1) := by decide +kernel
theorem dX5_takes_86 : decode cX5_takes 86 = .ok (.if_icmp .ne 15, 3) := by decide +kernel
theorem dX5_takes_89 : decode cX5_takes 89 = .ok (.aload_n 0, 1) := by decide +kernel
theorem dX5_takes_90 : decode cX5_takes 90 = .ok (.aload_n 2, 1) := by decide +kernel
theorem dX5_takes_91 : decode cX5_takes 91 = .ok (.invokevirtual 56, 3) := by decide +kernel
theorem dX5_takes_94 : decode cX5_takes 94 = .ok (.ifCond .eq 7, 3) := by decide +kernel
theorem dX5_takes_97 : decode cX5_takes 97 = .ok (.iconst 1, 1) := by decide +kernel
theorem dX5_takes_98 : decode cX5_takes 98 = .ok (.goto 4, 3) := by decide +kernel
theorem dX5_takes_101 : decode cX5_takes 101 = .ok (.iconst 0, 1) := by decide +kernel
theorem dX5_takes_102 : decode cX5_takes 102 = .ok (.ireturn, 1) := by decide +kernel
theorem dX5_takes_103 : decode cX5_takes 103 = .ok (.iload_n 3, 1) := by decide +kernel
theorem dX5_takes_104 : decode cX5_takes 104 = .ok (.iconst 3, 1) := by decide +kernel
theorem dX5_takes_105 : decode cX5_takes 105 = .ok (.if_icmp .ne 15, 3) := by decide +kernel
theorem dX5_takes_108 : decode cX5_takes 108 = .ok (.aload_n 0, 1) := by decide +kernel
theorem dX5_takes_109 : decode cX5_takes 109 = .ok (.aload_n 2, 1) := by decide +kernel
theorem dX5_takes_110 : decode cX5_takes 110 = .ok (.invokevirtual 60, 3) := by decide +kernel
theorem dX5_takes_113 : decode cX5_takes 113 = .ok (.ifCond .eq 7, 3) := by decide +kernel
theorem dX5_takes_116 : decode cX5_takes 116 = .ok (.iconst 1, 1) := by decide +kernel
theorem dX5_takes_117 : decode cX5_takes 117 = .ok (.goto 4, 3) := by decide +kernel
theorem dX5_takes_120 : decode cX5_takes 120 = .ok (.iconst 0, 1) := by decide +kernel
theorem dX5_takes_121 : decode cX5_takes 121 = .ok (.ireturn, 1) := by decide +kernel
theorem dX5_takes_122 : decode cX5_takes 122 = .ok (.iload_n 3, 1) := by decide +kernel
theorem dX5_takes_123 : decode cX5_takes 123 = .ok (.iconst 2, 1) := by decide +kernel
theorem dX5_takes_124 : decode cX5_takes 124 = .ok (.if_icmp .ne 24, 3) := by decide +kernel
theorem dX5_takes_127 : decode cX5_takes 127 = .ok (.aload_n 0, 1) := by decide +kernel
theorem dX5_takes_128 : decode cX5_takes 128 = .ok (.aload_n 2, 1) := by decide +kernel
theorem dX5_takes_129 : decode cX5_takes 129 = .ok (.iconst 0, 1) := by decide +kernel
theorem dX5_takes_130 : decode cX5_takes 130 = .ok (.invokestatic 63, 3) := by decide +kernel
theorem dX5_takes_133 : decode cX5_takes 133 = .ok (.aload_n 2, 1) := by decide +kernel
theorem dX5_takes_134 : decode cX5_takes 134 = .ok (.iconst 1, 1) := by decide +kernel
theorem dX5_takes_135 : decode cX5_takes 135 = .ok (.invokestatic 63, 3) := by decide +kernel
theorem dX5_takes_138 : decode cX5_takes 138 = .ok (.invokevirtual 67, 3) := by decide +kernel
theorem dX5_takes_141 : decode cX5_takes 141 = .ok (.ifCond .eq 7, 3) := by decide +kernel
theorem dX5_takes_144 : decode cX5_takes 144 = .ok (.iconst 1, 1) := by decide +kernel
theorem dX5_takes_145 : decode cX5_takes 145 = .ok (.goto 4, 3) := by decide +kernel
theorem dX5_takes_148 : decode cX5_takes 148 = .ok (.iconst 0, 1) := by decide +kernel
theorem dX5_takes_149 : decode cX5_takes 149 = .ok (.ireturn, 1) := by decide +kernel
theorem dX5_takes_150 : decode cX5_takes 150 = .ok (.iload_n 3, 1) := by decide +kernel
theorem dX5_takes_151 : decode cX5_takes 151 = .ok (.iconst 1, 1) := by decide +kernel
theorem dX5_takes_152 : decode cX5_takes 152 = .ok (.if_icmp .ne 19, 3) := by decide +kernel
theorem dX5_takes_155 : decode cX5_takes 155 = .ok (.aload_n 0, 1) := by decide +kernel
theorem dX5_takes_156 : decode cX5_takes 156 = .ok (.aload_n 2, 1) := by decide +kernel
theorem dX5_takes_157 : decode cX5_takes 157 = .ok (.iconst 0, 1) := by decide +kernel
theorem dX5_takes_158 : decode cX5_takes 158 = .ok (.invokestatic 63, 3) := by decide +kernel
theorem dX5_takes_161 : decode cX5_takes 161 = .ok (.invokevirtual 71, 3) := by decide +kernel
theorem dX5_takes_164 : decode cX5_takes 164 = .ok (.ifCond .eq 7, 3) := by decide +kernel
theorem dX5_takes_167 : decode cX5_takes 167 = .ok (.iconst 1, 1) := by decide +kernel
theorem dX5_takes_168 : decode cX5_takes 168 = .ok (.goto 4, 3) := by decide +kernel
theorem dX5_takes_171 : decode cX5_takes 171 = .ok (.iconst 0, 1) := by decide +kernel
theorem dX5_takes_172 : decode cX5_takes 172 = .ok (.ireturn, 1) := by decide +kernel
theorem dX5_takes_173 : decode cX5_takes 173 = .ok (.iload_n 3, 1) := by decide +kernel
theorem dX5_takes_174 : decode cX5_takes 174 = .ok (.iconst 1, 1) := by decide +kernel
theorem dX5_takes_175 : decode cX5_takes 175 = .ok (.if_icmp .ne 19, 3) := by decide +kernel
theorem dX5_takes_178 : decode cX5_takes 178 = .ok (.aload_n 0, 1) := by decide +kernel
theorem dX5_takes_179 : decode cX5_takes 179 = .ok (.aload_n 2, 1) := by decide +kernel
theorem dX5_takes_180 : decode cX5_takes 180 = .ok (.iconst 0, 1) := by decide +kernel
theorem dX5_takes_181 : decode cX5_takes 181 = .ok (.invokestatic 63, 3) := by decide +kernel
theorem dX5_takes_184 : decode cX5_takes 184 = .ok (.invokevirtual 75, 3) := by decide +kernel
theorem dX5_takes_187 : decode cX5_takes 187 = .ok (.ifCond .eq 7, 3) := by decide +kernel
theorem dX5_takes_190 : decode cX5_takes 190 = .ok (.iconst 1, 1) := by decide +kernel
theorem dX5_takes_191 : decode cX5_takes 191 = .ok (.goto 4, 3) := by decide +kernel
theorem dX5_takes_194 : decode cX5_takes 194 = .ok (.iconst 0, 1) := by decide +kernel
theorem dX5_takes_195 : decode cX5_takes 195 = .ok (.ireturn, 1) := by decide +kernel
theorem dX5_takes_196 : decode cX5_takes 196 = .ok (.iload_n 3, 1) := by decide +kernel
theorem dX5_takes_197 : decode cX5_takes 197 = .ok (.iconst 3, 1) := by decide +kernel
theorem dX5_takes_198 : decode cX5_takes 198 = .ok (.if_icmp .ne 29, 3) := by decide +kernel
theorem dX5_takes_201 : decode cX5_takes 201 = .ok (.aload_n 0, 1) := by decide +kernel
theorem dX5_takes_202 : decode cX5_takes 202 = .ok (.aload_n 2, 1) := by decide +kernel
theorem dX5_takes_203 : decode cX5_takes 203 = .ok (.iconst 0, 1) := by decide +kernel
theorem dX5_takes_204 : decode cX5_takes 204 = .ok (.invokestatic 63, 3) := by decide +kernel
theorem dX5_takes_207 : decode cX5_takes 207 = .ok (.aload_n 2, 1) := by decide +kernel
theorem dX5_takes_208 : decode cX5_takes 208 = .ok (.iconst 1, 1) := by decide +kernel
theorem dX5_takes_209 : decode cX5_takes 209 = .ok (.invokestatic 63, 3) := by decide +kernel
theorem dX5_takes_212 : decode cX5_takes 212 = .ok (.aload_n 2, 1) := by decide +kernel
theorem dX5_takes_213 : decode cX5_takes 213 = .ok (.iconst 2, 1) := by decide +kernel
theorem dX5_takes_214 : decode cX5_takes 214 = .ok (.invokestatic 63, 3) := by decide +kernel
theorem dX5_takes_217 : decode cX5_takes 217 = .ok (.invokevirtual 78, 3) := by decide +kernel
theorem dX5_takes_220 : decode cX5_takes 220 = .ok (.ifCond .eq 7, 3) := by decide +kernel
theorem dX5_takes_223 : decode cX5_takes 223 = .ok (.iconst 1, 1) := by decide +kernel
theorem dX5_takes_224 : decode cX5_takes 224 = .ok (.goto 4, 3) := by decide +kernel
theorem dX5_takes_227 : decode cX5_takes 227 = .ok (.iconst 0, 1) := by decide +kernel
theorem dX5_takes_228 : decode cX5_takes 228 = .ok (.ireturn, 1) := by decide +kernel
theorem dX5_takes_229 : decode cX5_takes 229 = .ok (.iconst 0, 1) := by decide +kernel
theorem dX5_takes_230 : decode cX5_takes 230 = .ok (.ireturn, 1) := by decide +kernel
theorem dX5_takesThing_0 : decode cX5_takesThing 0 = .ok (.aload_n 0, 1) := by decide +kernel
theorem dX5_takesThing_1 : decode cX5_takesThing 1 = .ok (.getfield 12, 3) := by decide +kernel
theorem dX5_takesThing_4 : decode cX5_takesThing 4 = .ok (.getfield 82, 3) := by decide +kernel
theorem dX5_takesThing_7 : decode cX5_takesThing 7 = .ok (.bipush 8, 2) := by decide +kernel
theorem dX5_takesThing_9 : decode cX5_takesThing 9 = .ok (.if_icmp .ge 58, 3) := by decide +kernel
theorem dX5_takesThing_12 : decode cX5_takesThing 12 = .ok (.aload_n 1, 1) := by decide +kernel
theorem dX5_takesThing_13 : decode cX5_takesThing 13 = .ok (.iconst 0, 1) := by decide +kernel
theorem dX5_takesThing_14 : decode cX5_takesThing 14 = .ok (.invokestatic 63, 3) := by decide +kernel
theorem dX5_takesThing_17 : decode cX5_takesThing 17 = .ok (.iconst 1, 1) := by decide +kernel
theorem dX5_takesThing_18 : decode cX5_takesThing 18 = .ok (.bipush 20, 2) := by decide +kernel
theorem dX5_takesThing_20 : decode cX5_takesThing 20 = .ok (.invokestatic 85, 3) := by decide +kernel
theorem dX5_takesThing_23 : decode cX5_takesThing 23 = .ok (.ifCond .eq 44, 3) := by decide +kernel
theorem dX5_takesThing_26 : decode cX5_takesThing 26 = .ok (.aload_n 1, 1) := by decide +kernel
theorem dX5_takesThing_27 : decode cX5_takesThing 27 = .ok (.iconst 1, 1) := by decide +kernel
theorem dX5_takesThing_28 : decode cX5_takesThing 28 = .ok (.invokestatic 63, 3) := by decide +kernel
theorem dX5_takesThing_31 : decode cX5_takesThing 31 = .ok (.iconst 0, 1) := by decide +kernel
theorem dX5_takesThing_32 : decode cX5_takesThing 32 = .ok (.iconst 3, 1) := by decide +kernel
theorem dX5_takesThing_33 : decode cX5_takesThing 33 = .ok (.invokestatic 85, 3) := by decide +kernel
theorem dX5_takesThing_36 : decode cX5_takesThing 36 = .ok (.ifCond .eq 31, 3) := by decide +kernel
theorem dX5_takesThing_39 : decode cX5_takesThing 39 = .ok (.aload_n 1, 1) := by decide +kernel
theorem dX5_takesThing_40 : decode cX5_takesThing 40 = .ok (.iconst 2, 1) := by decide +kernel
theorem dX5_takesThing_41 : decode cX5_takesThing 41 = .ok (.invokestatic 63, 3) := by decide +kernel
theorem dX5_takesThing_44 : decode cX5_takesThing 44 = .ok (.iconst 0, 1) := by decide +kernel
theorem dX5_takesThing_45 : decode cX5_takesThing 45 = .ok (.bipush 9, 2) := by decide +kernel
theorem dX5_takesThing_47 : decode cX5_takesThing 47 = .ok (.invokestatic 85, 3) := by decide +kernel
theorem dX5_takesThing_50 : decode cX5_takesThing 50 = .ok (.ifCond .eq 17, 3) := by decide +kernel
theorem dX5_takesThing_53 : decode cX5_takesThing 53 = .ok (.aload_n 1, 1) := by decide +kernel
theorem dX5_takesThing_54 : decode cX5_takesThing 54 = .ok (.iconst 3, 1) := by decide +kernel
theorem dX5_takesThing_55 : decode cX5_takesThing 55 = .ok (.invokestatic 63, 3) := by decide +kernel
theorem dX5_takesThing_58 : decode cX5_takesThing 58 = .ok (.iconst 1, 1) := by decide +kernel
theorem dX5_takesThing_59 : decode cX5_takesThing 59 = .ok (.bipush 9, 2) := by decide +kernel
theorem dX5_takesThing_61 : decode cX5_takesThing 61 = .ok (.invokestatic 85, 3) := by decide +kernel
theorem dX5_takesThing_64 : decode cX5_takesThing 64 = .ok (.ifCond .ne 5, 3) := by decide +kernel
theorem dX5_takesThing_67 : decode cX5_takesThing 67 = .ok (.iconst 0, 1) := by decide +kernel
theorem dX5_takesThing_68 : decode cX5_takesThing 68 = .ok (.ireturn, 1) := by decide +kernel
theorem dX5_takesThing_69 : decode cX5_takesThing 69 = .ok (.aload_n 0, 1) := by decide +kernel
theorem dX5_takesThing_70 : decode cX5_takesThing 70 = .ok (.getfield 12, 3) := by decide +kernel
theorem dX5_takesThing_73 : decode cX5_takesThing 73 = .ok (.aload_n 1, 1) := by decide +kernel
theorem dX5_takesThing_74 : decode cX5_takesThing 74 = .ok (.invokevirtual 88, 3) := by decide +kernel
theorem dX5_takesThing_77 : decode cX5_takesThing 77 = .ok (.iconst 1, 1) := by decide +kernel
theorem dX5_takesThing_78 : decode cX5_takesThing 78 = .ok (.ireturn, 1) := by decide +kernel
theorem dX5_takesParcel_0 : decode cX5_takesParcel 0 = .ok (.aload_n 0, 1) := by decide +kernel
theorem dX5_takesParcel_1 : decode cX5_takesParcel 1 = .ok (.getfield 41, 3) := by decide +kernel
theorem dX5_takesParcel_4 : decode cX5_takesParcel 4 = .ok (.iconst 4, 1) := by decide +kernel
theorem dX5_takesParcel_5 : decode cX5_takesParcel 5 = .ok (.if_icmp .ge 43, 3) := by decide +kernel
theorem dX5_takesParcel_8 : decode cX5_takesParcel 8 = .ok (.aload_n 1, 1) := by decide +kernel
theorem dX5_takesParcel_9 : decode cX5_takesParcel 9 = .ok (.iconst 0, 1) := by decide +kernel
theorem dX5_takesParcel_10 : decode cX5_takesParcel 10 = .ok (.invokestatic 63, 3) := by decide +kernel
theorem dX5_takesParcel_13 : decode cX5_takesParcel 13 = .ok (.iconst 0, 1) := by decide +kernel
theorem dX5_takesParcel_14 : decode cX5_takesParcel 14 = .ok (.bipush 9, 2) := by decide +kernel
theorem dX5_takesParcel_16 : decode cX5_takesParcel 16 = .ok (.invokestatic 85, 3) := by decide +kernel
theorem dX5_takesParcel_19 : decode cX5_takesParcel 19 = .ok (.ifCond .eq 29, 3) := by decide +kernel
theorem dX5_takesParcel_22 : decode cX5_takesParcel 22 = .ok (.aload_n 1, 1) := by decide +kernel
theorem dX5_takesParcel_23 : decode cX5_takesParcel 23 = .ok (.iconst 1, 1) := by decide +kernel
theorem dX5_takesParcel_24 : decode cX5_takesParcel 24 = .ok (.invokestatic 63, 3) := by decide +kernel
theorem dX5_takesParcel_27 : decode cX5_takesParcel 27 = .ok (.iconst 0, 1) := by decide +kernel
theorem dX5_takesParcel_28 : decode cX5_takesParcel 28 = .ok (.iconst 1, 1) := by decide +kernel
theorem dX5_takesParcel_29 : decode cX5_takesParcel 29 = .ok (.invokestatic 85, 3) := by decide +kernel
theorem dX5_takesParcel_32 : decode cX5_takesParcel 32 = .ok (.ifCond .eq 16, 3) := by decide +kernel
theorem dX5_takesParcel_35 : decode cX5_takesParcel 35 = .ok (.aload_n 1, 1) := by decide +kernel
theorem dX5_takesParcel_36 : decode cX5_takesParcel 36 = .ok (.iconst 2, 1) := by decide +kernel
theorem dX5_takesParcel_37 : decode cX5_takesParcel 37 = .ok (.invokestatic 63, 3) := by decide +kernel
theorem dX5_takesParcel_40 : decode cX5_takesParcel 40 = .ok (.iconst 1, 1) := by decide +kernel
theorem dX5_takesParcel_41 : decode cX5_takesParcel 41 = .ok (.iconst 2, 1) := by decide +kernel
theorem dX5_takesParcel_42 : decode cX5_takesParcel 42 = .ok (.invokestatic 85, 3) := by decide +kernel
theorem dX5_takesParcel_45 : decode cX5_takesParcel 45 = .ok (.ifCond .ne 5, 3) := by decide +kernel
theorem dX5_takesParcel_48 : decode cX5_takesParcel 48 = .ok (.iconst 0, 1) := by decide +kernel
theorem dX5_takesParcel_49 : decode cX5_takesParcel 49 = .ok (.ireturn, 1) := by decide +kernel
theorem dX5_takesParcel_50 : decode cX5_takesParcel 50 = .ok (.aload_n 0, 1) := by decide +kernel
theorem dX5_takesParcel_51 : decode cX5_takesParcel 51 = .ok (.getfield 18, 3) := by decide +kernel
theorem dX5_takesParcel_54 : decode cX5_takesParcel 54 = .ok (.aload_n 0, 1) := by decide +kernel
theorem dX5_takesParcel_55 : decode cX5_takesParcel 55 = .ok (.getfield 41, 3) := by decide +kernel
theorem dX5_takesParcel_58 : decode cX5_takesParcel 58 = .ok (.aload_n 1, 1) := by decide +kernel
theorem dX5_takesParcel_59 : decode cX5_takesParcel 59 = .ok (.iconst 0, 1) := by decide +kernel
theorem dX5_takesParcel_60 : decode cX5_takesParcel 60 = .ok (.invokestatic 63, 3) := by decide +kernel
theorem dX5_takesParcel_63 : decode cX5_takesParcel 63 = .ok (.invokestatic 92, 3) := by decide +kernel
theorem dX5_takesParcel_66 : decode cX5_takesParcel 66 = .ok (.aload_n 0, 1) := by decide +kernel
theorem dX5_takesParcel_67 : decode cX5_takesParcel 67 = .ok (.getfield 22, 3) := by decide +kernel
theorem dX5_takesParcel_70 : decode cX5_takesParcel 70 = .ok (.aload_n 0, 1) := by decide +kernel
theorem dX5_takesParcel_71 : decode cX5_takesParcel 71 = .ok (.getfield 41, 3) := by decide +kernel
theorem dX5_takesParcel_74 : decode cX5_takesParcel 74 = .ok (.aload_n 1, 1) := by decide +kernel
theorem dX5_takesParcel_75 : decode cX5_takesParcel 75 = .ok (.iconst 1, 1) := by decide +kernel
theorem dX5_takesParcel_76 : decode cX5_takesParcel 76 = .ok (.invokestatic 63, 3) := by decide +kernel
theorem dX5_takesParcel_79 : decode cX5_takesParcel 79 = .ok (.invokestatic 92, 3) := by decide +kernel
theorem dX5_takesParcel_82 : decode cX5_takesParcel 82 = .ok (.aload_n 0, 1) := by decide +kernel
theorem dX5_takesParcel_83 : decode cX5_takesParcel 83 = .ok (.getfield 25, 3) := by decide +kernel
theorem dX5_takesParcel_86 : decode cX5_takesParcel 86 = .ok (.aload_n 0, 1) := by decide +kernel
theorem dX5_takesParcel_87 : decode cX5_takesParcel 87 = .ok (.getfield 41, 3) := by decide +kernel
theorem dX5_takesParcel_90 : decode cX5_takesParcel 90 = .ok (.aload_n 1, 1) := by decide +kernel
theorem dX5_takesParcel_91 : decode cX5_takesParcel 91 = .ok (.iconst 2, 1) := by decide +kernel
theorem dX5_takesParcel_92 : decode cX5_takesParcel 92 = .ok (.invokestatic 63, 3) := by decide +kernel
theorem dX5_takesParcel_95 : decode cX5_takesParcel 95 = .ok (.invokestatic 92, 3) := by decide +kernel
theorem dX5_takesParcel_98 : decode cX5_takesParcel 98 = .ok (.aload_n 0, 1) := by decide +kernel
theorem dX5_takesParcel_99 : decode cX5_takesParcel 99 = .ok (.dup, 1) := by decide +kernel
theorem dX5_takesParcel_100 : decode cX5_takesParcel 100 = .ok (.getfield 41, 3) := by decide +kernel
theorem dX5_takesParcel_103 : decode cX5_takesParcel 103 = .ok (.iconst 1, 1) := by decide +kernel
theorem dX5_takesParcel_104 : decode cX5_takesParcel 104 = .ok (.iadd, 1) := by decide +kernel
theorem dX5_takesParcel_105 : decode cX5_takesParcel 105 = .ok (.putfield 41, 3) := by decide +kernel
theorem dX5_takesParcel_108 : decode cX5_takesParcel 108 = .ok (.iconst 1, 1) := by decide +kernel
theorem dX5_takesParcel_109 : decode cX5_takesParcel 109 = .ok (.ireturn, 1) := by decide +kernel
theorem dX5_takesTruth_0 : decode cX5_takesTruth 0 = .ok (.iload_n 1, 1) := by decide +kernel
theorem dX5_takesTruth_1 : decode cX5_takesTruth 1 = .ok (.aload_n 0, 1) := by decide +kernel
theorem dX5_takesTruth_2 : decode cX5_takesTruth 2 = .ok (.getfield 41, 3) := by decide +kernel
theorem dX5_takesTruth_5 : decode cX5_takesTruth 5 = .ok (.invokestatic 96, 3) := by decide +kernel
theorem dX5_takesTruth_8 : decode cX5_takesTruth 8 = .ok (.ifCond .eq 17, 3) := by decide +kernel
theorem dX5_takesTruth_11 : decode cX5_takesTruth 11 = .ok (.iload_n 2, 1) := by decide +kernel
theorem dX5_takesTruth_12 : decode cX5_takesTruth 12 = .ok (.aload_n 0, 1) := by decide +kernel
theorem dX5_takesTruth_13 : decode cX5_takesTruth 13 = .ok (.getfield 12, 3) := by decide +kernel
theorem dX5_takesTruth_16 : decode cX5_takesTruth 16 = .ok (.getfield 82, 3) := by decide +kernel
theorem dX5_takesTruth_19 : decode cX5_takesTruth 19 = .ok (.invokestatic 96, 3) := by decide +kernel
theorem dX5_takesTruth_22 : decode cX5_takesTruth 22 = .ok (.ifCond .ne 5, 3) := by decide +kernel
theorem dX5_takesTruth_25 : decode cX5_takesTruth 25 = .ok (.iconst 0, 1) := by decide +kernel
theorem dX5_takesTruth_26 : decode cX5_takesTruth 26 = .ok (.ireturn, 1) := by decide +kernel
theorem dX5_takesTruth_27 : decode cX5_takesTruth 27 = .ok (.aload_n 0, 1) := by decide +kernel
theorem dX5_takesTruth_28 : decode cX5_takesTruth 28 = .ok (.dup, 1) := by decide +kernel
theorem dX5_takesTruth_29 : decode cX5_takesTruth 29 = .ok (.getfield 44, 3) := by decide +kernel
theorem dX5_takesTruth_32 : decode cX5_takesTruth 32 = .ok (.iconst 1, 1) := by decide +kernel
theorem dX5_takesTruth_33 : decode cX5_takesTruth 33 = .ok (.bipush 8, 2) := by decide +kernel
theorem dX5_takesTruth_35 : decode cX5_takesTruth 35 = .ok (.iload_n 1, 1) := by decide +kernel
theorem dX5_takesTruth_36 : decode cX5_takesTruth 36 = .ok (.imul, 1) := by decide +kernel
theorem dX5_takesTruth_37 : decode cX5_takesTruth 37 = .ok (.iload_n 2, 1) := by decide +kernel
theorem dX5_takesTruth_38 : decode cX5_takesTruth 38 = .ok (.iadd, 1) := by decide +kernel
theorem dX5_takesTruth_39 : decode cX5_takesTruth 39 = .ok (.ishl, 1) := by decide +kernel
theorem dX5_takesTruth_40 : decode cX5_takesTruth 40 = .ok (.ior, 1) := by decide +kernel
theorem dX5_takesTruth_41 : decode cX5_takesTruth 41 = .ok (.putfield 44, 3) := by decide +kernel
theorem dX5_takesTruth_44 : decode cX5_takesTruth 44 = .ok (.iconst 1, 1) := by decide +kernel
theorem dX5_takesTruth_45 : decode cX5_takesTruth 45 = .ok (.ireturn, 1) := by decide +kernel
theorem dX5_takesScale_0 : decode cX5_takesScale 0 = .ok (.iload_n 1, 1) := by decide +kernel
theorem dX5_takesScale_1 : decode cX5_takesScale 1 = .ok (.iconst 1, 1) := by decide +kernel
theorem dX5_takesScale_2 : decode cX5_takesScale 2 = .ok (.bipush 9, 2) := by decide +kernel
theorem dX5_takesScale_4 : decode cX5_takesScale 4 = .ok (.invokestatic 85, 3) := by decide +kernel
theorem dX5_takesScale_7 : decode cX5_takesScale 7 = .ok (.ifCond .ne 5, 3) := by decide +kernel
theorem dX5_takesScale_10 : decode cX5_takesScale 10 = .ok (.iconst 0, 1) := by decide +kernel
theorem dX5_takesScale_11 : decode cX5_takesScale 11 = .ok (.ireturn, 1) := by decide +kernel
theorem dX5_takesScale_12 : decode cX5_takesScale 12 = .ok (.aload_n 0, 1) := by decide +kernel
theorem dX5_takesScale_13 : decode cX5_takesScale 13 = .ok (.iload_n 1, 1) := by decide +kernel
theorem dX5_takesScale_14 : decode cX5_takesScale 14 = .ok (.putfield 28, 3) := by decide +kernel
theorem dX5_takesScale_17 : decode cX5_takesScale 17 = .ok (.iconst 1, 1) := by decide +kernel
theorem dX5_takesScale_18 : decode cX5_takesScale 18 = .ok (.ireturn, 1) := by decide +kernel
theorem dX5_takesApart_0 : decode cX5_takesApart 0 = .ok (.iload_n 1, 1) := by decide +kernel
theorem dX5_takesApart_1 : decode cX5_takesApart 1 = .ok (.iconst 0, 1) := by decide +kernel
theorem dX5_takesApart_2 : decode cX5_takesApart 2 = .ok (.bipush 40, 2) := by decide +kernel
theorem dX5_takesApart_4 : decode cX5_takesApart 4 = .ok (.invokestatic 85, 3) := by decide +kernel
theorem dX5_takesApart_7 : decode cX5_takesApart 7 = .ok (.ifCond .ne 5, 3) := by decide +kernel
theorem dX5_takesApart_10 : decode cX5_takesApart 10 = .ok (.iconst 0, 1) := by decide +kernel
theorem dX5_takesApart_11 : decode cX5_takesApart 11 = .ok (.ireturn, 1) := by decide +kernel
theorem dX5_takesApart_12 : decode cX5_takesApart 12 = .ok (.aload_n 0, 1) := by decide +kernel
theorem dX5_takesApart_13 : decode cX5_takesApart 13 = .ok (.iload_n 1, 1) := by decide +kernel
theorem dX5_takesApart_14 : decode cX5_takesApart 14 = .ok (.putfield 47, 3) := by decide +kernel
theorem dX5_takesApart_17 : decode cX5_takesApart 17 = .ok (.iconst 1, 1) := by decide +kernel
theorem dX5_takesApart_18 : decode cX5_takesApart 18 = .ok (.ireturn, 1) := by decide +kernel
theorem dX5_takesSort_0 : decode cX5_takesSort 0 = .ok (.iload_n 1, 1) := by decide +kernel
theorem dX5_takesSort_1 : decode cX5_takesSort 1 = .ok (.invokestatic 99, 3) := by decide +kernel
theorem dX5_takesSort_4 : decode cX5_takesSort 4 = .ok (.ifCond .eq 23, 3) := by decide +kernel
theorem dX5_takesSort_7 : decode cX5_takesSort 7 = .ok (.iload_n 2, 1) := by decide +kernel
theorem dX5_takesSort_8 : decode cX5_takesSort 8 = .ok (.iconst 0, 1) := by decide +kernel
theorem dX5_takesSort_9 : decode cX5_takesSort 9 = .ok (.bipush 9, 2) := by decide +kernel
theorem dX5_takesSort_11 : decode cX5_takesSort 11 = .ok (.invokestatic 85, 3) := by decide +kernel
theorem dX5_takesSort_14 : decode cX5_takesSort 14 = .ok (.ifCond .eq 13, 3) := by decide +kernel
theorem dX5_takesSort_17 : decode cX5_takesSort 17 = .ok (.iload_n 3, 1) := by decide +kernel
theorem dX5_takesSort_18 : decode cX5_takesSort 18 = .ok (.iconst 1, 1) := by decide +kernel
theorem dX5_takesSort_19 : decode cX5_takesSort 19 = .ok (.bipush 60, 2) := by decide +kernel
theorem dX5_takesSort_21 : decode cX5_takesSort 21 = .ok (.invokestatic 85, 3) := by decide +kernel
theorem dX5_takesSort_24 : decode cX5_takesSort 24 = .ok (.ifCond .ne 5, 3) := by decide +kernel
theorem dX5_takesSort_27 : decode cX5_takesSort 27 = .ok (.iconst 0, 1) := by decide +kernel
theorem dX5_takesSort_28 : decode cX5_takesSort 28 = .ok (.ireturn, 1) := by decide +kernel
theorem dX5_takesSort_29 : decode cX5_takesSort 29 = .ok (.aload_n 0, 1) := by decide +kernel
theorem dX5_takesSort_30 : decode cX5_takesSort 30 = .ok (.getfield 32, 3) := by decide +kernel
theorem dX5_takesSort_33 : decode cX5_takesSort 33 = .ok (.iload_n 1, 1) := by decide +kernel
theorem dX5_takesSort_34 : decode cX5_takesSort 34 = .ok (.iload_n 2, 1) := by decide +kernel
theorem dX5_takesSort_35 : decode cX5_takesSort 35 = .ok (.invokestatic 92, 3) := by decide +kernel
theorem dX5_takesSort_38 : decode cX5_takesSort 38 = .ok (.aload_n 0, 1) := by decide +kernel
theorem dX5_takesSort_39 : decode cX5_takesSort 39 = .ok (.getfield 35, 3) := by decide +kernel
theorem dX5_takesSort_42 : decode cX5_takesSort 42 = .ok (.iload_n 1, 1) := by decide +kernel
theorem dX5_takesSort_43 : decode cX5_takesSort 43 = .ok (.iload_n 3, 1) := by decide +kernel
theorem dX5_takesSort_44 : decode cX5_takesSort 44 = .ok (.invokestatic 92, 3) := by decide +kernel
theorem dX5_takesSort_47 : decode cX5_takesSort 47 = .ok (.iconst 1, 1) := by decide +kernel
theorem dX5_takesSort_48 : decode cX5_takesSort 48 = .ok (.ireturn, 1) := by decide +kernel
theorem dX5_isWorld_0 : decode cX5_isWorld 0 = .ok (.iconst 0, 1) := by decide +kernel
theorem dX5_isWorld_1 : decode cX5_isWorld 1 = .ok (.istore_n 2, 1) := by decide +kernel
theorem dX5_isWorld_2 : decode cX5_isWorld 2 = .ok (.iconst 0, 1) := by decide +kernel
theorem dX5_isWorld_3 : decode cX5_isWorld 3 = .ok (.istore_n 3, 1) := by decide +kernel
theorem dX5_isWorld_4 : decode cX5_isWorld 4 = .ok (.iload_n 3, 1) := by decide +kernel
theorem dX5_isWorld_5 : decode cX5_isWorld 5 = .ok (.aload_n 0, 1) := by decide +kernel
theorem dX5_isWorld_6 : decode cX5_isWorld 6 = .ok (.getfield 41, 3) := by decide +kernel
theorem dX5_isWorld_9 : decode cX5_isWorld 9 = .ok (.if_icmp .ge 46, 3) := by decide +kernel
theorem dX5_isWorld_12 : decode cX5_isWorld 12 = .ok (.iload_n 1, 1) := by decide +kernel
theorem dX5_isWorld_13 : decode cX5_isWorld 13 = .ok (.iload_n 3, 1) := by decide +kernel
theorem dX5_isWorld_14 : decode cX5_isWorld 14 = .ok (.invokestatic 102, 3) := by decide +kernel
theorem dX5_isWorld_17 : decode cX5_isWorld 17 = .ok (.istore 4, 2) := by decide +kernel
theorem dX5_isWorld_19 : decode cX5_isWorld 19 = .ok (.iload 4, 2) := by decide +kernel
theorem dX5_isWorld_21 : decode cX5_isWorld 21 = .ok (.invokestatic 106, 3) := by decide +kernel
theorem dX5_isWorld_24 : decode cX5_isWorld 24 = .ok (.aload_n 0, 1) := by decide +kernel
theorem dX5_isWorld_25 : decode cX5_isWorld 25 = .ok (.getfield 25, 3) := by decide +kernel
theorem dX5_isWorld_28 : decode cX5_isWorld 28 = .ok (.iload_n 3, 1) := by decide +kernel
theorem dX5_isWorld_29 : decode cX5_isWorld 29 = .ok (.invokestatic 63, 3) := by decide +kernel
theorem dX5_isWorld_32 : decode cX5_isWorld 32 = .ok (.if_icmp .ne 10, 3) := by decide +kernel
theorem dX5_isWorld_35 : decode cX5_isWorld 35 = .ok (.iload 4, 2) := by decide +kernel
theorem dX5_isWorld_37 : decode cX5_isWorld 37 = .ok (.iload_n 2, 1) := by decide +kernel
theorem dX5_isWorld_38 : decode cX5_isWorld 38 = .ok (.iand, 1) := by decide +kernel
theorem dX5_isWorld_39 : decode cX5_isWorld 39 = .ok (.ifCond .eq 5, 3) := by decide +kernel
theorem dX5_isWorld_42 : decode cX5_isWorld 42 = .ok (.iconst 0, 1) := by decide +kernel
theorem dX5_isWorld_43 : decode cX5_isWorld 43 = .ok (.ireturn, 1) := by decide +kernel
theorem dX5_isWorld_44 : decode cX5_isWorld 44 = .ok (.iload_n 2, 1) := by decide +kernel
theorem dX5_isWorld_45 : decode cX5_isWorld 45 = .ok (.iload 4, 2) := by decide +kernel
theorem dX5_isWorld_47 : decode cX5_isWorld 47 = .ok (.ior, 1) := by decide +kernel
theorem dX5_isWorld_48 : decode cX5_isWorld 48 = .ok (.istore_n 2, 1) := by decide +kernel
theorem dX5_isWorld_49 : decode cX5_isWorld 49 = .ok (.iinc 3 1, 3) := by decide +kernel
theorem dX5_isWorld_52 : decode cX5_isWorld 52 = .ok (.goto (-48), 3) := by decide +kernel
theorem dX5_isWorld_55 : decode cX5_isWorld 55 = .ok (.aload_n 0, 1) := by decide +kernel
theorem dX5_isWorld_56 : decode cX5_isWorld 56 = .ok (.iload_n 1, 1) := by decide +kernel
theorem dX5_isWorld_57 : decode cX5_isWorld 57 = .ok (.invokevirtual 112, 3) := by decide +kernel
theorem dX5_isWorld_60 : decode cX5_isWorld 60 = .ok (.ireturn, 1) := by decide +kernel
theorem dX5_isFair_0 : decode cX5_isFair 0 = .ok (.aload_n 0, 1) := by decide +kernel
theorem dX5_isFair_1 : decode cX5_isFair 1 = .ok (.iconst 0, 1) := by decide +kernel
theorem dX5_isFair_2 : decode cX5_isFair 2 = .ok (.invokevirtual 115, 3) := by decide +kernel
theorem dX5_isFair_5 : decode cX5_isFair 5 = .ok (.ifCond .eq 34, 3) := by decide +kernel
theorem dX5_isFair_8 : decode cX5_isFair 8 = .ok (.aload_n 0, 1) := by decide +kernel
theorem dX5_isFair_9 : decode cX5_isFair 9 = .ok (.iconst 1, 1) := by decide +kernel
theorem dX5_isFair_10 : decode cX5_isFair 10 = .ok (.invokevirtual 115, 3) := by decide +kernel
theorem dX5_isFair_13 : decode cX5_isFair 13 = .ok (.ifCond .eq 26, 3) := by decide +kernel
theorem dX5_isFair_16 : decode cX5_isFair 16 = .ok (.aload_n 0, 1) := by decide +kernel
theorem dX5_isFair_17 : decode cX5_isFair 17 = .ok (.iload_n 1, 1) := by decide +kernel
theorem dX5_isFair_18 : decode cX5_isFair 18 = .ok (.iconst 0, 1) := by decide +kernel
theorem dX5_isFair_19 : decode cX5_isFair 19 = .ok (.invokevirtual 118, 3) := by decide +kernel
theorem dX5_isFair_22 : decode cX5_isFair 22 = .ok (.aload_n 0, 1) := by decide +kernel
theorem dX5_isFair_23 : decode cX5_isFair 23 = .ok (.iload_n 1, 1) := by decide +kernel
theorem dX5_isFair_24 : decode cX5_isFair 24 = .ok (.iconst 1, 1) := by decide +kernel
theorem dX5_isFair_25 : decode cX5_isFair 25 = .ok (.invokevirtual 118, 3) := by decide +kernel
theorem dX5_isFair_28 : decode cX5_isFair 28 = .ok (.isub, 1) := by decide +kernel
theorem dX5_isFair_29 : decode cX5_isFair 29 = .ok (.invokestatic 121, 3) := by decide +kernel
theorem dX5_isFair_32 : decode cX5_isFair 32 = .ok (.aload_n 0, 1) := by decide +kernel
theorem dX5_isFair_33 : decode cX5_isFair 33 = .ok (.getfield 47, 3) := by decide +kernel
theorem dX5_isFair_36 : decode cX5_isFair 36 = .ok (.if_icmp .gt 7, 3) := by decide +kernel
theorem dX5_isFair_39 : decode cX5_isFair 39 = .ok (.iconst 1, 1) := by decide +kernel
theorem dX5_isFair_40 : decode cX5_isFair 40 = .ok (.goto 4, 3) := by decide +kernel
theorem dX5_isFair_43 : decode cX5_isFair 43 = .ok (.iconst 0, 1) := by decide +kernel
theorem dX5_isFair_44 : decode cX5_isFair 44 = .ok (.ireturn, 1) := by decide +kernel
theorem dX5_hasParcels_0 : decode cX5_hasParcels 0 = .ok (.iconst 0, 1) := by decide +kernel
theorem dX5_hasParcels_1 : decode cX5_hasParcels 1 = .ok (.istore_n 2, 1) := by decide +kernel
theorem dX5_hasParcels_2 : decode cX5_hasParcels 2 = .ok (.iload_n 2, 1) := by decide +kernel
theorem dX5_hasParcels_3 : decode cX5_hasParcels 3 = .ok (.aload_n 0, 1) := by decide +kernel
theorem dX5_hasParcels_4 : decode cX5_hasParcels 4 = .ok (.getfield 41, 3) := by decide +kernel
theorem dX5_hasParcels_7 : decode cX5_hasParcels 7 = .ok (.if_icmp .ge 23, 3) := by decide +kernel
theorem dX5_hasParcels_10 : decode cX5_hasParcels 10 = .ok (.aload_n 0, 1) := by decide +kernel
theorem dX5_hasParcels_11 : decode cX5_hasParcels 11 = .ok (.getfield 22, 3) := by decide +kernel
theorem dX5_hasParcels_14 : decode cX5_hasParcels 14 = .ok (.iload_n 2, 1) := by decide +kernel
theorem dX5_hasParcels_15 : decode cX5_hasParcels 15 = .ok (.invokestatic 63, 3) := by decide +kernel
theorem dX5_hasParcels_18 : decode cX5_hasParcels 18 = .ok (.iload_n 1, 1) := by decide +kernel
theorem dX5_hasParcels_19 : decode cX5_hasParcels 19 = .ok (.if_icmp .ne 5, 3) := by decide +kernel
theorem dX5_hasParcels_22 : decode cX5_hasParcels 22 = .ok (.iconst 1, 1) := by decide +kernel
theorem dX5_hasParcels_23 : decode cX5_hasParcels 23 = .ok (.ireturn, 1) := by decide +kernel
theorem dX5_hasParcels_24 : decode cX5_hasParcels 24 = .ok (.iinc 2 1, 3) := by decide +kernel
theorem dX5_hasParcels_27 : decode cX5_hasParcels 27 = .ok (.goto (-25), 3) := by decide +kernel
theorem dX5_hasParcels_30 : decode cX5_hasParcels 30 = .ok (.iconst 0, 1) := by decide +kernel
theorem dX5_hasParcels_31 : decode cX5_hasParcels 31 = .ok (.ireturn, 1) := by decide +kernel
theorem dX5_worthFor_0 : decode cX5_worthFor 0 = .ok (.iconst 0, 1) := by decide +kernel
theorem dX5_worthFor_1 : decode cX5_worthFor 1 = .ok (.istore_n 3, 1) := by decide +kernel
theorem dX5_worthFor_2 : decode cX5_worthFor 2 = .ok (.iconst 0, 1) := by decide +kernel
theorem dX5_worthFor_3 : decode cX5_worthFor 3 = .ok (.istore 4, 2) := by decide +kernel
theorem dX5_worthFor_5 : decode cX5_worthFor 5 = .ok (.iload 4, 2) := by decide +kernel
theorem dX5_worthFor_7 : decode cX5_worthFor 7 = .ok (.aload_n 0, 1) := by decide +kernel
theorem dX5_worthFor_8 : decode cX5_worthFor 8 = .ok (.getfield 41, 3) := by decide +kernel
theorem dX5_worthFor_11 : decode cX5_worthFor 11 = .ok (.if_icmp .ge 31, 3) := by decide +kernel
theorem dX5_worthFor_14 : decode cX5_worthFor 14 = .ok (.aload_n 0, 1) := by decide +kernel
theorem dX5_worthFor_15 : decode cX5_worthFor 15 = .ok (.getfield 22, 3) := by decide +kernel
theorem dX5_worthFor_18 : decode cX5_worthFor 18 = .ok (.iload 4, 2) := by decide +kernel
theorem dX5_worthFor_20 : decode cX5_worthFor 20 = .ok (.invokestatic 63, 3) := by decide +kernel
theorem dX5_worthFor_23 : decode cX5_worthFor 23 = .ok (.iload_n 2, 1) := by decide +kernel
theorem dX5_worthFor_24 : decode cX5_worthFor 24 = .ok (.if_icmp .ne 12, 3) := by decide +kernel
theorem dX5_worthFor_27 : decode cX5_worthFor 27 = .ok (.iload_n 3, 1) := by decide +kernel
theorem dX5_worthFor_28 : decode cX5_worthFor 28 = .ok (.iload_n 1, 1) := by decide +kernel
theorem dX5_worthFor_29 : decode cX5_worthFor 29 = .ok (.iload 4, 2) := by decide +kernel
theorem dX5_worthFor_31 : decode cX5_worthFor 31 = .ok (.invokestatic 102, 3) := by decide +kernel
theorem dX5_worthFor_34 : decode cX5_worthFor 34 = .ok (.ior, 1) := by decide +kernel
theorem dX5_worthFor_35 : decode cX5_worthFor 35 = .ok (.istore_n 3, 1) := by decide +kernel
theorem dX5_worthFor_36 : decode cX5_worthFor 36 = .ok (.iinc 4 1, 3) := by decide +kernel
theorem dX5_worthFor_39 : decode cX5_worthFor 39 = .ok (.goto (-34), 3) := by decide +kernel
theorem dX5_worthFor_42 : decode cX5_worthFor 42 = .ok (.aload_n 0, 1) := by decide +kernel
theorem dX5_worthFor_43 : decode cX5_worthFor 43 = .ok (.getfield 12, 3) := by decide +kernel
theorem dX5_worthFor_46 : decode cX5_worthFor 46 = .ok (.getfield 126, 3) := by decide +kernel
theorem dX5_worthFor_49 : decode cX5_worthFor 49 = .ok (.iload_n 3, 1) := by decide +kernel
theorem dX5_worthFor_50 : decode cX5_worthFor 50 = .ok (.invokestatic 63, 3) := by decide +kernel
theorem dX5_worthFor_53 : decode cX5_worthFor 53 = .ok (.ireturn, 1) := by decide +kernel
theorem dX5_chanceOf_0 : decode cX5_chanceOf 0 = .ok (.iconst 0, 1) := by decide +kernel
theorem dX5_chanceOf_1 : decode cX5_chanceOf 1 = .ok (.istore_n 2, 1) := by decide +kernel
theorem dX5_chanceOf_2 : decode cX5_chanceOf 2 = .ok (.iconst 0, 1) := by decide +kernel
theorem dX5_chanceOf_3 : decode cX5_chanceOf 3 = .ok (.istore_n 3, 1) := by decide +kernel
theorem dX5_chanceOf_4 : decode cX5_chanceOf 4 = .ok (.iload_n 3, 1) := by decide +kernel
theorem dX5_chanceOf_5 : decode cX5_chanceOf 5 = .ok (.aload_n 0, 1) := by decide +kernel
theorem dX5_chanceOf_6 : decode cX5_chanceOf 6 = .ok (.getfield 41, 3) := by decide +kernel
theorem dX5_chanceOf_9 : decode cX5_chanceOf 9 = .ok (.if_icmp .ge 17, 3) := by decide +kernel
theorem dX5_chanceOf_12 : decode cX5_chanceOf 12 = .ok (.iload_n 2, 1) := by decide +kernel
theorem dX5_chanceOf_13 : decode cX5_chanceOf 13 = .ok (.iload_n 1, 1) := by decide +kernel
theorem dX5_chanceOf_14 : decode cX5_chanceOf 14 = .ok (.iload_n 3, 1) := by decide +kernel
theorem dX5_chanceOf_15 : decode cX5_chanceOf 15 = .ok (.invokestatic 102, 3) := by decide +kernel
theorem dX5_chanceOf_18 : decode cX5_chanceOf 18 = .ok (.ior, 1) := by decide +kernel
theorem dX5_chanceOf_19 : decode cX5_chanceOf 19 = .ok (.istore_n 2, 1) := by decide +kernel
theorem dX5_chanceOf_20 : decode cX5_chanceOf 20 = .ok (.iinc 3 1, 3) := by decide +kernel
theorem dX5_chanceOf_23 : decode cX5_chanceOf 23 = .ok (.goto (-19), 3) := by decide +kernel
theorem dX5_chanceOf_26 : decode cX5_chanceOf 26 = .ok (.aload_n 0, 1) := by decide +kernel
theorem dX5_chanceOf_27 : decode cX5_chanceOf 27 = .ok (.getfield 12, 3) := by decide +kernel
theorem dX5_chanceOf_30 : decode cX5_chanceOf 30 = .ok (.getfield 129, 3) := by decide +kernel
theorem dX5_chanceOf_33 : decode cX5_chanceOf 33 = .ok (.iload_n 2, 1) := by decide +kernel
theorem dX5_chanceOf_34 : decode cX5_chanceOf 34 = .ok (.invokestatic 63, 3) := by decide +kernel
theorem dX5_chanceOf_37 : decode cX5_chanceOf 37 = .ok (.ireturn, 1) := by decide +kernel
theorem dX5_weightWithBox_0 : decode cX5_weightWithBox 0 = .ok (.aload_n 0, 1) := by decide +kernel
theorem dX5_weightWithBox_1 : decode cX5_weightWithBox 1 = .ok (.getfield 18, 3) := by decide +kernel
theorem dX5_weightWithBox_4 : decode cX5_weightWithBox 4 = .ok (.iload_n 1, 1) := by decide +kernel
theorem dX5_weightWithBox_5 : decode cX5_weightWithBox 5 = .ok (.invokestatic 63, 3) := by decide +kernel
theorem dX5_weightWithBox_8 : decode cX5_weightWithBox 8 = .ok (.aload_n 0, 1) := by decide +kernel
theorem dX5_weightWithBox_9 : decode cX5_weightWithBox 9 = .ok (.getfield 12, 3) := by decide +kernel
theorem dX5_weightWithBox_12 : decode cX5_weightWithBox 12 = .ok (.getfield 132, 3) := by decide +kernel
theorem dX5_weightWithBox_15 : decode cX5_weightWithBox 15 = .ok (.iload_n 2, 1) := by decide +kernel
theorem dX5_weightWithBox_16 : decode cX5_weightWithBox 16 = .ok (.invokestatic 63, 3) := by decide +kernel
theorem dX5_weightWithBox_19 : decode cX5_weightWithBox 19 = .ok (.iadd, 1) := by decide +kernel
theorem dX5_weightWithBox_20 : decode cX5_weightWithBox 20 = .ok (.ireturn, 1) := by decide +kernel
theorem dX5_reply_0 : decode cX5_reply 0 = .ok (.iload_n 2, 1) := by decide +kernel
theorem dX5_reply_1 : decode cX5_reply 1 = .ok (.tableswitch 73 0 2 #[27, 55, 64], 27) := by decide +kernel
theorem dX5_reply_28 : decode cX5_reply 28 = .ok (.aload_n 0, 1) := by decide +kernel
theorem dX5_reply_29 : decode cX5_reply 29 = .ok (.aload_n 0, 1) := by decide +kernel
theorem dX5_reply_30 : decode cX5_reply 30 = .ok (.getfield 18, 3) := by decide +kernel
theorem dX5_reply_33 : decode cX5_reply 33 = .ok (.iload_n 1, 1) := by decide +kernel
theorem dX5_reply_34 : decode cX5_reply 34 = .ok (.invokestatic 63, 3) := by decide +kernel
theorem dX5_reply_37 : decode cX5_reply 37 = .ok (.aload_n 0, 1) := by decide +kernel
theorem dX5_reply_38 : decode cX5_reply 38 = .ok (.getfield 12, 3) := by decide +kernel
theorem dX5_reply_41 : decode cX5_reply 41 = .ok (.getfield 132, 3) := by decide +kernel
theorem dX5_reply_44 : decode cX5_reply 44 = .ok (.iload_n 3, 1) := by decide +kernel
theorem dX5_reply_45 : decode cX5_reply 45 = .ok (.invokestatic 63, 3) := by decide +kernel
theorem dX5_reply_48 : decode cX5_reply 48 = .ok (.iadd, 1) := by decide +kernel
theorem dX5_reply_49 : decode cX5_reply 49 = .ok (.iload 4, 2) := by decide +kernel
theorem dX5_reply_51 : decode cX5_reply 51 = .ok (.iadd, 1) := by decide +kernel
theorem dX5_reply_52 : decode cX5_reply 52 = .ok (.invokevirtual 135, 3) := by decide +kernel
theorem dX5_reply_55 : decode cX5_reply 55 = .ok (.ireturn, 1) := by decide +kernel
theorem dX5_reply_56 : decode cX5_reply 56 = .ok (.aload_n 0, 1) := by decide +kernel
theorem dX5_reply_57 : decode cX5_reply 57 = .ok (.getfield 12, 3) := by decide +kernel
theorem dX5_reply_60 : decode cX5_reply 60 = .ok (.iload_n 3, 1) := by decide +kernel
theorem dX5_reply_61 : decode cX5_reply 61 = .ok (.invokevirtual 138, 3) := by decide +kernel
theorem dX5_reply_64 : decode cX5_reply 64 = .ok (.ireturn, 1) := by decide +kernel
theorem dX5_reply_65 : decode cX5_reply 65 = .ok (.aload_n 0, 1) := by decide +kernel
theorem dX5_reply_66 : decode cX5_reply 66 = .ok (.getfield 12, 3) := by decide +kernel
theorem dX5_reply_69 : decode cX5_reply 69 = .ok (.iload_n 3, 1) := by decide +kernel
theorem dX5_reply_70 : decode cX5_reply 70 = .ok (.invokevirtual 141, 3) := by decide +kernel
theorem dX5_reply_73 : decode cX5_reply 73 = .ok (.ireturn, 1) := by decide +kernel
theorem dX5_reply_74 : decode cX5_reply 74 = .ok (.aload_n 0, 1) := by decide +kernel
theorem dX5_reply_75 : decode cX5_reply 75 = .ok (.getfield 12, 3) := by decide +kernel
theorem dX5_reply_78 : decode cX5_reply 78 = .ok (.iload_n 3, 1) := by decide +kernel
theorem dX5_reply_79 : decode cX5_reply 79 = .ok (.invokevirtual 144, 3) := by decide +kernel
theorem dX5_reply_82 : decode cX5_reply 82 = .ok (.ireturn, 1) := by decide +kernel
theorem dX5_inSteps_0 : decode cX5_inSteps 0 = .ok (.aload_n 0, 1) := by decide +kernel
theorem dX5_inSteps_1 : decode cX5_inSteps 1 = .ok (.getfield 28, 3) := by decide +kernel
theorem dX5_inSteps_4 : decode cX5_inSteps 4 = .ok (.ifCond .le 12, 3) := by decide +kernel
theorem dX5_inSteps_7 : decode cX5_inSteps 7 = .ok (.iload_n 1, 1) := by decide +kernel
theorem dX5_inSteps_8 : decode cX5_inSteps 8 = .ok (.aload_n 0, 1) := by decide +kernel
theorem dX5_inSteps_9 : decode cX5_inSteps 9 = .ok (.getfield 28, 3) := by decide +kernel
theorem dX5_inSteps_12 : decode cX5_inSteps 12 = .ok (.idiv, 1) := by decide +kernel
theorem dX5_inSteps_13 : decode cX5_inSteps 13 = .ok (.goto 4, 3) := by decide +kernel
theorem dX5_inSteps_16 : decode cX5_inSteps 16 = .ok (.iload_n 1, 1) := by decide +kernel
theorem dX5_inSteps_17 : decode cX5_inSteps 17 = .ok (.ireturn, 1) := by decide +kernel
theorem dX5_trials_0 : decode cX5_trials 0 = .ok (.iconst 4, 1) := by decide +kernel
theorem dX5_trials_1 : decode cX5_trials 1 = .ok (.aload_n 0, 1) := by decide +kernel
theorem dX5_trials_2 : decode cX5_trials 2 = .ok (.getfield 41, 3) := by decide +kernel
theorem dX5_trials_5 : decode cX5_trials 5 = .ok (.imul, 1) := by decide +kernel
theorem dX5_trials_6 : decode cX5_trials 6 = .ok (.ireturn, 1) := by decide +kernel
theorem dX5_mostWorlds_0 : decode cX5_mostWorlds 0 = .ok (.iconst 1, 1) := by decide +kernel
theorem dX5_mostWorlds_1 : decode cX5_mostWorlds 1 = .ok (.istore_n 1, 1) := by decide +kernel
theorem dX5_mostWorlds_2 : decode cX5_mostWorlds 2 = .ok (.aload_n 0, 1) := by decide +kernel
theorem dX5_mostWorlds_3 : decode cX5_mostWorlds 3 = .ok (.getfield 12, 3) := by decide +kernel
theorem dX5_mostWorlds_6 : decode cX5_mostWorlds 6 = .ok (.getfield 82, 3) := by decide +kernel
theorem dX5_mostWorlds_9 : decode cX5_mostWorlds 9 = .ok (.istore_n 2, 1) := by decide +kernel
theorem dX5_mostWorlds_10 : decode cX5_mostWorlds 10 = .ok (.iconst 0, 1) := by decide +kernel
theorem dX5_mostWorlds_11 : decode cX5_mostWorlds 11 = .ok (.istore_n 3, 1) := by decide +kernel
theorem dX5_mostWorlds_12 : decode cX5_mostWorlds 12 = .ok (.iload_n 3, 1) := by decide +kernel
theorem dX5_mostWorlds_13 : decode cX5_mostWorlds 13 = .ok (.aload_n 0, 1) := by decide +kernel
theorem dX5_mostWorlds_14 : decode cX5_mostWorlds 14 = .ok (.getfield 41, 3) := by decide +kernel
theorem dX5_mostWorlds_17 : decode cX5_mostWorlds 17 = .ok (.if_icmp .ge 46, 3) := by decide +kernel
theorem dX5_mostWorlds_20 : decode cX5_mostWorlds 20 = .ok (.iload_n 1, 1) := by decide +kernel
theorem dX5_mostWorlds_21 : decode cX5_mostWorlds 21 = .ok (.aload_n 0, 1) := by decide +kernel
theorem dX5_mostWorlds_22 : decode cX5_mostWorlds 22 = .ok (.getfield 25, 3) := by decide +kernel
theorem dX5_mostWorlds_25 : decode cX5_mostWorlds 25 = .ok (.iload_n 3, 1) := by decide +kernel
theorem dX5_mostWorlds_26 : decode cX5_mostWorlds 26 = .ok (.invokestatic 63, 3) := by decide +kernel
theorem dX5_mostWorlds_29 : decode cX5_mostWorlds 29 = .ok (.iconst 1, 1) := by decide +kernel
theorem dX5_mostWorlds_30 : decode cX5_mostWorlds 30 = .ok (.if_icmp .ne 7, 3) := by decide +kernel
theorem dX5_mostWorlds_33 : decode cX5_mostWorlds 33 = .ok (.iload_n 2, 1) := by decide +kernel
theorem dX5_mostWorlds_34 : decode cX5_mostWorlds 34 = .ok (.goto 10, 3) := by decide +kernel
theorem dX5_mostWorlds_37 : decode cX5_mostWorlds 37 = .ok (.iload_n 2, 1) := by decide +kernel
theorem dX5_mostWorlds_38 : decode cX5_mostWorlds 38 = .ok (.iload_n 2, 1) := by decide +kernel
theorem dX5_mostWorlds_39 : decode cX5_mostWorlds 39 = .ok (.iconst 1, 1) := by decide +kernel
theorem dX5_mostWorlds_40 : decode cX5_mostWorlds 40 = .ok (.isub, 1) := by decide +kernel
theorem dX5_mostWorlds_41 : decode cX5_mostWorlds 41 = .ok (.imul, 1) := by decide +kernel
theorem dX5_mostWorlds_42 : decode cX5_mostWorlds 42 = .ok (.iconst 2, 1) := by decide +kernel
theorem dX5_mostWorlds_43 : decode cX5_mostWorlds 43 = .ok (.idiv, 1) := by decide +kernel
theorem dX5_mostWorlds_44 : decode cX5_mostWorlds 44 = .ok (.imul, 1) := by decide +kernel
theorem dX5_mostWorlds_45 : decode cX5_mostWorlds 45 = .ok (.istore_n 1, 1) := by decide +kernel
theorem dX5_mostWorlds_46 : decode cX5_mostWorlds 46 = .ok (.iload_n 2, 1) := by decide +kernel
theorem dX5_mostWorlds_47 : decode cX5_mostWorlds 47 = .ok (.aload_n 0, 1) := by decide +kernel
theorem dX5_mostWorlds_48 : decode cX5_mostWorlds 48 = .ok (.getfield 25, 3) := by decide +kernel
theorem dX5_mostWorlds_51 : decode cX5_mostWorlds 51 = .ok (.iload_n 3, 1) := by decide +kernel
theorem dX5_mostWorlds_52 : decode cX5_mostWorlds 52 = .ok (.invokestatic 63, 3) := by decide +kernel
theorem dX5_mostWorlds_55 : decode cX5_mostWorlds 55 = .ok (.isub, 1) := by decide +kernel
theorem dX5_mostWorlds_56 : decode cX5_mostWorlds 56 = .ok (.istore_n 2, 1) := by decide +kernel
theorem dX5_mostWorlds_57 : decode cX5_mostWorlds 57 = .ok (.iinc 3 1, 3) := by decide +kernel
theorem dX5_mostWorlds_60 : decode cX5_mostWorlds 60 = .ok (.goto (-48), 3) := by decide +kernel
theorem dX5_mostWorlds_63 : decode cX5_mostWorlds 63 = .ok (.iload_n 1, 1) := by decide +kernel
theorem dX5_mostWorlds_64 : decode cX5_mostWorlds 64 = .ok (.ireturn, 1) := by decide +kernel
theorem dX5_listWorlds_0 : decode cX5_listWorlds 0 = .ok (.aload_n 1, 1) := by decide +kernel
theorem dX5_listWorlds_1 : decode cX5_listWorlds 1 = .ok (.invokevirtual 147, 3) := by decide +kernel
theorem dX5_listWorlds_4 : decode cX5_listWorlds 4 = .ok (.aload_n 0, 1) := by decide +kernel
theorem dX5_listWorlds_5 : decode cX5_listWorlds 5 = .ok (.aload_n 1, 1) := by decide +kernel
theorem dX5_listWorlds_6 : decode cX5_listWorlds 6 = .ok (.iconst 0, 1) := by decide +kernel
theorem dX5_listWorlds_7 : decode cX5_listWorlds 7 = .ok (.iconst 0, 1) := by decide +kernel
theorem dX5_listWorlds_8 : decode cX5_listWorlds 8 = .ok (.iconst 0, 1) := by decide +kernel
theorem dX5_listWorlds_9 : decode cX5_listWorlds 9 = .ok (.invokestatic 150, 3) := by decide +kernel
theorem dX5_listWorlds_12 : decode cX5_listWorlds 12 = .ok (.return_, 1) := by decide +kernel
theorem dX5_addWorlds_0 : decode cX5_addWorlds 0 = .ok (.iload_n 2, 1) := by decide +kernel
theorem dX5_addWorlds_1 : decode cX5_addWorlds 1 = .ok (.aload_n 0, 1) := by decide +kernel
theorem dX5_addWorlds_2 : decode cX5_addWorlds 2 = .ok (.getfield 41, 3) := by decide +kernel
theorem dX5_addWorlds_5 : decode cX5_addWorlds 5 = .ok (.if_icmp .ge 8, 3) := by decide +kernel
theorem dX5_addWorlds_8 : decode cX5_addWorlds 8 = .ok (.iload_n 2, 1) := by decide +kernel
theorem dX5_addWorlds_9 : decode cX5_addWorlds 9 = .ok (.iconst 4, 1) := by decide +kernel
theorem dX5_addWorlds_10 : decode cX5_addWorlds 10 = .ok (.if_icmp .lt 19, 3) := by decide +kernel
theorem dX5_addWorlds_13 : decode cX5_addWorlds 13 = .ok (.aload_n 0, 1) := by decide +kernel
theorem dX5_addWorlds_14 : decode cX5_addWorlds 14 = .ok (.iload 4, 2) := by decide +kernel
theorem dX5_addWorlds_16 : decode cX5_addWorlds 16 = .ok (.invokevirtual 112, 3) := by decide +kernel
theorem dX5_addWorlds_19 : decode cX5_addWorlds 19 = .ok (.ifCond .eq 9, 3) := by decide +kernel
theorem dX5_addWorlds_22 : decode cX5_addWorlds 22 = .ok (.aload_n 1, 1) := by decide +kernel
theorem dX5_addWorlds_23 : decode cX5_addWorlds 23 = .ok (.iload 4, 2) := by decide +kernel
theorem dX5_addWorlds_25 : decode cX5_addWorlds 25 = .ok (.invokevirtual 154, 3) := by decide +kernel
theorem dX5_addWorlds_28 : decode cX5_addWorlds 28 = .ok (.return_, 1) := by decide +kernel
theorem dX5_addWorlds_29 : decode cX5_addWorlds 29 = .ok (.iconst 0, 1) := by decide +kernel
theorem dX5_addWorlds_30 : decode cX5_addWorlds 30 = .ok (.istore 5, 2) := by decide +kernel
theorem dX5_addWorlds_32 : decode cX5_addWorlds 32 = .ok (.iload 5, 2) := by decide +kernel
theorem dX5_addWorlds_34 : decode cX5_addWorlds 34 = .ok (.aload_n 0, 1) := by decide +kernel
theorem dX5_addWorlds_35 : decode cX5_addWorlds 35 = .ok (.getfield 12, 3) := by decide +kernel
theorem dX5_addWorlds_38 : decode cX5_addWorlds 38 = .ok (.getfield 82, 3) := by decide +kernel
theorem dX5_addWorlds_41 : decode cX5_addWorlds 41 = .ok (.if_icmp .ge 81, 3) := by decide +kernel
theorem dX5_addWorlds_44 : decode cX5_addWorlds 44 = .ok (.iconst 0, 1) := by decide +kernel
theorem dX5_addWorlds_45 : decode cX5_addWorlds 45 = .ok (.istore 6, 2) := by decide +kernel
theorem dX5_addWorlds_47 : decode cX5_addWorlds 47 = .ok (.iload 6, 2) := by decide +kernel
theorem dX5_addWorlds_49 : decode cX5_addWorlds 49 = .ok (.iload 5, 2) := by decide +kernel
theorem dX5_addWorlds_51 : decode cX5_addWorlds 51 = .ok (.if_icmp .gt 65, 3) := by decide +kernel
theorem dX5_addWorlds_54 : decode cX5_addWorlds 54 = .ok (.iconst 1, 1) := by decide +kernel
theorem dX5_addWorlds_55 : decode cX5_addWorlds 55 = .ok (.iload 5, 2) := by decide +kernel
theorem dX5_addWorlds_57 : decode cX5_addWorlds 57 = .ok (.ishl, 1) := by decide +kernel
theorem dX5_addWorlds_58 : decode cX5_addWorlds 58 = .ok (.iconst 1, 1) := by decide +kernel
theorem dX5_addWorlds_59 : decode cX5_addWorlds 59 = .ok (.iload 6, 2) := by decide +kernel
theorem dX5_addWorlds_61 : decode cX5_addWorlds 61 = .ok (.ishl, 1) := by decide +kernel
theorem dX5_addWorlds_62 : decode cX5_addWorlds 62 = .ok (.ior, 1) := by decide +kernel
theorem dX5_addWorlds_63 : decode cX5_addWorlds 63 = .ok (.istore 7, 2) := by decide +kernel
theorem dX5_addWorlds_65 : decode cX5_addWorlds 65 = .ok (.iload 7, 2) := by decide +kernel
theorem dX5_addWorlds_67 : decode cX5_addWorlds 67 = .ok (.iload_n 3, 1) := by decide +kernel
theorem dX5_addWorlds_68 : decode cX5_addWorlds 68 = .ok (.iand, 1) := by decide +kernel
theorem dX5_addWorlds_69 : decode cX5_addWorlds 69 = .ok (.ifCond .ne 41, 3) := by decide +kernel
theorem dX5_addWorlds_72 : decode cX5_addWorlds 72 = .ok (.iload 7, 2) := by decide +kernel
theorem dX5_addWorlds_74 : decode cX5_addWorlds 74 = .ok (.invokestatic 106, 3) := by decide +kernel
theorem dX5_addWorlds_77 : decode cX5_addWorlds 77 = .ok (.aload_n 0, 1) := by decide +kernel
theorem dX5_addWorlds_78 : decode cX5_addWorlds 78 = .ok (.getfield 25, 3) := by decide +kernel
theorem dX5_addWorlds_81 : decode cX5_addWorlds 81 = .ok (.iload_n 2, 1) := by decide +kernel
theorem dX5_addWorlds_82 : decode cX5_addWorlds 82 = .ok (.invokestatic 63, 3) := by decide +kernel
theorem dX5_addWorlds_85 : decode cX5_addWorlds 85 = .ok (.if_icmp .ne 25, 3) := by decide +kernel
theorem dX5_addWorlds_88 : decode cX5_addWorlds 88 = .ok (.aload_n 0, 1) := by decide +kernel
theorem dX5_addWorlds_89 : decode cX5_addWorlds 89 = .ok (.aload_n 1, 1) := by decide +kernel
theorem dX5_addWorlds_90 : decode cX5_addWorlds 90 = .ok (.iload_n 2, 1) := by decide +kernel
theorem dX5_addWorlds_91 : decode cX5_addWorlds 91 = .ok (.iconst 1, 1) := by decide +kernel
theorem dX5_addWorlds_92 : decode cX5_addWorlds 92 = .ok (.iadd, 1) := by decide +kernel
theorem dX5_addWorlds_93 : decode cX5_addWorlds 93 = .ok (.iload_n 3, 1) := by decide +kernel
theorem dX5_addWorlds_94 : decode cX5_addWorlds 94 = .ok (.iload 7, 2) := by decide +kernel
theorem dX5_addWorlds_96 : decode cX5_addWorlds 96 = .ok (.ior, 1) := by decide +kernel
theorem dX5_addWorlds_97 : decode cX5_addWorlds 97 = .ok (.iload 4, 2) := by decide +kernel
theorem dX5_addWorlds_99 : decode cX5_addWorlds 99 = .ok (.iload 7, 2) := by decide +kernel
theorem dX5_addWorlds_101 : decode cX5_addWorlds 101 = .ok (.bipush 8, 2) := by decide +kernel
theorem dX5_addWorlds_103 : decode cX5_addWorlds 103 = .ok (.iload_n 2, 1) := by decide +kernel
theorem dX5_addWorlds_104 : decode cX5_addWorlds 104 = .ok (.imul, 1) := by decide +kernel
theorem dX5_addWorlds_105 : decode cX5_addWorlds 105 = .ok (.ishl, 1) := by decide +kernel
theorem dX5_addWorlds_106 : decode cX5_addWorlds 106 = .ok (.ior, 1) := by decide +kernel
theorem dX5_addWorlds_107 : decode cX5_addWorlds 107 = .ok (.invokestatic 150, 3) := by decide +kernel
theorem dX5_addWorlds_110 : decode cX5_addWorlds 110 = .ok (.iinc 6 1, 3) := by decide +kernel
theorem dX5_addWorlds_113 : decode cX5_addWorlds 113 = .ok (.goto (-66), 3) := by decide +kernel
theorem dX5_addWorlds_116 : decode cX5_addWorlds 116 = .ok (.iinc 5 1, 3) := by decide +kernel
theorem dX5_addWorlds_119 : decode cX5_addWorlds 119 = .ok (.goto (-87), 3) := by decide +kernel
theorem dX5_addWorlds_122 : decode cX5_addWorlds 122 = .ok (.return_, 1) := by decide +kernel
theorem dX6_init_0 : decode cX6_init 0 = .ok (.aload_n 0, 1) := by decide +kernel
theorem dX6_init_1 : decode cX6_init 1 = .ok (.invokespecial 1, 3) := by decide +kernel
theorem dX6_init_4 : decode cX6_init 4 = .ok (.aload_n 0, 1) := by decide +kernel
theorem dX6_init_5 : decode cX6_init 5 = .ok (.iconst 0, 1) := by decide +kernel
theorem dX6_init_6 : decode cX6_init 6 = .ok (.newarray .int, 2) := by decide +kernel
theorem dX6_init_8 : decode cX6_init 8 = .ok (.putfield 7, 3) := by decide +kernel
theorem dX6_init_11 : decode cX6_init 11 = .ok (.return_, 1) := by decide +kernel
theorem dX6_makeRoom_0 : decode cX6_makeRoom 0 = .ok (.iload_n 1, 1) := by decide +kernel
theorem dX6_makeRoom_1 : decode cX6_makeRoom 1 = .ok (.aload_n 0, 1) := by decide +kernel
theorem dX6_makeRoom_2 : decode cX6_makeRoom 2 = .ok (.getfield 7, 3) := by decide +kernel
theorem dX6_makeRoom_5 : decode cX6_makeRoom 5 = .ok (.arraylength, 1) := by decide +kernel
theorem dX6_makeRoom_6 : decode cX6_makeRoom 6 = .ok (.if_icmp .le 15, 3) := by decide +kernel
theorem dX6_makeRoom_9 : decode cX6_makeRoom 9 = .ok (.aload_n 0, 1) := by decide +kernel
theorem dX6_makeRoom_10 : decode cX6_makeRoom 10 = .ok (.iload_n 1, 1) := by decide +kernel
theorem dX6_makeRoom_11 : decode cX6_makeRoom 11 = .ok (.newarray .int, 2) := by decide +kernel
theorem dX6_makeRoom_13 : decode cX6_makeRoom 13 = .ok (.putfield 7, 3) := by decide +kernel
theorem dX6_makeRoom_16 : decode cX6_makeRoom 16 = .ok (.aload_n 0, 1) := by decide +kernel
theorem dX6_makeRoom_17 : decode cX6_makeRoom 17 = .ok (.iconst 0, 1) := by decide +kernel
theorem dX6_makeRoom_18 : decode cX6_makeRoom 18 = .ok (.putfield 13, 3) := by decide +kernel
theorem dX6_makeRoom_21 : decode cX6_makeRoom 21 = .ok (.return_, 1) := by decide +kernel
theorem dX6_clear_0 : decode cX6_clear 0 = .ok (.aload_n 0, 1) := by decide +kernel
theorem dX6_clear_1 : decode cX6_clear 1 = .ok (.iconst 0, 1) := by decide +kernel
theorem dX6_clear_2 : decode cX6_clear 2 = .ok (.putfield 13, 3) := by decide +kernel
theorem dX6_clear_5 : decode cX6_clear 5 = .ok (.return_, 1) := by decide +kernel
theorem dX6_add_0 : decode cX6_add 0 = .ok (.aload_n 0, 1) := by decide +kernel
theorem dX6_add_1 : decode cX6_add 1 = .ok (.getfield 13, 3) := by decide +kernel
theorem dX6_add_4 : decode cX6_add 4 = .ok (.aload_n 0, 1) := by decide +kernel
theorem dX6_add_5 : decode cX6_add 5 = .ok (.getfield 7, 3) := by decide +kernel
theorem dX6_add_8 : decode cX6_add 8 = .ok (.arraylength, 1) := by decide +kernel
theorem dX6_add_9 : decode cX6_add 9 = .ok (.if_icmp .ge 23, 3) := by decide +kernel
theorem dX6_add_12 : decode cX6_add 12 = .ok (.aload_n 0, 1) := by decide +kernel
theorem dX6_add_13 : decode cX6_add 13 = .ok (.getfield 7, 3) := by decide +kernel
theorem dX6_add_16 : decode cX6_add 16 = .ok (.aload_n 0, 1) := by decide +kernel
theorem dX6_add_17 : decode cX6_add 17 = .ok (.getfield 13, 3) := by decide +kernel
theorem dX6_add_20 : decode cX6_add 20 = .ok (.iload_n 1, 1) := by decide +kernel
theorem dX6_add_21 : decode cX6_add 21 = .ok (.iastore, 1) := by decide +kernel
theorem dX6_add_22 : decode cX6_add 22 = .ok (.aload_n 0, 1) := by decide +kernel
theorem dX6_add_23 : decode cX6_add 23 = .ok (.dup, 1) := by decide +kernel
theorem dX6_add_24 : decode cX6_add 24 = .ok (.getfield 13, 3) := by decide +kernel
theorem dX6_add_27 : decode cX6_add 27 = .ok (.iconst 1, 1) := by decide +kernel
theorem dX6_add_28 : decode cX6_add 28 = .ok (.iadd, 1) := by decide +kernel
theorem dX6_add_29 : decode cX6_add 29 = .ok (.putfield 13, 3) := by decide +kernel
theorem dX6_add_32 : decode cX6_add 32 = .ok (.return_, 1) := by decide +kernel
theorem dX6_take_0 : decode cX6_take 0 = .ok (.aload_n 0, 1) := by decide +kernel
theorem dX6_take_1 : decode cX6_take 1 = .ok (.getfield 7, 3) := by decide +kernel
theorem dX6_take_4 : decode cX6_take 4 = .ok (.iload_n 1, 1) := by decide +kernel
theorem dX6_take_5 : decode cX6_take 5 = .ok (.invokestatic 17, 3) := by decide +kernel
theorem dX6_take_8 : decode cX6_take 8 = .ok (.ireturn, 1) := by decide +kernel
theorem dX6_set_0 : decode cX6_set 0 = .ok (.aload_n 0, 1) := by decide +kernel
theorem dX6_set_1 : decode cX6_set 1 = .ok (.getfield 7, 3) := by decide +kernel
theorem dX6_set_4 : decode cX6_set 4 = .ok (.iload_n 1, 1) := by decide +kernel
theorem dX6_set_5 : decode cX6_set 5 = .ok (.iload_n 2, 1) := by decide +kernel
theorem dX6_set_6 : decode cX6_set 6 = .ok (.invokestatic 23, 3) := by decide +kernel
theorem dX6_set_9 : decode cX6_set 9 = .ok (.return_, 1) := by decide +kernel
theorem dX6_copy_0 : decode cX6_copy 0 = .ok (.aload_n 0, 1) := by decide +kernel
theorem dX6_copy_1 : decode cX6_copy 1 = .ok (.aload_n 1, 1) := by decide +kernel
theorem dX6_copy_2 : decode cX6_copy 2 = .ok (.getfield 13, 3) := by decide +kernel
theorem dX6_copy_5 : decode cX6_copy 5 = .ok (.aload_n 1, 1) := by decide +kernel
theorem dX6_copy_6 : decode cX6_copy 6 = .ok (.getfield 7, 3) := by decide +kernel
theorem dX6_copy_9 : decode cX6_copy 9 = .ok (.arraylength, 1) := by decide +kernel
theorem dX6_copy_10 : decode cX6_copy 10 = .ok (.aload_n 0, 1) := by decide +kernel
theorem dX6_copy_11 : decode cX6_copy 11 = .ok (.getfield 7, 3) := by decide +kernel
theorem dX6_copy_14 : decode cX6_copy 14 = .ok (.arraylength, 1) := by decide +kernel
theorem dX6_copy_15 : decode cX6_copy 15 = .ok (.invokestatic 27, 3) := by decide +kernel
theorem dX6_copy_18 : decode cX6_copy 18 = .ok (.invokestatic 27, 3) := by decide +kernel
theorem dX6_copy_21 : decode cX6_copy 21 = .ok (.putfield 13, 3) := by decide +kernel
theorem dX6_copy_24 : decode cX6_copy 24 = .ok (.aload_n 1, 1) := by decide +kernel
theorem dX6_copy_25 : decode cX6_copy 25 = .ok (.getfield 7, 3) := by decide +kernel
theorem dX6_copy_28 : decode cX6_copy 28 = .ok (.iconst 0, 1) := by decide +kernel
theorem dX6_copy_29 : decode cX6_copy 29 = .ok (.aload_n 0, 1) := by decide +kernel
theorem dX6_copy_30 : decode cX6_copy 30 = .ok (.getfield 7, 3) := by decide +kernel
theorem dX6_copy_33 : decode cX6_copy 33 = .ok (.iconst 0, 1) := by decide +kernel
theorem dX6_copy_34 : decode cX6_copy 34 = .ok (.aload_n 0, 1) := by decide +kernel
theorem dX6_copy_35 : decode cX6_copy 35 = .ok (.getfield 13, 3) := by decide +kernel
theorem dX6_copy_38 : decode cX6_copy 38 = .ok (.invokestatic 33, 3) := by decide +kernel
theorem dX6_copy_41 : decode cX6_copy 41 = .ok (.return_, 1) := by decide +kernel
theorem dX6_holds_0 : decode cX6_holds 0 = .ok (.iconst 0, 1) := by decide +kernel
theorem dX6_holds_1 : decode cX6_holds 1 = .ok (.istore_n 2, 1) := by decide +kernel
theorem dX6_holds_2 : decode cX6_holds 2 = .ok (.iload_n 2, 1) := by decide +kernel
theorem dX6_holds_3 : decode cX6_holds 3 = .ok (.aload_n 0, 1) := by decide +kernel
theorem dX6_holds_4 : decode cX6_holds 4 = .ok (.getfield 13, 3) := by decide +kernel
theorem dX6_holds_7 : decode cX6_holds 7 = .ok (.if_icmp .ge 20, 3) := by decide +kernel
theorem dX6_holds_10 : decode cX6_holds 10 = .ok (.aload_n 0, 1) := by decide +kernel
theorem dX6_holds_11 : decode cX6_holds 11 = .ok (.iload_n 2, 1) := by decide +kernel
theorem dX6_holds_12 : decode cX6_holds 12 = .ok (.invokevirtual 39, 3) := by decide +kernel
theorem dX6_holds_15 : decode cX6_holds 15 = .ok (.iload_n 1, 1) := by decide +kernel
theorem dX6_holds_16 : decode cX6_holds 16 = .ok (.if_icmp .ne 5, 3) := by decide +kernel
theorem dX6_holds_19 : decode cX6_holds 19 = .ok (.iconst 1, 1) := by decide +kernel
theorem dX6_holds_20 : decode cX6_holds 20 = .ok (.ireturn, 1) := by decide +kernel
theorem dX6_holds_21 : decode cX6_holds 21 = .ok (.iinc 2 1, 3) := by decide +kernel
theorem dX6_holds_24 : decode cX6_holds 24 = .ok (.goto (-22), 3) := by decide +kernel
theorem dX6_holds_27 : decode cX6_holds 27 = .ok (.iconst 0, 1) := by decide +kernel
theorem dX6_holds_28 : decode cX6_holds 28 = .ok (.ireturn, 1) := by decide +kernel
theorem dX6_narrow_0 : decode cX6_narrow 0 = .ok (.aload_n 0, 1) := by decide +kernel
theorem dX6_narrow_1 : decode cX6_narrow 1 = .ok (.getfield 13, 3) := by decide +kernel
theorem dX6_narrow_4 : decode cX6_narrow 4 = .ok (.istore 5, 2) := by decide +kernel
theorem dX6_narrow_6 : decode cX6_narrow 6 = .ok (.aload_n 0, 1) := by decide +kernel
theorem dX6_narrow_7 : decode cX6_narrow 7 = .ok (.invokevirtual 43, 3) := by decide +kernel
theorem dX6_narrow_10 : decode cX6_narrow 10 = .ok (.iconst 0, 1) := by decide +kernel
theorem dX6_narrow_11 : decode cX6_narrow 11 = .ok (.istore 6, 2) := by decide +kernel
theorem dX6_narrow_13 : decode cX6_narrow 13 = .ok (.iload 6, 2) := by decide +kernel
theorem dX6_narrow_15 : decode cX6_narrow 15 = .ok (.iload 5, 2) := by decide +kernel
theorem dX6_narrow_17 : decode cX6_narrow 17 = .ok (.if_icmp .ge 41, 3) := by decide +kernel
theorem dX6_narrow_20 : decode cX6_narrow 20 = .ok (.aload_n 0, 1) := by decide +kernel
theorem dX6_narrow_21 : decode cX6_narrow 21 = .ok (.iload 6, 2) := by decide +kernel
theorem dX6_narrow_23 : decode cX6_narrow 23 = .ok (.invokevirtual 39, 3) := by decide +kernel
theorem dX6_narrow_26 : decode cX6_narrow 26 = .ok (.istore 7, 2) := by decide +kernel
theorem dX6_narrow_28 : decode cX6_narrow 28 = .ok (.aload_n 1, 1) := by decide +kernel
theorem dX6_narrow_29 : decode cX6_narrow 29 = .ok (.iload_n 2, 1) := by decide +kernel
theorem dX6_narrow_30 : decode cX6_narrow 30 = .ok (.iload_n 3, 1) := by decide +kernel
theorem dX6_narrow_31 : decode cX6_narrow 31 = .ok (.iload 7, 2) := by decide +kernel
theorem dX6_narrow_33 : decode cX6_narrow 33 = .ok (.iload_n 2, 1) := by decide +kernel
theorem dX6_narrow_34 : decode cX6_narrow 34 = .ok (.invokestatic 46, 3) := by decide +kernel
theorem dX6_narrow_37 : decode cX6_narrow 37 = .ok (.iconst 0, 1) := by decide +kernel
theorem dX6_narrow_38 : decode cX6_narrow 38 = .ok (.invokevirtual 49, 3) := by decide +kernel
theorem dX6_narrow_41 : decode cX6_narrow 41 = .ok (.iload 4, 2) := by decide +kernel
theorem dX6_narrow_43 : decode cX6_narrow 43 = .ok (.if_icmp .ne 9, 3) := by decide +kernel
theorem dX6_narrow_46 : decode cX6_narrow 46 = .ok (.aload_n 0, 1) := by decide +kernel
theorem dX6_narrow_47 : decode cX6_narrow 47 = .ok (.iload 7, 2) := by decide +kernel
theorem dX6_narrow_49 : decode cX6_narrow 49 = .ok (.invokevirtual 55, 3) := by decide +kernel
theorem dX6_narrow_52 : decode cX6_narrow 52 = .ok (.iinc 6 1, 3) := by decide +kernel
theorem dX6_narrow_55 : decode cX6_narrow 55 = .ok (.goto (-42), 3) := by decide +kernel
theorem dX6_narrow_58 : decode cX6_narrow 58 = .ok (.return_, 1) := by decide +kernel
theorem dX7_init_0 : decode cX7_init 0 = .ok (.aload_n 0, 1) := by decide +kernel
theorem dX7_init_1 : decode cX7_init 1 = .ok (.invokespecial 3, 3) := by decide +kernel
theorem dX7_init_4 : decode cX7_init 4 = .ok (.aload_n 0, 1) := by decide +kernel
theorem dX7_init_5 : decode cX7_init 5 = .ok (.new 9, 3) := by decide +kernel
theorem dX7_init_8 : decode cX7_init 8 = .ok (.dup, 1) := by decide +kernel
theorem dX7_init_9 : decode cX7_init 9 = .ok (.invokespecial 11, 3) := by decide +kernel
theorem dX7_init_12 : decode cX7_init 12 = .ok (.putfield 12, 3) := by decide +kernel
theorem dX7_init_15 : decode cX7_init 15 = .ok (.aload_n 0, 1) := by decide +kernel
theorem dX7_init_16 : decode cX7_init 16 = .ok (.new 16, 3) := by decide +kernel
theorem dX7_init_19 : decode cX7_init 19 = .ok (.dup, 1) := by decide +kernel
theorem dX7_init_20 : decode cX7_init 20 = .ok (.invokespecial 18, 3) := by decide +kernel
theorem dX7_init_23 : decode cX7_init 23 = .ok (.putfield 19, 3) := by decide +kernel
theorem dX7_init_26 : decode cX7_init 26 = .ok (.aload_n 0, 1) := by decide +kernel
theorem dX7_init_27 : decode cX7_init 27 = .ok (.new 16, 3) := by decide +kernel
theorem dX7_init_30 : decode cX7_init 30 = .ok (.dup, 1) := by decide +kernel
theorem dX7_init_31 : decode cX7_init 31 = .ok (.invokespecial 18, 3) := by decide +kernel
theorem dX7_init_34 : decode cX7_init 34 = .ok (.putfield 23, 3) := by decide +kernel
theorem dX7_init_37 : decode cX7_init 37 = .ok (.aload_n 0, 1) := by decide +kernel
theorem dX7_init_38 : decode cX7_init 38 = .ok (.new 26, 3) := by decide +kernel
theorem dX7_init_41 : decode cX7_init 41 = .ok (.dup, 1) := by decide +kernel
theorem dX7_init_42 : decode cX7_init 42 = .ok (.invokespecial 28, 3) := by decide +kernel
theorem dX7_init_45 : decode cX7_init 45 = .ok (.putfield 29, 3) := by decide +kernel
theorem dX7_init_48 : decode cX7_init 48 = .ok (.aload_n 0, 1) := by decide +kernel
theorem dX7_init_49 : decode cX7_init 49 = .ok (.new 26, 3) := by decide +kernel
theorem dX7_init_52 : decode cX7_init 52 = .ok (.dup, 1) := by decide +kernel
theorem dX7_init_53 : decode cX7_init 53 = .ok (.invokespecial 28, 3) := by decide +kernel
theorem dX7_init_56 : decode cX7_init 56 = .ok (.putfield 33, 3) := by decide +kernel
theorem dX7_init_59 : decode cX7_init 59 = .ok (.aload_n 0, 1) := by decide +kernel
theorem dX7_init_60 : decode cX7_init 60 = .ok (.new 26, 3) := by decide +kernel
theorem dX7_init_63 : decode cX7_init 63 = .ok (.dup, 1) := by decide +kernel
theorem dX7_init_64 : decode cX7_init 64 = .ok (.invokespecial 28, 3) := by decide +kernel
theorem dX7_init_67 : decode cX7_init 67 = .ok (.putfield 36, 3) := by decide +kernel
theorem dX7_init_70 : decode cX7_init 70 = .ok (.aload_n 0, 1) := by decide +kernel
theorem dX7_init_71 : decode cX7_init 71 = .ok (.new 39, 3) := by decide +kernel
theorem dX7_init_74 : decode cX7_init 74 = .ok (.dup, 1) := by decide +kernel
theorem dX7_init_75 : decode cX7_init 75 = .ok (.invokespecial 41, 3) := by decide +kernel
theorem dX7_init_78 : decode cX7_init 78 = .ok (.putfield 42, 3) := by decide +kernel
theorem dX7_init_81 : decode cX7_init 81 = .ok (.aload_n 0, 1) := by decide +kernel
theorem dX7_init_82 : decode cX7_init 82 = .ok (.new 46, 3) := by decide +kernel
theorem dX7_init_85 : decode cX7_init 85 = .ok (.dup, 1) := by decide +kernel
theorem dX7_init_86 : decode cX7_init 86 = .ok (.invokespecial 48, 3) := by decide +kernel
theorem dX7_init_89 : decode cX7_init 89 = .ok (.putfield 49, 3) := by decide +kernel
theorem dX7_init_92 : decode cX7_init 92 = .ok (.aload_n 0, 1) := by decide +kernel
theorem dX7_init_93 : decode cX7_init 93 = .ok (.new 53, 3) := by decide +kernel
theorem dX7_init_96 : decode cX7_init 96 = .ok (.dup, 1) := by decide +kernel
theorem dX7_init_97 : decode cX7_init 97 = .ok (.bipush 8, 2) := by decide +kernel
theorem dX7_init_99 : decode cX7_init 99 = .ok (.invokespecial 55, 3) := by decide +kernel
theorem dX7_init_102 : decode cX7_init 102 = .ok (.putfield 58, 3) := by decide +kernel
theorem dX7_init_105 : decode cX7_init 105 = .ok (.aload_n 0, 1) := by decide +kernel
theorem dX7_init_106 : decode cX7_init 106 = .ok (.new 53, 3) := by decide +kernel
theorem dX7_init_109 : decode cX7_init 109 = .ok (.dup, 1) := by decide +kernel
theorem dX7_init_110 : decode cX7_init 110 = .ok (.iconst 2, 1) := by decide +kernel
theorem dX7_init_111 : decode cX7_init 111 = .ok (.invokespecial 55, 3) := by decide +kernel
theorem dX7_init_114 : decode cX7_init 114 = .ok (.putfield 62, 3) := by decide +kernel
theorem dX7_init_117 : decode cX7_init 117 = .ok (.aload_n 0, 1) := by decide +kernel
theorem dX7_init_118 : decode cX7_init 118 = .ok (.sipush 256, 3) := by decide +kernel
theorem dX7_init_121 : decode cX7_init 121 = .ok (.newarray .long, 2) := by decide +kernel
theorem dX7_init_123 : decode cX7_init 123 = .ok (.putfield 65, 3) := by decide +kernel
theorem dX7_init_126 : decode cX7_init 126 = .ok (.aload_n 0, 1) := by decide +kernel
theorem dX7_init_127 : decode cX7_init 127 = .ok (.iconst 1, 1) := by decide +kernel
theorem dX7_init_128 : decode cX7_init 128 = .ok (.putfield 69, 3) := by decide +kernel
theorem dX7_init_131 : decode cX7_init 131 = .ok (.aload_n 0, 1) := by decide +kernel
theorem dX7_init_132 : decode cX7_init 132 = .ok (.bipush (-4), 2) := by decide +kernel
theorem dX7_init_134 : decode cX7_init 134 = .ok (.putfield 73, 3) := by decide +kernel
theorem dX7_init_137 : decode cX7_init 137 = .ok (.iconst 0, 1) := by decide +kernel
theorem dX7_init_138 : decode cX7_init 138 = .ok (.istore_n 1, 1) := by decide +kernel
theorem dX7_init_139 : decode cX7_init 139 = .ok (.iload_n 1, 1) := by decide +kernel
theorem dX7_init_140 : decode cX7_init 140 = .ok (.ldc 77, 2) := by decide +kernel
theorem dX7_init_142 : decode cX7_init 142 = .ok (.invokevirtual 79, 3) := by decide +kernel
theorem dX7_init_145 : decode cX7_init 145 = .ok (.if_icmp .ge 23, 3) := by decide +kernel
theorem dX7_init_148 : decode cX7_init 148 = .ok (.aload_n 0, 1) := by decide +kernel
theorem dX7_init_149 : decode cX7_init 149 = .ok (.getfield 12, 3) := by decide +kernel
theorem dX7_init_152 : decode cX7_init 152 = .ok (.ldc 77, 2) := by decide +kernel
theorem dX7_init_154 : decode cX7_init 154 = .ok (.iload_n 1, 1) := by decide +kernel
theorem dX7_init_155 : decode cX7_init 155 = .ok (.invokevirtual 85, 3) := by decide +kernel
theorem dX7_init_158 : decode cX7_init 158 = .ok (.invokevirtual 89, 3) := by decide +kernel
theorem dX7_init_161 : decode cX7_init 161 = .ok (.pop, 1) := by decide +kernel
theorem dX7_init_162 : decode cX7_init 162 = .ok (.iinc 1 1, 3) := by decide +kernel
theorem dX7_init_165 : decode cX7_init 165 = .ok (.goto (-26), 3) := by decide +kernel
theorem dX7_init_168 : decode cX7_init 168 = .ok (.aload_n 0, 1) := by decide +kernel
theorem dX7_init_169 : decode cX7_init 169 = .ok (.invokevirtual 93, 3) := by decide +kernel
theorem dX7_init_172 : decode cX7_init 172 = .ok (.pop, 1) := by decide +kernel
theorem dX7_init_173 : decode cX7_init 173 = .ok (.aload_n 0, 1) := by decide +kernel
theorem dX7_init_174 : decode cX7_init 174 = .ok (.getfield 12, 3) := by decide +kernel
theorem dX7_init_177 : decode cX7_init 177 = .ok (.invokevirtual 97, 3) := by decide +kernel
theorem dX7_init_180 : decode cX7_init 180 = .ok (.return_, 1) := by decide +kernel
theorem dX7_write_0 : decode cX7_write 0 = .ok (.iload_n 1, 1) := by decide +kernel
theorem dX7_write_1 : decode cX7_write 1 = .ok (.bipush 32, 2) := by decide +kernel
theorem dX7_write_3 : decode cX7_write 3 = .ok (.if_icmp .lt 9, 3) := by decide +kernel
theorem dX7_write_6 : decode cX7_write 6 = .ok (.iload_n 1, 1) := by decide +kernel
theorem dX7_write_7 : decode cX7_write 7 = .ok (.bipush 126, 2) := by decide +kernel
theorem dX7_write_9 : decode cX7_write 9 = .ok (.if_icmp .le 5, 3) := by decide +kernel
theorem dX7_write_12 : decode cX7_write 12 = .ok (.iconst (-1), 1) := by decide +kernel
theorem dX7_write_13 : decode cX7_write 13 = .ok (.ireturn, 1) := by decide +kernel
theorem dX7_write_14 : decode cX7_write 14 = .ok (.aload_n 0, 1) := by decide +kernel
theorem dX7_write_15 : decode cX7_write 15 = .ok (.getfield 12, 3) := by decide +kernel
theorem dX7_write_18 : decode cX7_write 18 = .ok (.iload_n 1, 1) := by decide +kernel
theorem dX7_write_19 : decode cX7_write 19 = .ok (.invokevirtual 89, 3) := by decide +kernel
theorem dX7_write_22 : decode cX7_write 22 = .ok (.ifCond .eq 13, 3) := by decide +kernel
theorem dX7_write_25 : decode cX7_write 25 = .ok (.aload_n 0, 1) := by decide +kernel
theorem dX7_write_26 : decode cX7_write 26 = .ok (.getfield 12, 3) := by decide +kernel
theorem dX7_write_29 : decode cX7_write 29 = .ok (.getfield 100, 3) := by decide +kernel
theorem dX7_write_32 : decode cX7_write 32 = .ok (.goto 5, 3) := by decide +kernel
theorem dX7_write_35 : decode cX7_write 35 = .ok (.bipush (-3), 2) := by decide +kernel
theorem dX7_write_37 : decode cX7_write 37 = .ok (.ireturn, 1) := by decide +kernel
theorem dX7_wipe_0 : decode cX7_wipe 0 = .ok (.aload_n 0, 1) := by decide +kernel
theorem dX7_wipe_1 : decode cX7_wipe 1 = .ok (.getfield 12, 3) := by decide +kernel
theorem dX7_wipe_4 : decode cX7_wipe 4 = .ok (.getfield 100, 3) := by decide +kernel
theorem dX7_wipe_7 : decode cX7_wipe 7 = .ok (.istore_n 1, 1) := by decide +kernel
theorem dX7_wipe_8 : decode cX7_wipe 8 = .ok (.aload_n 0, 1) := by decide +kernel
theorem dX7_wipe_9 : decode cX7_wipe 9 = .ok (.getfield 12, 3) := by decide +kernel
theorem dX7_wipe_12 : decode cX7_wipe 12 = .ok (.invokevirtual 97, 3) := by decide +kernel
theorem dX7_wipe_15 : decode cX7_wipe 15 = .ok (.iload_n 1, 1) := by decide +kernel
theorem dX7_wipe_16 : decode cX7_wipe 16 = .ok (.ireturn, 1) := by decide +kernel
theorem dX7_fault_0 : decode cX7_fault 0 = .ok (.aload_n 0, 1) := by decide +kernel
theorem dX7_fault_1 : decode cX7_fault 1 = .ok (.getfield 12, 3) := by decide +kernel
theorem dX7_fault_4 : decode cX7_fault 4 = .ok (.aload_n 0, 1) := by decide +kernel
theorem dX7_fault_5 : decode cX7_fault 5 = .ok (.getfield 23, 3) := by decide +kernel
theorem dX7_fault_8 : decode cX7_fault 8 = .ok (.invokevirtual 102, 3) := by decide +kernel
theorem dX7_fault_11 : decode cX7_fault 11 = .ok (.ireturn, 1) := by decide +kernel
theorem dX7_lay_0 : decode cX7_lay 0 = .ok (.aload_n 0, 1) := by decide +kernel
theorem dX7_lay_1 : decode cX7_lay 1 = .ok (.invokevirtual 93, 3) := by decide +kernel
theorem dX7_lay_4 : decode cX7_lay 4 = .ok (.ifCond .eq 13, 3) := by decide +kernel
theorem dX7_lay_7 : decode cX7_lay 7 = .ok (.aload_n 0, 1) := by decide +kernel
theorem dX7_lay_8 : decode cX7_lay 8 = .ok (.getfield 29, 3) := by decide +kernel
theorem dX7_lay_11 : decode cX7_lay 11 = .ok (.getfield 106, 3) := by decide +kernel
theorem dX7_lay_14 : decode cX7_lay 14 = .ok (.goto 5, 3) := by decide +kernel
theorem dX7_lay_17 : decode cX7_lay 17 = .ok (.bipush (-2), 2) := by decide +kernel
theorem dX7_lay_19 : decode cX7_lay 19 = .ok (.ireturn, 1) := by decide +kernel
theorem dX7_thing_0 : decode cX7_thing 0 = .ok (.aload_n 0, 1) := by decide +kernel
theorem dX7_thing_1 : decode cX7_thing 1 = .ok (.iload_n 1, 1) := by decide +kernel
theorem dX7_thing_2 : decode cX7_thing 2 = .ok (.invokevirtual 109, 3) := by decide +kernel
theorem dX7_thing_5 : decode cX7_thing 5 = .ok (.ifCond .ne 5, 3) := by decide +kernel
theorem dX7_thing_8 : decode cX7_thing 8 = .ok (.iconst (-1), 1) := by decide +kernel
theorem dX7_thing_9 : decode cX7_thing 9 = .ok (.ireturn, 1) := by decide +kernel
theorem dX7_thing_10 : decode cX7_thing 10 = .ok (.iload_n 2, 1) := by decide +kernel
theorem dX7_thing_11 : decode cX7_thing 11 = .ok (.tableswitch 99 0 4 #[33, 48, 63, 78, 93], 33) := by decide +kernel
theorem dX7_thing_44 : decode cX7_thing 44 = .ok (.aload_n 0, 1) := by decide +kernel
theorem dX7_thing_45 : decode cX7_thing 45 = .ok (.getfield 19, 3) := by decide +kernel
theorem dX7_thing_48 : decode cX7_thing 48 = .ok (.getfield 112, 3) := by decide +kernel
theorem dX7_thing_51 : decode cX7_thing 51 = .ok (.getfield 116, 3) := by decide +kernel
theorem dX7_thing_54 : decode cX7_thing 54 = .ok (.iload_n 1, 1) := by decide +kernel
theorem dX7_thing_55 : decode cX7_thing 55 = .ok (.invokestatic 122, 3) := by decide +kernel
theorem dX7_thing_58 : decode cX7_thing 58 = .ok (.ireturn, 1) := by decide +kernel
theorem dX7_thing_59 : decode cX7_thing 59 = .ok (.aload_n 0, 1) := by decide +kernel
theorem dX7_thing_60 : decode cX7_thing 60 = .ok (.getfield 19, 3) := by decide +kernel
theorem dX7_thing_63 : decode cX7_thing 63 = .ok (.getfield 112, 3) := by decide +kernel
theorem dX7_thing_66 : decode cX7_thing 66 = .ok (.getfield 126, 3) := by decide +kernel
theorem dX7_thing_69 : decode cX7_thing 69 = .ok (.iload_n 1, 1) := by decide +kernel
theorem dX7_thing_70 : decode cX7_thing 70 = .ok (.invokestatic 122, 3) := by decide +kernel
theorem dX7_thing_73 : decode cX7_thing 73 = .ok (.ireturn, 1) := by decide +kernel
theorem dX7_thing_74 : decode cX7_thing 74 = .ok (.aload_n 0, 1) := by decide +kernel
theorem dX7_thing_75 : decode cX7_thing 75 = .ok (.getfield 19, 3) := by decide +kernel
theorem dX7_thing_78 : decode cX7_thing 78 = .ok (.getfield 112, 3) := by decide +kernel
theorem dX7_thing_81 : decode cX7_thing 81 = .ok (.getfield 129, 3) := by decide +kernel
theorem dX7_thing_84 : decode cX7_thing 84 = .ok (.iload_n 1, 1) := by decide +kernel
theorem dX7_thing_85 : decode cX7_thing 85 = .ok (.invokestatic 122, 3) := by decide +kernel
theorem dX7_thing_88 : decode cX7_thing 88 = .ok (.ireturn, 1) := by decide +kernel
theorem dX7_thing_89 : decode cX7_thing 89 = .ok (.aload_n 0, 1) := by decide +kernel
theorem dX7_thing_90 : decode cX7_thing 90 = .ok (.getfield 19, 3) := by decide +kernel
theorem dX7_thing_93 : decode cX7_thing 93 = .ok (.getfield 112, 3) := by decide +kernel
theorem dX7_thing_96 : decode cX7_thing 96 = .ok (.getfield 132, 3) := by decide +kernel
theorem dX7_thing_99 : decode cX7_thing 99 = .ok (.iload_n 1, 1) := by decide +kernel
theorem dX7_thing_100 : decode cX7_thing 100 = .ok (.invokestatic 122, 3) := by decide +kernel
theorem dX7_thing_103 : decode cX7_thing 103 = .ok (.ireturn, 1) := by decide +kernel
theorem dX7_thing_104 : decode cX7_thing 104 = .ok (.aload_n 0, 1) := by decide +kernel
theorem dX7_thing_105 : decode cX7_thing 105 = .ok (.iload_n 1, 1) := by decide +kernel
theorem dX7_thing_106 : decode cX7_thing 106 = .ok (.invokevirtual 135, 3) := by decide +kernel
theorem dX7_thing_109 : decode cX7_thing 109 = .ok (.ireturn, 1) := by decide +kernel
theorem dX7_thing_110 : decode cX7_thing 110 = .ok (.iconst (-1), 1) := by decide +kernel
theorem dX7_thing_111 : decode cX7_thing 111 = .ok (.ireturn, 1) := by decide +kernel
theorem dX7_parcel_0 : decode cX7_parcel 0 = .ok (.aload_n 0, 1) := by decide +kernel
theorem dX7_parcel_1 : decode cX7_parcel 1 = .ok (.iload_n 1, 1) := by decide +kernel
theorem dX7_parcel_2 : decode cX7_parcel 2 = .ok (.invokevirtual 139, 3) := by decide +kernel
theorem dX7_parcel_5 : decode cX7_parcel 5 = .ok (.ifCond .ne 5, 3) := by decide +kernel
theorem dX7_parcel_8 : decode cX7_parcel 8 = .ok (.iconst (-1), 1) := by decide +kernel
theorem dX7_parcel_9 : decode cX7_parcel 9 = .ok (.ireturn, 1) := by decide +kernel
theorem dX7_parcel_10 : decode cX7_parcel 10 = .ok (.iload_n 2, 1) := by decide +kernel
theorem dX7_parcel_11 : decode cX7_parcel 11 = .ok (.tableswitch 93 0 4 #[33, 45, 57, 69, 81], 33) := by decide +kernel
theorem dX7_parcel_44 : decode cX7_parcel 44 = .ok (.aload_n 0, 1) := by decide +kernel
theorem dX7_parcel_45 : decode cX7_parcel 45 = .ok (.getfield 19, 3) := by decide +kernel
theorem dX7_parcel_48 : decode cX7_parcel 48 = .ok (.getfield 142, 3) := by decide +kernel
theorem dX7_parcel_51 : decode cX7_parcel 51 = .ok (.iload_n 1, 1) := by decide +kernel
theorem dX7_parcel_52 : decode cX7_parcel 52 = .ok (.invokestatic 122, 3) := by decide +kernel
theorem dX7_parcel_55 : decode cX7_parcel 55 = .ok (.ireturn, 1) := by decide +kernel
theorem dX7_parcel_56 : decode cX7_parcel 56 = .ok (.aload_n 0, 1) := by decide +kernel
theorem dX7_parcel_57 : decode cX7_parcel 57 = .ok (.getfield 19, 3) := by decide +kernel
theorem dX7_parcel_60 : decode cX7_parcel 60 = .ok (.getfield 145, 3) := by decide +kernel
theorem dX7_parcel_63 : decode cX7_parcel 63 = .ok (.iload_n 1, 1) := by decide +kernel
theorem dX7_parcel_64 : decode cX7_parcel 64 = .ok (.invokestatic 122, 3) := by decide +kernel
theorem dX7_parcel_67 : decode cX7_parcel 67 = .ok (.ireturn, 1) := by decide +kernel
theorem dX7_parcel_68 : decode cX7_parcel 68 = .ok (.aload_n 0, 1) := by decide +kernel
theorem dX7_parcel_69 : decode cX7_parcel 69 = .ok (.getfield 19, 3) := by decide +kernel
theorem dX7_parcel_72 : decode cX7_parcel 72 = .ok (.getfield 148, 3) := by decide +kernel
theorem dX7_parcel_75 : decode cX7_parcel 75 = .ok (.iload_n 1, 1) := by decide +kernel
theorem dX7_parcel_76 : decode cX7_parcel 76 = .ok (.invokestatic 122, 3) := by decide +kernel
theorem dX7_parcel_79 : decode cX7_parcel 79 = .ok (.ireturn, 1) := by decide +kernel
theorem dX7_parcel_80 : decode cX7_parcel 80 = .ok (.aload_n 0, 1) := by decide +kernel
theorem dX7_parcel_81 : decode cX7_parcel 81 = .ok (.getfield 49, 3) := by decide +kernel
theorem dX7_parcel_84 : decode cX7_parcel 84 = .ok (.getfield 151, 3) := by decide +kernel
theorem dX7_parcel_87 : decode cX7_parcel 87 = .ok (.iload_n 1, 1) := by decide +kernel
theorem dX7_parcel_88 : decode cX7_parcel 88 = .ok (.invokestatic 154, 3) := by decide +kernel
theorem dX7_parcel_91 : decode cX7_parcel 91 = .ok (.ireturn, 1) := by decide +kernel
theorem dX7_parcel_92 : decode cX7_parcel 92 = .ok (.aload_n 0, 1) := by decide +kernel
theorem dX7_parcel_93 : decode cX7_parcel 93 = .ok (.getfield 49, 3) := by decide +kernel
theorem dX7_parcel_96 : decode cX7_parcel 96 = .ok (.getfield 158, 3) := by decide +kernel
theorem dX7_parcel_99 : decode cX7_parcel 99 = .ok (.iload_n 1, 1) := by decide +kernel
theorem dX7_parcel_100 : decode cX7_parcel 100 = .ok (.invokestatic 122, 3) := by decide +kernel
theorem dX7_parcel_103 : decode cX7_parcel 103 = .ok (.ireturn, 1) := by decide +kernel
theorem dX7_parcel_104 : decode cX7_parcel 104 = .ok (.iconst (-1), 1) := by decide +kernel
theorem dX7_parcel_105 : decode cX7_parcel 105 = .ok (.ireturn, 1) := by decide +kernel
theorem dX7_world_0 : decode cX7_world 0 = .ok (.iload_n 1, 1) := by decide +kernel
theorem dX7_world_1 : decode cX7_world 1 = .ok (.ifCond .lt 11, 3) := by decide +kernel
theorem dX7_world_4 : decode cX7_world 4 = .ok (.aload_n 0, 1) := by decide +kernel
theorem dX7_world_5 : decode cX7_world 5 = .ok (.iload_n 2, 1) := by decide +kernel
theorem dX7_world_6 : decode cX7_world 6 = .ok (.invokevirtual 139, 3) := by decide +kernel
theorem dX7_world_9 : decode cX7_world 9 = .ok (.ifCond .ne 5, 3) := by decide +kernel
theorem dX7_world_12 : decode cX7_world 12 = .ok (.iconst (-1), 1) := by decide +kernel
theorem dX7_world_13 : decode cX7_world 13 = .ok (.ireturn, 1) := by decide +kernel
theorem dX7_world_14 : decode cX7_world 14 = .ok (.iload_n 1, 1) := by decide +kernel
theorem dX7_world_15 : decode cX7_world 15 = .ok (.aload_n 0, 1) := by decide +kernel
theorem dX7_world_16 : decode cX7_world 16 = .ok (.getfield 29, 3) := by decide +kernel
theorem dX7_world_19 : decode cX7_world 19 = .ok (.getfield 106, 3) := by decide +kernel
theorem dX7_world_22 : decode cX7_world 22 = .ok (.if_icmp .ge 18, 3) := by decide +kernel
theorem dX7_world_25 : decode cX7_world 25 = .ok (.aload_n 0, 1) := by decide +kernel
theorem dX7_world_26 : decode cX7_world 26 = .ok (.getfield 29, 3) := by decide +kernel
theorem dX7_world_29 : decode cX7_world 29 = .ok (.iload_n 1, 1) := by decide +kernel
theorem dX7_world_30 : decode cX7_world 30 = .ok (.invokevirtual 161, 3) := by decide +kernel
theorem dX7_world_33 : decode cX7_world 33 = .ok (.iload_n 2, 1) := by decide +kernel
theorem dX7_world_34 : decode cX7_world 34 = .ok (.invokestatic 154, 3) := by decide +kernel
theorem dX7_world_37 : decode cX7_world 37 = .ok (.goto 5, 3) := by decide +kernel
theorem dX7_world_40 : decode cX7_world 40 = .ok (.bipush (-4), 2) := by decide +kernel
theorem dX7_world_42 : decode cX7_world 42 = .ok (.ireturn, 1) := by decide +kernel
theorem dX7_answer_0 : decode cX7_answer 0 = .ok (.aload_n 0, 1) := by decide +kernel
theorem dX7_answer_1 : decode cX7_answer 1 = .ok (.iload_n 1, 1) := by decide +kernel
theorem dX7_answer_2 : decode cX7_answer 2 = .ok (.invokevirtual 139, 3) := by decide +kernel
theorem dX7_answer_5 : decode cX7_answer 5 = .ok (.ifCond .eq 29, 3) := by decide +kernel
theorem dX7_answer_8 : decode cX7_answer 8 = .ok (.iload_n 2, 1) := by decide +kernel
theorem dX7_answer_9 : decode cX7_answer 9 = .ok (.invokestatic 164, 3) := by decide +kernel
theorem dX7_answer_12 : decode cX7_answer 12 = .ok (.ifCond .eq 22, 3) := by decide +kernel
theorem dX7_answer_15 : decode cX7_answer 15 = .ok (.iload_n 3, 1) := by decide +kernel
theorem dX7_answer_16 : decode cX7_answer 16 = .ok (.iconst 1, 1) := by decide +kernel
theorem dX7_answer_17 : decode cX7_answer 17 = .ok (.aload_n 0, 1) := by decide +kernel
theorem dX7_answer_18 : decode cX7_answer 18 = .ok (.getfield 19, 3) := by decide +kernel
theorem dX7_answer_21 : decode cX7_answer 21 = .ok (.getfield 112, 3) := by decide +kernel
theorem dX7_answer_24 : decode cX7_answer 24 = .ok (.getfield 167, 3) := by decide +kernel
theorem dX7_answer_27 : decode cX7_answer 27 = .ok (.ishl, 1) := by decide +kernel
theorem dX7_answer_28 : decode cX7_answer 28 = .ok (.invokestatic 170, 3) := by decide +kernel
theorem dX7_answer_31 : decode cX7_answer 31 = .ok (.ifCond .ne 5, 3) := by decide +kernel
theorem dX7_answer_34 : decode cX7_answer 34 = .ok (.iconst (-1), 1) := by decide +kernel
theorem dX7_answer_35 : decode cX7_answer 35 = .ok (.ireturn, 1) := by decide +kernel
theorem dX7_answer_36 : decode cX7_answer 36 = .ok (.aload_n 0, 1) := by decide +kernel
theorem dX7_answer_37 : decode cX7_answer 37 = .ok (.getfield 19, 3) := by decide +kernel
theorem dX7_answer_40 : decode cX7_answer 40 = .ok (.iload_n 1, 1) := by decide +kernel
theorem dX7_answer_41 : decode cX7_answer 41 = .ok (.iload_n 2, 1) := by decide +kernel
theorem dX7_answer_42 : decode cX7_answer 42 = .ok (.iload_n 3, 1) := by decide +kernel
theorem dX7_answer_43 : decode cX7_answer 43 = .ok (.iconst 0, 1) := by decide +kernel
theorem dX7_answer_44 : decode cX7_answer 44 = .ok (.invokevirtual 174, 3) := by decide +kernel
theorem dX7_answer_47 : decode cX7_answer 47 = .ok (.ireturn, 1) := by decide +kernel
theorem dX7_attempt_0 : decode cX7_attempt 0 = .ok (.aload_n 0, 1) := by decide +kernel
theorem dX7_attempt_1 : decode cX7_attempt 1 = .ok (.iload_n 1, 1) := by decide +kernel
theorem dX7_attempt_2 : decode cX7_attempt 2 = .ok (.invokevirtual 139, 3) := by decide +kernel
theorem dX7_attempt_5 : decode cX7_attempt 5 = .ok (.ifCond .eq 10, 3) := by decide +kernel
theorem dX7_attempt_8 : decode cX7_attempt 8 = .ok (.iload_n 2, 1) := by decide +kernel
theorem dX7_attempt_9 : decode cX7_attempt 9 = .ok (.invokestatic 164, 3) := by decide +kernel
theorem dX7_attempt_12 : decode cX7_attempt 12 = .ok (.ifCond .ne 5, 3) := by decide +kernel
theorem dX7_attempt_15 : decode cX7_attempt 15 = .ok (.iconst (-1), 1) := by decide +kernel
theorem dX7_attempt_16 : decode cX7_attempt 16 = .ok (.ireturn, 1) := by decide +kernel
theorem dX7_attempt_17 : decode cX7_attempt 17 = .ok (.aload_n 0, 1) := by decide +kernel
theorem dX7_attempt_18 : decode cX7_attempt 18 = .ok (.getfield 49, 3) := by decide +kernel
theorem dX7_attempt_21 : decode cX7_attempt 21 = .ok (.invokevirtual 178, 3) := by decide +kernel
theorem dX7_attempt_24 : decode cX7_attempt 24 = .ok (.ifCond .eq 6, 3) := by decide +kernel
theorem dX7_attempt_27 : decode cX7_attempt 27 = .ok (.bipush (-3), 2) := by decide +kernel
theorem dX7_attempt_29 : decode cX7_attempt 29 = .ok (.ireturn, 1) := by decide +kernel
theorem dX7_attempt_30 : decode cX7_attempt 30 = .ok (.aload_n 0, 1) := by decide +kernel
theorem dX7_attempt_31 : decode cX7_attempt 31 = .ok (.getfield 19, 3) := by decide +kernel
theorem dX7_attempt_34 : decode cX7_attempt 34 = .ok (.iload_n 1, 1) := by decide +kernel
theorem dX7_attempt_35 : decode cX7_attempt 35 = .ok (.iload_n 2, 1) := by decide +kernel
theorem dX7_attempt_36 : decode cX7_attempt 36 = .ok (.aload_n 0, 1) := by decide +kernel
theorem dX7_attempt_37 : decode cX7_attempt 37 = .ok (.getfield 49, 3) := by decide +kernel
theorem dX7_attempt_40 : decode cX7_attempt 40 = .ok (.getfield 151, 3) := by decide +kernel
theorem dX7_attempt_43 : decode cX7_attempt 43 = .ok (.iload_n 1, 1) := by decide +kernel
theorem dX7_attempt_44 : decode cX7_attempt 44 = .ok (.invokestatic 154, 3) := by decide +kernel
theorem dX7_attempt_47 : decode cX7_attempt 47 = .ok (.aload_n 0, 1) := by decide +kernel
theorem dX7_attempt_48 : decode cX7_attempt 48 = .ok (.getfield 49, 3) := by decide +kernel
theorem dX7_attempt_51 : decode cX7_attempt 51 = .ok (.getfield 158, 3) := by decide +kernel
theorem dX7_attempt_54 : decode cX7_attempt 54 = .ok (.iload_n 1, 1) := by decide +kernel
theorem dX7_attempt_55 : decode cX7_attempt 55 = .ok (.invokestatic 122, 3) := by decide +kernel
theorem dX7_attempt_58 : decode cX7_attempt 58 = .ok (.invokevirtual 174, 3) := by decide +kernel
theorem dX7_attempt_61 : decode cX7_attempt 61 = .ok (.istore_n 3, 1) := by decide +kernel
theorem dX7_attempt_62 : decode cX7_attempt 62 = .ok (.aload_n 0, 1) := by decide +kernel
theorem dX7_attempt_63 : decode cX7_attempt 63 = .ok (.iload_n 1, 1) := by decide +kernel
theorem dX7_attempt_64 : decode cX7_attempt 64 = .ok (.iload_n 2, 1) := by decide +kernel
theorem dX7_attempt_65 : decode cX7_attempt 65 = .ok (.iload_n 3, 1) := by decide +kernel
theorem dX7_attempt_66 : decode cX7_attempt 66 = .ok (.invokevirtual 181, 3) := by decide +kernel
theorem dX7_attempt_69 : decode cX7_attempt 69 = .ok (.iload_n 3, 1) := by decide +kernel
theorem dX7_attempt_70 : decode cX7_attempt 70 = .ok (.ireturn, 1) := by decide +kernel
theorem dX7_hear_0 : decode cX7_hear 0 = .ok (.aload_n 0, 1) := by decide +kernel
theorem dX7_hear_1 : decode cX7_hear 1 = .ok (.iload_n 1, 1) := by decide +kernel
theorem dX7_hear_2 : decode cX7_hear 2 = .ok (.invokevirtual 139, 3) := by decide +kernel
theorem dX7_hear_5 : decode cX7_hear 5 = .ok (.ifCond .eq 19, 3) := by decide +kernel
theorem dX7_hear_8 : decode cX7_hear 8 = .ok (.iload_n 2, 1) := by decide +kernel
theorem dX7_hear_9 : decode cX7_hear 9 = .ok (.invokestatic 164, 3) := by decide +kernel
theorem dX7_hear_12 : decode cX7_hear 12 = .ok (.ifCond .eq 12, 3) := by decide +kernel
theorem dX7_hear_15 : decode cX7_hear 15 = .ok (.iload_n 3, 1) := by decide +kernel
theorem dX7_hear_16 : decode cX7_hear 16 = .ok (.bipush 100, 2) := by decide +kernel
theorem dX7_hear_18 : decode cX7_hear 18 = .ok (.invokestatic 170, 3) := by decide +kernel
theorem dX7_hear_21 : decode cX7_hear 21 = .ok (.ifCond .ne 5, 3) := by decide +kernel
theorem dX7_hear_24 : decode cX7_hear 24 = .ok (.iconst (-1), 1) := by decide +kernel
theorem dX7_hear_25 : decode cX7_hear 25 = .ok (.ireturn, 1) := by decide +kernel
theorem dX7_hear_26 : decode cX7_hear 26 = .ok (.aload_n 0, 1) := by decide +kernel
theorem dX7_hear_27 : decode cX7_hear 27 = .ok (.getfield 49, 3) := by decide +kernel
theorem dX7_hear_30 : decode cX7_hear 30 = .ok (.invokevirtual 178, 3) := by decide +kernel
theorem dX7_hear_33 : decode cX7_hear 33 = .ok (.ifCond .eq 6, 3) := by decide +kernel
theorem dX7_hear_36 : decode cX7_hear 36 = .ok (.bipush (-3), 2) := by decide +kernel
theorem dX7_hear_38 : decode cX7_hear 38 = .ok (.ireturn, 1) := by decide +kernel
theorem dX7_hear_39 : decode cX7_hear 39 = .ok (.aload_n 0, 1) := by decide +kernel
theorem dX7_hear_40 : decode cX7_hear 40 = .ok (.iload_n 1, 1) := by decide +kernel
theorem dX7_hear_41 : decode cX7_hear 41 = .ok (.iload_n 2, 1) := by decide +kernel
theorem dX7_hear_42 : decode cX7_hear 42 = .ok (.iload_n 3, 1) := by decide +kernel
theorem dX7_hear_43 : decode cX7_hear 43 = .ok (.invokevirtual 181, 3) := by decide +kernel
theorem dX7_hear_46 : decode cX7_hear 46 = .ok (.aload_n 0, 1) := by decide +kernel
theorem dX7_hear_47 : decode cX7_hear 47 = .ok (.getfield 49, 3) := by decide +kernel
theorem dX7_hear_50 : decode cX7_hear 50 = .ok (.getfield 185, 3) := by decide +kernel
theorem dX7_hear_53 : decode cX7_hear 53 = .ok (.ireturn, 1) := by decide +kernel
theorem dX7_change_0 : decode cX7_change 0 = .ok (.aload_n 0, 1) := by decide +kernel
theorem dX7_change_1 : decode cX7_change 1 = .ok (.iload_n 1, 1) := by decide +kernel
theorem dX7_change_2 : decode cX7_change 2 = .ok (.invokevirtual 139, 3) := by decide +kernel
theorem dX7_change_5 : decode cX7_change 5 = .ok (.ifCond .eq 16, 3) := by decide +kernel
theorem dX7_change_8 : decode cX7_change 8 = .ok (.aload_n 0, 1) := by decide +kernel
theorem dX7_change_9 : decode cX7_change 9 = .ok (.iload_n 2, 1) := by decide +kernel
theorem dX7_change_10 : decode cX7_change 10 = .ok (.invokevirtual 139, 3) := by decide +kernel
theorem dX7_change_13 : decode cX7_change 13 = .ok (.ifCond .eq 8, 3) := by decide +kernel
theorem dX7_change_16 : decode cX7_change 16 = .ok (.iload_n 1, 1) := by decide +kernel
theorem dX7_change_17 : decode cX7_change 17 = .ok (.iload_n 2, 1) := by decide +kernel
theorem dX7_change_18 : decode cX7_change 18 = .ok (.if_icmp .ne 5, 3) := by decide +kernel
theorem dX7_change_21 : decode cX7_change 21 = .ok (.iconst (-1), 1) := by decide +kernel
theorem dX7_change_22 : decode cX7_change 22 = .ok (.ireturn, 1) := by decide +kernel
theorem dX7_change_23 : decode cX7_change 23 = .ok (.aload_n 0, 1) := by decide +kernel
theorem dX7_change_24 : decode cX7_change 24 = .ok (.getfield 49, 3) := by decide +kernel
theorem dX7_change_27 : decode cX7_change 27 = .ok (.getfield 151, 3) := by decide +kernel
theorem dX7_change_30 : decode cX7_change 30 = .ok (.iload_n 1, 1) := by decide +kernel
theorem dX7_change_31 : decode cX7_change 31 = .ok (.iload_n 2, 1) := by decide +kernel
theorem dX7_change_32 : decode cX7_change 32 = .ok (.invokestatic 188, 3) := by decide +kernel
theorem dX7_change_35 : decode cX7_change 35 = .ok (.istore_n 3, 1) := by decide +kernel
theorem dX7_change_36 : decode cX7_change 36 = .ok (.aload_n 0, 1) := by decide +kernel
theorem dX7_change_37 : decode cX7_change 37 = .ok (.getfield 19, 3) := by decide +kernel
theorem dX7_change_40 : decode cX7_change 40 = .ok (.getfield 148, 3) := by decide +kernel
theorem dX7_change_43 : decode cX7_change 43 = .ok (.iload_n 1, 1) := by decide +kernel
theorem dX7_change_44 : decode cX7_change 44 = .ok (.invokestatic 122, 3) := by decide +kernel
theorem dX7_change_47 : decode cX7_change 47 = .ok (.aload_n 0, 1) := by decide +kernel
theorem dX7_change_48 : decode cX7_change 48 = .ok (.getfield 19, 3) := by decide +kernel
theorem dX7_change_51 : decode cX7_change 51 = .ok (.getfield 148, 3) := by decide +kernel
theorem dX7_change_54 : decode cX7_change 54 = .ok (.iload_n 2, 1) := by decide +kernel
theorem dX7_change_55 : decode cX7_change 55 = .ok (.invokestatic 122, 3) := by decide +kernel
theorem dX7_change_58 : decode cX7_change 58 = .ok (.if_icmp .ne 14, 3) := by decide +kernel
theorem dX7_change_61 : decode cX7_change 61 = .ok (.aload_n 0, 1) := by decide +kernel
theorem dX7_change_62 : decode cX7_change 62 = .ok (.getfield 19, 3) := by decide +kernel
theorem dX7_change_65 : decode cX7_change 65 = .ok (.iload_n 3, 1) := by decide +kernel
theorem dX7_change_66 : decode cX7_change 66 = .ok (.invokevirtual 192, 3) := by decide +kernel
theorem dX7_change_69 : decode cX7_change 69 = .ok (.ifCond .ne 6, 3) := by decide +kernel
theorem dX7_change_72 : decode cX7_change 72 = .ok (.bipush (-2), 2) := by decide +kernel
theorem dX7_change_74 : decode cX7_change 74 = .ok (.ireturn, 1) := by decide +kernel
theorem dX7_change_75 : decode cX7_change 75 = .ok (.aload_n 0, 1) := by decide +kernel
theorem dX7_change_76 : decode cX7_change 76 = .ok (.getfield 58, 3) := by decide +kernel
theorem dX7_change_79 : decode cX7_change 79 = .ok (.aload_n 0, 1) := by decide +kernel
theorem dX7_change_80 : decode cX7_change 80 = .ok (.getfield 49, 3) := by decide +kernel
theorem dX7_change_83 : decode cX7_change 83 = .ok (.invokevirtual 195, 3) := by decide +kernel
theorem dX7_change_86 : decode cX7_change 86 = .ok (.aload_n 0, 1) := by decide +kernel
theorem dX7_change_87 : decode cX7_change 87 = .ok (.getfield 49, 3) := by decide +kernel
theorem dX7_change_90 : decode cX7_change 90 = .ok (.iload_n 3, 1) := by decide +kernel
theorem dX7_change_91 : decode cX7_change 91 = .ok (.putfield 151, 3) := by decide +kernel
theorem dX7_change_94 : decode cX7_change 94 = .ok (.iload_n 3, 1) := by decide +kernel
theorem dX7_change_95 : decode cX7_change 95 = .ok (.iload_n 1, 1) := by decide +kernel
theorem dX7_change_96 : decode cX7_change 96 = .ok (.invokestatic 154, 3) := by decide +kernel
theorem dX7_change_99 : decode cX7_change 99 = .ok (.ireturn, 1) := by decide +kernel
theorem dX7_hide_0 : decode cX7_hide 0 = .ok (.aload_n 0, 1) := by decide +kernel
theorem dX7_hide_1 : decode cX7_hide 1 = .ok (.iload_n 1, 1) := by decide +kernel
theorem dX7_hide_2 : decode cX7_hide 2 = .ok (.invokevirtual 139, 3) := by decide +kernel
theorem dX7_hide_5 : decode cX7_hide 5 = .ok (.ifCond .eq 12, 3) := by decide +kernel
theorem dX7_hide_8 : decode cX7_hide 8 = .ok (.iload_n 2, 1) := by decide +kernel
theorem dX7_hide_9 : decode cX7_hide 9 = .ok (.bipush 10, 2) := by decide +kernel
theorem dX7_hide_11 : decode cX7_hide 11 = .ok (.invokestatic 170, 3) := by decide +kernel
theorem dX7_hide_14 : decode cX7_hide 14 = .ok (.ifCond .ne 5, 3) := by decide +kernel
theorem dX7_hide_17 : decode cX7_hide 17 = .ok (.iconst (-1), 1) := by decide +kernel
theorem dX7_hide_18 : decode cX7_hide 18 = .ok (.ireturn, 1) := by decide +kernel
theorem dX7_hide_19 : decode cX7_hide 19 = .ok (.aload_n 0, 1) := by decide +kernel
theorem dX7_hide_20 : decode cX7_hide 20 = .ok (.getfield 58, 3) := by decide +kernel
theorem dX7_hide_23 : decode cX7_hide 23 = .ok (.aload_n 0, 1) := by decide +kernel
theorem dX7_hide_24 : decode cX7_hide 24 = .ok (.getfield 49, 3) := by decide +kernel
theorem dX7_hide_27 : decode cX7_hide 27 = .ok (.invokevirtual 195, 3) := by decide +kernel
theorem dX7_hide_30 : decode cX7_hide 30 = .ok (.aload_n 0, 1) := by decide +kernel
theorem dX7_hide_31 : decode cX7_hide 31 = .ok (.getfield 49, 3) := by decide +kernel
theorem dX7_hide_34 : decode cX7_hide 34 = .ok (.getfield 158, 3) := by decide +kernel
theorem dX7_hide_37 : decode cX7_hide 37 = .ok (.iload_n 1, 1) := by decide +kernel
theorem dX7_hide_38 : decode cX7_hide 38 = .ok (.invokestatic 122, 3) := by decide +kernel
theorem dX7_hide_41 : decode cX7_hide 41 = .ok (.istore_n 3, 1) := by decide +kernel
theorem dX7_hide_42 : decode cX7_hide 42 = .ok (.aload_n 0, 1) := by decide +kernel
theorem dX7_hide_43 : decode cX7_hide 43 = .ok (.getfield 49, 3) := by decide +kernel
theorem dX7_hide_46 : decode cX7_hide 46 = .ok (.getfield 158, 3) := by decide +kernel
theorem dX7_hide_49 : decode cX7_hide 49 = .ok (.iload_n 1, 1) := by decide +kernel
theorem dX7_hide_50 : decode cX7_hide 50 = .ok (.iload_n 2, 1) := by decide +kernel
theorem dX7_hide_51 : decode cX7_hide 51 = .ok (.invokestatic 199, 3) := by decide +kernel
theorem dX7_hide_54 : decode cX7_hide 54 = .ok (.iload_n 3, 1) := by decide +kernel
theorem dX7_hide_55 : decode cX7_hide 55 = .ok (.ireturn, 1) := by decide +kernel
theorem dX7_undo_0 : decode cX7_undo 0 = .ok (.aload_n 0, 1) := by decide +kernel
theorem dX7_undo_1 : decode cX7_undo 1 = .ok (.getfield 58, 3) := by decide +kernel
theorem dX7_undo_4 : decode cX7_undo 4 = .ok (.aload_n 0, 1) := by decide +kernel
theorem dX7_undo_5 : decode cX7_undo 5 = .ok (.getfield 49, 3) := by decide +kernel
theorem dX7_undo_8 : decode cX7_undo 8 = .ok (.invokevirtual 203, 3) := by decide +kernel
theorem dX7_undo_11 : decode cX7_undo 11 = .ok (.ifCond .ne 6, 3) := by decide +kernel
theorem dX7_undo_14 : decode cX7_undo 14 = .ok (.bipush (-2), 2) := by decide +kernel
theorem dX7_undo_16 : decode cX7_undo 16 = .ok (.ireturn, 1) := by decide +kernel
theorem dX7_undo_17 : decode cX7_undo 17 = .ok (.aload_n 0, 1) := by decide +kernel
theorem dX7_undo_18 : decode cX7_undo 18 = .ok (.iconst 1, 1) := by decide +kernel
theorem dX7_undo_19 : decode cX7_undo 19 = .ok (.putfield 69, 3) := by decide +kernel
theorem dX7_undo_22 : decode cX7_undo 22 = .ok (.aload_n 0, 1) := by decide +kernel
theorem dX7_undo_23 : decode cX7_undo 23 = .ok (.getfield 58, 3) := by decide +kernel
theorem dX7_undo_26 : decode cX7_undo 26 = .ok (.getfield 207, 3) := by decide +kernel
theorem dX7_undo_29 : decode cX7_undo 29 = .ok (.ireturn, 1) := by decide +kernel
theorem dX7_left_0 : decode cX7_left 0 = .ok (.aload_n 0, 1) := by decide +kernel
theorem dX7_left_1 : decode cX7_left 1 = .ok (.invokevirtual 208, 3) := by decide +kernel
theorem dX7_left_4 : decode cX7_left 4 = .ok (.getfield 106, 3) := by decide +kernel
theorem dX7_left_7 : decode cX7_left 7 = .ok (.ireturn, 1) := by decide +kernel
theorem dX7_likely_0 : decode cX7_likely 0 = .ok (.aload_n 0, 1) := by decide +kernel
theorem dX7_likely_1 : decode cX7_likely 1 = .ok (.iload_n 1, 1) := by decide +kernel
theorem dX7_likely_2 : decode cX7_likely 2 = .ok (.invokevirtual 139, 3) := by decide +kernel
theorem dX7_likely_5 : decode cX7_likely 5 = .ok (.ifCond .eq 19, 3) := by decide +kernel
theorem dX7_likely_8 : decode cX7_likely 8 = .ok (.aload_n 0, 1) := by decide +kernel
theorem dX7_likely_9 : decode cX7_likely 9 = .ok (.iload_n 2, 1) := by decide +kernel
theorem dX7_likely_10 : decode cX7_likely 10 = .ok (.invokevirtual 109, 3) := by decide +kernel
theorem dX7_likely_13 : decode cX7_likely 13 = .ok (.ifCond .eq 11, 3) := by decide +kernel
theorem dX7_likely_16 : decode cX7_likely 16 = .ok (.iload_n 3, 1) := by decide +kernel
theorem dX7_likely_17 : decode cX7_likely 17 = .ok (.iconst 2, 1) := by decide +kernel
theorem dX7_likely_18 : decode cX7_likely 18 = .ok (.invokestatic 170, 3) := by decide +kernel
theorem dX7_likely_21 : decode cX7_likely 21 = .ok (.ifCond .ne 7, 3) := by decide +kernel
theorem dX7_likely_24 : decode cX7_likely 24 = .ok (.ldc2_w 212, 3) := by decide +kernel
theorem dX7_likely_27 : decode cX7_likely 27 = .ok (.lreturn, 1) := by decide +kernel
theorem dX7_likely_28 : decode cX7_likely 28 = .ok (.aload_n 0, 1) := by decide +kernel
theorem dX7_likely_29 : decode cX7_likely 29 = .ok (.invokevirtual 208, 3) := by decide +kernel
theorem dX7_likely_32 : decode cX7_likely 32 = .ok (.astore 4, 2) := by decide +kernel
theorem dX7_likely_34 : decode cX7_likely 34 = .ok (.aload 4, 2) := by decide +kernel
theorem dX7_likely_36 : decode cX7_likely 36 = .ok (.getfield 106, 3) := by decide +kernel
theorem dX7_likely_39 : decode cX7_likely 39 = .ok (.ifCond .ne 7, 3) := by decide +kernel
theorem dX7_likely_42 : decode cX7_likely 42 = .ok (.ldc2_w 214, 3) := by decide +kernel
theorem dX7_likely_45 : decode cX7_likely 45 = .ok (.lreturn, 1) := by decide +kernel
theorem dX7_likely_46 : decode cX7_likely 46 = .ok (.lconst 0, 1) := by decide +kernel
theorem dX7_likely_47 : decode cX7_likely 47 = .ok (.lstore 5, 2) := by decide +kernel
theorem dX7_likely_49 : decode cX7_likely 49 = .ok (.lconst 0, 1) := by decide +kernel
theorem dX7_likely_50 : decode cX7_likely 50 = .ok (.lstore 7, 2) := by decide +kernel
theorem dX7_likely_52 : decode cX7_likely 52 = .ok (.iconst 0, 1) := by decide +kernel
theorem dX7_likely_53 : decode cX7_likely 53 = .ok (.istore 9, 2) := by decide +kernel
theorem dX7_likely_55 : decode cX7_likely 55 = .ok (.iload 9, 2) := by decide +kernel
theorem dX7_likely_57 : decode cX7_likely 57 = .ok (.aload 4, 2) := by decide +kernel
theorem dX7_likely_59 : decode cX7_likely 59 = .ok (.getfield 106, 3) := by decide +kernel
theorem dX7_likely_62 : decode cX7_likely 62 = .ok (.if_icmp .ge 57, 3) := by decide +kernel
theorem dX7_likely_65 : decode cX7_likely 65 = .ok (.aload 4, 2) := by decide +kernel
theorem dX7_likely_67 : decode cX7_likely 67 = .ok (.iload 9, 2) := by decide +kernel
theorem dX7_likely_69 : decode cX7_likely 69 = .ok (.invokevirtual 161, 3) := by decide +kernel
theorem dX7_likely_72 : decode cX7_likely 72 = .ok (.istore 10, 2) := by decide +kernel
theorem dX7_likely_74 : decode cX7_likely 74 = .ok (.aload_n 0, 1) := by decide +kernel
theorem dX7_likely_75 : decode cX7_likely 75 = .ok (.getfield 19, 3) := by decide +kernel
theorem dX7_likely_78 : decode cX7_likely 78 = .ok (.iload 10, 2) := by decide +kernel
theorem dX7_likely_80 : decode cX7_likely 80 = .ok (.invokevirtual 216, 3) := by decide +kernel
