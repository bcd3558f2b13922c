theorem dJ0_length_8abf5_0 : decode cJ0_length_8abf5 0 = .ok (.aload_n 0, 1) := by decide +kernel
theorem dJ0_length_8abf5_1 : decode cJ0_length_8abf5 1 = .ok (.getfield 9, 3) := by decide +kernel
theorem dJ0_length_8abf5_4 : decode cJ0_length_8abf5 4 = .ok (.arraylength, 1) := by decide +kernel
theorem dJ0_length_8abf5_5 : decode cJ0_length_8abf5 5 = .ok (.aload_n 0, 1) := by decide +kernel
theorem dJ0_length_8abf5_6 : decode cJ0_length_8abf5 6 = .ok (.invokevirtual 335, 3) := by decide +kernel
theorem dJ0_length_8abf5_9 : decode cJ0_length_8abf5 9 = .ok (.ishr, 1) := by decide +kernel
theorem dJ0_length_8abf5_10 : decode cJ0_length_8abf5 10 = .ok (.ireturn, 1) := by decide +kernel
theorem dJ0_charAt_5068e_0 : decode cJ0_charAt_5068e 0 = .ok (.aload_n 0, 1) := by decide +kernel
theorem dJ0_charAt_5068e_1 : decode cJ0_charAt_5068e 1 = .ok (.invokevirtual 492, 3) := by decide +kernel
theorem dJ0_charAt_5068e_4 : decode cJ0_charAt_5068e 4 = .ok (.ifCond .eq 12, 3) := by decide +kernel
theorem dJ0_charAt_5068e_7 : decode cJ0_charAt_5068e 7 = .ok (.aload_n 0, 1) := by decide +kernel
theorem dJ0_charAt_5068e_8 : decode cJ0_charAt_5068e 8 = .ok (.getfield 9, 3) := by decide +kernel
theorem dJ0_charAt_5068e_11 : decode cJ0_charAt_5068e 11 = .ok (.iload_n 1, 1) := by decide +kernel
theorem dJ0_charAt_5068e_12 : decode cJ0_charAt_5068e 12 = .ok (.invokestatic 495, 3) := by decide +kernel
theorem dJ0_charAt_5068e_15 : decode cJ0_charAt_5068e 15 = .ok (.ireturn, 1) := by decide +kernel
theorem dJ0_charAt_5068e_16 : decode cJ0_charAt_5068e 16 = .ok (.aload_n 0, 1) := by decide +kernel
theorem dJ0_charAt_5068e_17 : decode cJ0_charAt_5068e 17 = .ok (.getfield 9, 3) := by decide +kernel
theorem dJ0_charAt_5068e_20 : decode cJ0_charAt_5068e 20 = .ok (.iload_n 1, 1) := by decide +kernel
theorem dJ0_charAt_5068e_21 : decode cJ0_charAt_5068e 21 = .ok (.invokestatic 498, 3) := by decide +kernel
theorem dJ0_charAt_5068e_24 : decode cJ0_charAt_5068e 24 = .ok (.ireturn, 1) := by decide +kernel
theorem dJ0_coder_7d493_0 : decode cJ0_coder_7d493 0 = .ok (.getstatic 38, 3) := by decide +kernel
theorem dJ0_coder_7d493_3 : decode cJ0_coder_7d493 3 = .ok (.ifCond .eq 10, 3) := by decide +kernel
theorem dJ0_coder_7d493_6 : decode cJ0_coder_7d493 6 = .ok (.aload_n 0, 1) := by decide +kernel
theorem dJ0_coder_7d493_7 : decode cJ0_coder_7d493 7 = .ok (.getfield 15, 3) := by decide +kernel
theorem dJ0_coder_7d493_10 : decode cJ0_coder_7d493 10 = .ok (.goto 4, 3) := by decide +kernel
theorem dJ0_coder_7d493_13 : decode cJ0_coder_7d493 13 = .ok (.iconst 1, 1) := by decide +kernel
theorem dJ0_coder_7d493_14 : decode cJ0_coder_7d493 14 = .ok (.ireturn, 1) := by decide +kernel
theorem dJ0_isLatin1_aae02_0 : decode cJ0_isLatin1_aae02 0 = .ok (.getstatic 38, 3) := by decide +kernel
theorem dJ0_isLatin1_aae02_3 : decode cJ0_isLatin1_aae02 3 = .ok (.ifCond .eq 14, 3) := by decide +kernel
theorem dJ0_isLatin1_aae02_6 : decode cJ0_isLatin1_aae02 6 = .ok (.aload_n 0, 1) := by decide +kernel
theorem dJ0_isLatin1_aae02_7 : decode cJ0_isLatin1_aae02 7 = .ok (.getfield 15, 3) := by decide +kernel
theorem dJ0_isLatin1_aae02_10 : decode cJ0_isLatin1_aae02 10 = .ok (.ifCond .ne 7, 3) := by decide +kernel
theorem dJ0_isLatin1_aae02_13 : decode cJ0_isLatin1_aae02 13 = .ok (.iconst 1, 1) := by decide +kernel
theorem dJ0_isLatin1_aae02_14 : decode cJ0_isLatin1_aae02 14 = .ok (.goto 4, 3) := by decide +kernel
theorem dJ0_isLatin1_aae02_17 : decode cJ0_isLatin1_aae02 17 = .ok (.iconst 0, 1) := by decide +kernel
theorem dJ0_isLatin1_aae02_18 : decode cJ0_isLatin1_aae02 18 = .ok (.ireturn, 1) := by decide +kernel
theorem dJ0_checkIndex_df160_0 : decode cJ0_checkIndex_df160 0 = .ok (.iload_n 0, 1) := by decide +kernel
theorem dJ0_checkIndex_df160_1 : decode cJ0_checkIndex_df160 1 = .ok (.iload_n 1, 1) := by decide +kernel
theorem dJ0_checkIndex_df160_2 : decode cJ0_checkIndex_df160 2 = .ok (.getstatic 1053, 3) := by decide +kernel
theorem dJ0_checkIndex_df160_5 : decode cJ0_checkIndex_df160 5 = .ok (.invokestatic 1059, 3) := by decide +kernel
theorem dJ0_checkIndex_df160_8 : decode cJ0_checkIndex_df160 8 = .ok (.pop, 1) := by decide +kernel
theorem dJ0_checkIndex_df160_9 : decode cJ0_checkIndex_df160 9 = .ok (.return_, 1) := by decide +kernel
theorem dJ1_charAt_3b067_0 : decode cJ1_charAt_3b067 0 = .ok (.iload_n 1, 1) := by decide +kernel
theorem dJ1_charAt_3b067_1 : decode cJ1_charAt_3b067 1 = .ok (.aload_n 0, 1) := by decide +kernel
theorem dJ1_charAt_3b067_2 : decode cJ1_charAt_3b067 2 = .ok (.arraylength, 1) := by decide +kernel
theorem dJ1_charAt_3b067_3 : decode cJ1_charAt_3b067 3 = .ok (.invokestatic 9, 3) := by decide +kernel
theorem dJ1_charAt_3b067_6 : decode cJ1_charAt_3b067 6 = .ok (.aload_n 0, 1) := by decide +kernel
theorem dJ1_charAt_3b067_7 : decode cJ1_charAt_3b067 7 = .ok (.iload_n 1, 1) := by decide +kernel
theorem dJ1_charAt_3b067_8 : decode cJ1_charAt_3b067 8 = .ok (.baload, 1) := by decide +kernel
theorem dJ1_charAt_3b067_9 : decode cJ1_charAt_3b067 9 = .ok (.sipush 255, 3) := by decide +kernel
theorem dJ1_charAt_3b067_12 : decode cJ1_charAt_3b067 12 = .ok (.iand, 1) := by decide +kernel
theorem dJ1_charAt_3b067_13 : decode cJ1_charAt_3b067 13 = .ok (.i2c, 1) := by decide +kernel
theorem dJ1_charAt_3b067_14 : decode cJ1_charAt_3b067 14 = .ok (.ireturn, 1) := by decide +kernel
theorem dJ2_getChar_3b067_0 : decode cJ2_getChar_3b067 0 = .ok (.getstatic 44, 3) := by decide +kernel
theorem dJ2_getChar_3b067_3 : decode cJ2_getChar_3b067 3 = .ok (.ifCond .ne 25, 3) := by decide +kernel
theorem dJ2_getChar_3b067_6 : decode cJ2_getChar_3b067 6 = .ok (.iload_n 1, 1) := by decide +kernel
theorem dJ2_getChar_3b067_7 : decode cJ2_getChar_3b067 7 = .ok (.ifCond .lt 11, 3) := by decide +kernel
theorem dJ2_getChar_3b067_10 : decode cJ2_getChar_3b067 10 = .ok (.iload_n 1, 1) := by decide +kernel
theorem dJ2_getChar_3b067_11 : decode cJ2_getChar_3b067 11 = .ok (.aload_n 0, 1) := by decide +kernel
theorem dJ2_getChar_3b067_12 : decode cJ2_getChar_3b067 12 = .ok (.invokestatic 48, 3) := by decide +kernel
theorem dJ2_getChar_3b067_15 : decode cJ2_getChar_3b067 15 = .ok (.if_icmp .lt 13, 3) := by decide +kernel
theorem dJ2_getChar_3b067_18 : decode cJ2_getChar_3b067 18 = .ok (.new 52, 3) := by decide +kernel
theorem dJ2_getChar_3b067_21 : decode cJ2_getChar_3b067 21 = .ok (.dup, 1) := by decide +kernel
theorem dJ2_getChar_3b067_22 : decode cJ2_getChar_3b067 22 = .ok (.ldc 54, 2) := by decide +kernel
theorem dJ2_getChar_3b067_24 : decode cJ2_getChar_3b067 24 = .ok (.invokespecial 56, 3) := by decide +kernel
theorem dJ2_getChar_3b067_27 : decode cJ2_getChar_3b067 27 = .ok (.athrow, 1) := by decide +kernel
theorem dJ2_getChar_3b067_28 : decode cJ2_getChar_3b067 28 = .ok (.iload_n 1, 1) := by decide +kernel
theorem dJ2_getChar_3b067_29 : decode cJ2_getChar_3b067 29 = .ok (.iconst 1, 1) := by decide +kernel
theorem dJ2_getChar_3b067_30 : decode cJ2_getChar_3b067 30 = .ok (.ishl, 1) := by decide +kernel
theorem dJ2_getChar_3b067_31 : decode cJ2_getChar_3b067 31 = .ok (.istore_n 1, 1) := by decide +kernel
theorem dJ2_getChar_3b067_32 : decode cJ2_getChar_3b067 32 = .ok (.aload_n 0, 1) := by decide +kernel
theorem dJ2_getChar_3b067_33 : decode cJ2_getChar_3b067 33 = .ok (.iload_n 1, 1) := by decide +kernel
theorem dJ2_getChar_3b067_34 : decode cJ2_getChar_3b067 34 = .ok (.iinc 1 1, 3) := by decide +kernel
theorem dJ2_getChar_3b067_37 : decode cJ2_getChar_3b067 37 = .ok (.baload, 1) := by decide +kernel
theorem dJ2_getChar_3b067_38 : decode cJ2_getChar_3b067 38 = .ok (.sipush 255, 3) := by decide +kernel
theorem dJ2_getChar_3b067_41 : decode cJ2_getChar_3b067 41 = .ok (.iand, 1) := by decide +kernel
theorem dJ2_getChar_3b067_42 : decode cJ2_getChar_3b067 42 = .ok (.getstatic 59, 3) := by decide +kernel
theorem dJ2_getChar_3b067_45 : decode cJ2_getChar_3b067 45 = .ok (.ishl, 1) := by decide +kernel
theorem dJ2_getChar_3b067_46 : decode cJ2_getChar_3b067 46 = .ok (.aload_n 0, 1) := by decide +kernel
theorem dJ2_getChar_3b067_47 : decode cJ2_getChar_3b067 47 = .ok (.iload_n 1, 1) := by decide +kernel
theorem dJ2_getChar_3b067_48 : decode cJ2_getChar_3b067 48 = .ok (.baload, 1) := by decide +kernel
theorem dJ2_getChar_3b067_49 : decode cJ2_getChar_3b067 49 = .ok (.sipush 255, 3) := by decide +kernel
theorem dJ2_getChar_3b067_52 : decode cJ2_getChar_3b067 52 = .ok (.iand, 1) := by decide +kernel
theorem dJ2_getChar_3b067_53 : decode cJ2_getChar_3b067 53 = .ok (.getstatic 63, 3) := by decide +kernel
theorem dJ2_getChar_3b067_56 : decode cJ2_getChar_3b067 56 = .ok (.ishl, 1) := by decide +kernel
theorem dJ2_getChar_3b067_57 : decode cJ2_getChar_3b067 57 = .ok (.ior, 1) := by decide +kernel
theorem dJ2_getChar_3b067_58 : decode cJ2_getChar_3b067 58 = .ok (.i2c, 1) := by decide +kernel
theorem dJ2_getChar_3b067_59 : decode cJ2_getChar_3b067 59 = .ok (.ireturn, 1) := by decide +kernel
theorem dJ2_length_9d52b_0 : decode cJ2_length_9d52b 0 = .ok (.aload_n 0, 1) := by decide +kernel
theorem dJ2_length_9d52b_1 : decode cJ2_length_9d52b 1 = .ok (.arraylength, 1) := by decide +kernel
theorem dJ2_length_9d52b_2 : decode cJ2_length_9d52b 2 = .ok (.iconst 1, 1) := by decide +kernel
theorem dJ2_length_9d52b_3 : decode cJ2_length_9d52b 3 = .ok (.ishr, 1) := by decide +kernel
theorem dJ2_length_9d52b_4 : decode cJ2_length_9d52b 4 = .ok (.ireturn, 1) := by decide +kernel
theorem dJ2_charAt_3b067_0 : decode cJ2_charAt_3b067 0 = .ok (.iload_n 1, 1) := by decide +kernel
theorem dJ2_charAt_3b067_1 : decode cJ2_charAt_3b067 1 = .ok (.aload_n 0, 1) := by decide +kernel
theorem dJ2_charAt_3b067_2 : decode cJ2_charAt_3b067 2 = .ok (.invokestatic 67, 3) := by decide +kernel
theorem dJ2_charAt_3b067_5 : decode cJ2_charAt_3b067 5 = .ok (.aload_n 0, 1) := by decide +kernel
theorem dJ2_charAt_3b067_6 : decode cJ2_charAt_3b067 6 = .ok (.iload_n 1, 1) := by decide +kernel
theorem dJ2_charAt_3b067_7 : decode cJ2_charAt_3b067 7 = .ok (.invokestatic 71, 3) := by decide +kernel
theorem dJ2_charAt_3b067_10 : decode cJ2_charAt_3b067 10 = .ok (.ireturn, 1) := by decide +kernel
theorem dJ2_checkIndex_2214a_0 : decode cJ2_checkIndex_2214a 0 = .ok (.iload_n 0, 1) := by decide +kernel
theorem dJ2_checkIndex_2214a_1 : decode cJ2_checkIndex_2214a 1 = .ok (.aload_n 1, 1) := by decide +kernel
theorem dJ2_checkIndex_2214a_2 : decode cJ2_checkIndex_2214a 2 = .ok (.invokestatic 48, 3) := by decide +kernel
theorem dJ2_checkIndex_2214a_5 : decode cJ2_checkIndex_2214a 5 = .ok (.invokestatic 414, 3) := by decide +kernel
theorem dJ2_checkIndex_2214a_8 : decode cJ2_checkIndex_2214a 8 = .ok (.return_, 1) := by decide +kernel
theorem dJ3_checkIndex_8e157_0 : decode cJ3_checkIndex_8e157 0 = .ok (.iload_n 0, 1) := by decide +kernel
theorem dJ3_checkIndex_8e157_1 : decode cJ3_checkIndex_8e157 1 = .ok (.ifCond .lt 8, 3) := by decide +kernel
theorem dJ3_checkIndex_8e157_4 : decode cJ3_checkIndex_8e157 4 = .ok (.iload_n 0, 1) := by decide +kernel
theorem dJ3_checkIndex_8e157_5 : decode cJ3_checkIndex_8e157 5 = .ok (.iload_n 1, 1) := by decide +kernel
theorem dJ3_checkIndex_8e157_6 : decode cJ3_checkIndex_8e157 6 = .ok (.if_icmp .lt 10, 3) := by decide +kernel
theorem dJ3_checkIndex_8e157_9 : decode cJ3_checkIndex_8e157 9 = .ok (.aload_n 2, 1) := by decide +kernel
theorem dJ3_checkIndex_8e157_10 : decode cJ3_checkIndex_8e157 10 = .ok (.iload_n 0, 1) := by decide +kernel
theorem dJ3_checkIndex_8e157_11 : decode cJ3_checkIndex_8e157 11 = .ok (.iload_n 1, 1) := by decide +kernel
theorem dJ3_checkIndex_8e157_12 : decode cJ3_checkIndex_8e157 12 = .ok (.invokestatic 95, 3) := by decide +kernel
theorem dJ3_checkIndex_8e157_15 : decode cJ3_checkIndex_8e157 15 = .ok (.athrow, 1) := by decide +kernel
theorem dJ3_checkIndex_8e157_16 : decode cJ3_checkIndex_8e157 16 = .ok (.iload_n 0, 1) := by decide +kernel
theorem dJ3_checkIndex_8e157_17 : decode cJ3_checkIndex_8e157 17 = .ok (.ireturn, 1) := by decide +kernel
theorem dJ6_compare_7cf53_0 : decode cJ6_compare_7cf53 0 = .ok (.iload_n 0, 1) := by decide +kernel
theorem dJ6_compare_7cf53_1 : decode cJ6_compare_7cf53 1 = .ok (.iload_n 1, 1) := by decide +kernel
theorem dJ6_compare_7cf53_2 : decode cJ6_compare_7cf53 2 = .ok (.if_icmp .ge 7, 3) := by decide +kernel
theorem dJ6_compare_7cf53_5 : decode cJ6_compare_7cf53 5 = .ok (.iconst (-1), 1) := by decide +kernel
theorem dJ6_compare_7cf53_6 : decode cJ6_compare_7cf53 6 = .ok (.goto 13, 3) := by decide +kernel
theorem dJ6_compare_7cf53_9 : decode cJ6_compare_7cf53 9 = .ok (.iload_n 0, 1) := by decide +kernel
theorem dJ6_compare_7cf53_10 : decode cJ6_compare_7cf53 10 = .ok (.iload_n 1, 1) := by decide +kernel
theorem dJ6_compare_7cf53_11 : decode cJ6_compare_7cf53 11 = .ok (.if_icmp .ne 7, 3) := by decide +kernel
theorem dJ6_compare_7cf53_14 : decode cJ6_compare_7cf53 14 = .ok (.iconst 0, 1) := by decide +kernel
theorem dJ6_compare_7cf53_15 : decode cJ6_compare_7cf53 15 = .ok (.goto 4, 3) := by decide +kernel
theorem dJ6_compare_7cf53_18 : decode cJ6_compare_7cf53 18 = .ok (.iconst 1, 1) := by decide +kernel
theorem dJ6_compare_7cf53_19 : decode cJ6_compare_7cf53 19 = .ok (.ireturn, 1) := by decide +kernel
theorem dJ6_bitCount_0f7a4_0 : decode cJ6_bitCount_0f7a4 0 = .ok (.iload_n 0, 1) := by decide +kernel
theorem dJ6_bitCount_0f7a4_1 : decode cJ6_bitCount_0f7a4 1 = .ok (.iload_n 0, 1) := by decide +kernel
theorem dJ6_bitCount_0f7a4_2 : decode cJ6_bitCount_0f7a4 2 = .ok (.iconst 1, 1) := by decide +kernel
theorem dJ6_bitCount_0f7a4_3 : decode cJ6_bitCount_0f7a4 3 = .ok (.iushr, 1) := by decide +kernel
theorem dJ6_bitCount_0f7a4_4 : decode cJ6_bitCount_0f7a4 4 = .ok (.ldc_w 265, 3) := by decide +kernel
theorem dJ6_bitCount_0f7a4_7 : decode cJ6_bitCount_0f7a4 7 = .ok (.iand, 1) := by decide +kernel
theorem dJ6_bitCount_0f7a4_8 : decode cJ6_bitCount_0f7a4 8 = .ok (.isub, 1) := by decide +kernel
theorem dJ6_bitCount_0f7a4_9 : decode cJ6_bitCount_0f7a4 9 = .ok (.istore_n 0, 1) := by decide +kernel
theorem dJ6_bitCount_0f7a4_10 : decode cJ6_bitCount_0f7a4 10 = .ok (.iload_n 0, 1) := by decide +kernel
theorem dJ6_bitCount_0f7a4_11 : decode cJ6_bitCount_0f7a4 11 = .ok (.ldc_w 266, 3) := by decide +kernel
theorem dJ6_bitCount_0f7a4_14 : decode cJ6_bitCount_0f7a4 14 = .ok (.iand, 1) := by decide +kernel
theorem dJ6_bitCount_0f7a4_15 : decode cJ6_bitCount_0f7a4 15 = .ok (.iload_n 0, 1) := by decide +kernel
theorem dJ6_bitCount_0f7a4_16 : decode cJ6_bitCount_0f7a4 16 = .ok (.iconst 2, 1) := by decide +kernel
theorem dJ6_bitCount_0f7a4_17 : decode cJ6_bitCount_0f7a4 17 = .ok (.iushr, 1) := by decide +kernel
theorem dJ6_bitCount_0f7a4_18 : decode cJ6_bitCount_0f7a4 18 = .ok (.ldc_w 266, 3) := by decide +kernel
theorem dJ6_bitCount_0f7a4_21 : decode cJ6_bitCount_0f7a4 21 = .ok (.iand, 1) := by decide +kernel
theorem dJ6_bitCount_0f7a4_22 : decode cJ6_bitCount_0f7a4 22 = .ok (.iadd, 1) := by decide +kernel
theorem dJ6_bitCount_0f7a4_23 : decode cJ6_bitCount_0f7a4 23 = .ok (.istore_n 0, 1) := by decide +kernel
theorem dJ6_bitCount_0f7a4_24 : decode cJ6_bitCount_0f7a4 24 = .ok (.iload_n 0, 1) := by decide +kernel
theorem dJ6_bitCount_0f7a4_25 : decode cJ6_bitCount_0f7a4 25 = .ok (.iload_n 0, 1) := by decide +kernel
theorem dJ6_bitCount_0f7a4_26 : decode cJ6_bitCount_0f7a4 26 = .ok (.iconst 4, 1) := by decide +kernel
theorem dJ6_bitCount_0f7a4_27 : decode cJ6_bitCount_0f7a4 27 = .ok (.iushr, 1) := by decide +kernel
theorem dJ6_bitCount_0f7a4_28 : decode cJ6_bitCount_0f7a4 28 = .ok (.iadd, 1) := by decide +kernel
theorem dJ6_bitCount_0f7a4_29 : decode cJ6_bitCount_0f7a4 29 = .ok (.ldc_w 267, 3) := by decide +kernel
theorem dJ6_bitCount_0f7a4_32 : decode cJ6_bitCount_0f7a4 32 = .ok (.iand, 1) := by decide +kernel
theorem dJ6_bitCount_0f7a4_33 : decode cJ6_bitCount_0f7a4 33 = .ok (.istore_n 0, 1) := by decide +kernel
theorem dJ6_bitCount_0f7a4_34 : decode cJ6_bitCount_0f7a4 34 = .ok (.iload_n 0, 1) := by decide +kernel
theorem dJ6_bitCount_0f7a4_35 : decode cJ6_bitCount_0f7a4 35 = .ok (.iload_n 0, 1) := by decide +kernel
theorem dJ6_bitCount_0f7a4_36 : decode cJ6_bitCount_0f7a4 36 = .ok (.bipush 8, 2) := by decide +kernel
theorem dJ6_bitCount_0f7a4_38 : decode cJ6_bitCount_0f7a4 38 = .ok (.iushr, 1) := by decide +kernel
theorem dJ6_bitCount_0f7a4_39 : decode cJ6_bitCount_0f7a4 39 = .ok (.iadd, 1) := by decide +kernel
theorem dJ6_bitCount_0f7a4_40 : decode cJ6_bitCount_0f7a4 40 = .ok (.istore_n 0, 1) := by decide +kernel
theorem dJ6_bitCount_0f7a4_41 : decode cJ6_bitCount_0f7a4 41 = .ok (.iload_n 0, 1) := by decide +kernel
theorem dJ6_bitCount_0f7a4_42 : decode cJ6_bitCount_0f7a4 42 = .ok (.iload_n 0, 1) := by decide +kernel
theorem dJ6_bitCount_0f7a4_43 : decode cJ6_bitCount_0f7a4 43 = .ok (.bipush 16, 2) := by decide +kernel
theorem dJ6_bitCount_0f7a4_45 : decode cJ6_bitCount_0f7a4 45 = .ok (.iushr, 1) := by decide +kernel
theorem dJ6_bitCount_0f7a4_46 : decode cJ6_bitCount_0f7a4 46 = .ok (.iadd, 1) := by decide +kernel
theorem dJ6_bitCount_0f7a4_47 : decode cJ6_bitCount_0f7a4 47 = .ok (.istore_n 0, 1) := by decide +kernel
theorem dJ6_bitCount_0f7a4_48 : decode cJ6_bitCount_0f7a4 48 = .ok (.iload_n 0, 1) := by decide +kernel
theorem dJ6_bitCount_0f7a4_49 : decode cJ6_bitCount_0f7a4 49 = .ok (.bipush 63, 2) := by decide +kernel
theorem dJ6_bitCount_0f7a4_51 : decode cJ6_bitCount_0f7a4 51 = .ok (.iand, 1) := by decide +kernel
theorem dJ6_bitCount_0f7a4_52 : decode cJ6_bitCount_0f7a4 52 = .ok (.ireturn, 1) := by decide +kernel
theorem dJ7_fill_d0a16_0 : decode cJ7_fill_d0a16 0 = .ok (.iconst 0, 1) := by decide +kernel
theorem dJ7_fill_d0a16_1 : decode cJ7_fill_d0a16 1 = .ok (.istore_n 3, 1) := by decide +kernel
theorem dJ7_fill_d0a16_2 : decode cJ7_fill_d0a16 2 = .ok (.aload_n 0, 1) := by decide +kernel
theorem dJ7_fill_d0a16_3 : decode cJ7_fill_d0a16 3 = .ok (.arraylength, 1) := by decide +kernel
theorem dJ7_fill_d0a16_4 : decode cJ7_fill_d0a16 4 = .ok (.istore 4, 2) := by decide +kernel
theorem dJ7_fill_d0a16_6 : decode cJ7_fill_d0a16 6 = .ok (.iload_n 3, 1) := by decide +kernel
theorem dJ7_fill_d0a16_7 : decode cJ7_fill_d0a16 7 = .ok (.iload 4, 2) := by decide +kernel
theorem dJ7_fill_d0a16_9 : decode cJ7_fill_d0a16 9 = .ok (.if_icmp .ge 13, 3) := by decide +kernel
theorem dJ7_fill_d0a16_12 : decode cJ7_fill_d0a16 12 = .ok (.aload_n 0, 1) := by decide +kernel
theorem dJ7_fill_d0a16_13 : decode cJ7_fill_d0a16 13 = .ok (.iload_n 3, 1) := by decide +kernel
theorem dJ7_fill_d0a16_14 : decode cJ7_fill_d0a16 14 = .ok (.lload_n 1, 1) := by decide +kernel
theorem dJ7_fill_d0a16_15 : decode cJ7_fill_d0a16 15 = .ok (.lastore, 1) := by decide +kernel
theorem dJ7_fill_d0a16_16 : decode cJ7_fill_d0a16 16 = .ok (.iinc 3 1, 3) := by decide +kernel
theorem dJ7_fill_d0a16_19 : decode cJ7_fill_d0a16 19 = .ok (.goto (-13), 3) := by decide +kernel
theorem dJ7_fill_d0a16_22 : decode cJ7_fill_d0a16 22 = .ok (.return_, 1) := by decide +kernel
theorem dJ7_fill_53178_0 : decode cJ7_fill_53178 0 = .ok (.iconst 0, 1) := by decide +kernel
theorem dJ7_fill_53178_1 : decode cJ7_fill_53178 1 = .ok (.istore_n 2, 1) := by decide +kernel
theorem dJ7_fill_53178_2 : decode cJ7_fill_53178 2 = .ok (.aload_n 0, 1) := by decide +kernel
theorem dJ7_fill_53178_3 : decode cJ7_fill_53178 3 = .ok (.arraylength, 1) := by decide +kernel
theorem dJ7_fill_53178_4 : decode cJ7_fill_53178 4 = .ok (.istore_n 3, 1) := by decide +kernel
theorem dJ7_fill_53178_5 : decode cJ7_fill_53178 5 = .ok (.iload_n 2, 1) := by decide +kernel
theorem dJ7_fill_53178_6 : decode cJ7_fill_53178 6 = .ok (.iload_n 3, 1) := by decide +kernel
theorem dJ7_fill_53178_7 : decode cJ7_fill_53178 7 = .ok (.if_icmp .ge 13, 3) := by decide +kernel
theorem dJ7_fill_53178_10 : decode cJ7_fill_53178 10 = .ok (.aload_n 0, 1) := by decide +kernel
theorem dJ7_fill_53178_11 : decode cJ7_fill_53178 11 = .ok (.iload_n 2, 1) := by decide +kernel
theorem dJ7_fill_53178_12 : decode cJ7_fill_53178 12 = .ok (.iload_n 1, 1) := by decide +kernel
theorem dJ7_fill_53178_13 : decode cJ7_fill_53178 13 = .ok (.iastore, 1) := by decide +kernel
theorem dJ7_fill_53178_14 : decode cJ7_fill_53178 14 = .ok (.iinc 2 1, 3) := by decide +kernel
theorem dJ7_fill_53178_17 : decode cJ7_fill_53178 17 = .ok (.goto (-12), 3) := by decide +kernel
theorem dJ7_fill_53178_20 : decode cJ7_fill_53178 20 = .ok (.return_, 1) := by decide +kernel
theorem dJ9_abs_0f7a4_0 : decode cJ9_abs_0f7a4 0 = .ok (.iload_n 0, 1) := by decide +kernel
theorem dJ9_abs_0f7a4_1 : decode cJ9_abs_0f7a4 1 = .ok (.ifCond .ge 8, 3) := by decide +kernel
theorem dJ9_abs_0f7a4_4 : decode cJ9_abs_0f7a4 4 = .ok (.iload_n 0, 1) := by decide +kernel
theorem dJ9_abs_0f7a4_5 : decode cJ9_abs_0f7a4 5 = .ok (.ineg, 1) := by decide +kernel
theorem dJ9_abs_0f7a4_6 : decode cJ9_abs_0f7a4 6 = .ok (.goto 4, 3) := by decide +kernel
theorem dJ9_abs_0f7a4_9 : decode cJ9_abs_0f7a4 9 = .ok (.iload_n 0, 1) := by decide +kernel
theorem dJ9_abs_0f7a4_10 : decode cJ9_abs_0f7a4 10 = .ok (.ireturn, 1) := by decide +kernel
theorem dJ9_max_7cf53_0 : decode cJ9_max_7cf53 0 = .ok (.iload_n 0, 1) := by decide +kernel
theorem dJ9_max_7cf53_1 : decode cJ9_max_7cf53 1 = .ok (.iload_n 1, 1) := by decide +kernel
theorem dJ9_max_7cf53_2 : decode cJ9_max_7cf53 2 = .ok (.if_icmp .lt 7, 3) := by decide +kernel
theorem dJ9_max_7cf53_5 : decode cJ9_max_7cf53 5 = .ok (.iload_n 0, 1) := by decide +kernel
theorem dJ9_max_7cf53_6 : decode cJ9_max_7cf53 6 = .ok (.goto 4, 3) := by decide +kernel
theorem dJ9_max_7cf53_9 : decode cJ9_max_7cf53 9 = .ok (.iload_n 1, 1) := by decide +kernel
theorem dJ9_max_7cf53_10 : decode cJ9_max_7cf53 10 = .ok (.ireturn, 1) := by decide +kernel
theorem dJ9_min_7cf53_0 : decode cJ9_min_7cf53 0 = .ok (.iload_n 0, 1) := by decide +kernel
theorem dJ9_min_7cf53_1 : decode cJ9_min_7cf53 1 = .ok (.iload_n 1, 1) := by decide +kernel
theorem dJ9_min_7cf53_2 : decode cJ9_min_7cf53 2 = .ok (.if_icmp .gt 7, 3) := by decide +kernel
theorem dJ9_min_7cf53_5 : decode cJ9_min_7cf53 5 = .ok (.iload_n 0, 1) := by decide +kernel
theorem dJ9_min_7cf53_6 : decode cJ9_min_7cf53 6 = .ok (.goto 4, 3) := by decide +kernel
theorem dJ9_min_7cf53_9 : decode cJ9_min_7cf53 9 = .ok (.iload_n 1, 1) := by decide +kernel
theorem dJ9_min_7cf53_10 : decode cJ9_min_7cf53 10 = .ok (.ireturn, 1) := by decide +kernel
theorem dX0_init_0 : decode cX0_init 0 = .ok (.aload_n 0, 1) := by decide +kernel
theorem dX0_init_1 : decode cX0_init 1 = .ok (.invokespecial 3, 3) := by decide +kernel
theorem dX0_init_4 : decode cX0_init 4 = .ok (.aload_n 0, 1) := by decide +kernel
theorem dX0_init_5 : decode cX0_init 5 = .ok (.sipush 256, 3) := by decide +kernel
theorem dX0_init_8 : decode cX0_init 8 = .ok (.newarray .int, 2) := by decide +kernel
theorem dX0_init_10 : decode cX0_init 10 = .ok (.putfield 9, 3) := by decide +kernel
theorem dX0_init_13 : decode cX0_init 13 = .ok (.aload_n 0, 1) := by decide +kernel
theorem dX0_init_14 : decode cX0_init 14 = .ok (.bipush 64, 2) := by decide +kernel
theorem dX0_init_16 : decode cX0_init 16 = .ok (.newarray .int, 2) := by decide +kernel
theorem dX0_init_18 : decode cX0_init 18 = .ok (.putfield 15, 3) := by decide +kernel
theorem dX0_init_21 : decode cX0_init 21 = .ok (.aload_n 0, 1) := by decide +kernel
theorem dX0_init_22 : decode cX0_init 22 = .ok (.bipush 65, 2) := by decide +kernel
theorem dX0_init_24 : decode cX0_init 24 = .ok (.newarray .int, 2) := by decide +kernel
theorem dX0_init_26 : decode cX0_init 26 = .ok (.putfield 18, 3) := by decide +kernel
theorem dX0_init_29 : decode cX0_init 29 = .ok (.aload_n 0, 1) := by decide +kernel
theorem dX0_init_30 : decode cX0_init 30 = .ok (.bipush 64, 2) := by decide +kernel
theorem dX0_init_32 : decode cX0_init 32 = .ok (.newarray .int, 2) := by decide +kernel
theorem dX0_init_34 : decode cX0_init 34 = .ok (.putfield 21, 3) := by decide +kernel
theorem dX0_init_37 : decode cX0_init 37 = .ok (.aload_n 0, 1) := by decide +kernel
theorem dX0_init_38 : decode cX0_init 38 = .ok (.sipush 256, 3) := by decide +kernel
theorem dX0_init_41 : decode cX0_init 41 = .ok (.newarray .int, 2) := by decide +kernel
theorem dX0_init_43 : decode cX0_init 43 = .ok (.putfield 24, 3) := by decide +kernel
theorem dX0_init_46 : decode cX0_init 46 = .ok (.return_, 1) := by decide +kernel
theorem dX0_choose_0 : decode cX0_choose 0 = .ok (.aload_n 0, 1) := by decide +kernel
theorem dX0_choose_1 : decode cX0_choose 1 = .ok (.bipush (-4), 2) := by decide +kernel
theorem dX0_choose_3 : decode cX0_choose 3 = .ok (.putfield 27, 3) := by decide +kernel
theorem dX0_choose_6 : decode cX0_choose 6 = .ok (.aload_n 0, 1) := by decide +kernel
theorem dX0_choose_7 : decode cX0_choose 7 = .ok (.aload_n 2, 1) := by decide +kernel
theorem dX0_choose_8 : decode cX0_choose 8 = .ok (.getfield 31, 3) := by decide +kernel
theorem dX0_choose_11 : decode cX0_choose 11 = .ok (.iconst 1, 1) := by decide +kernel
theorem dX0_choose_12 : decode cX0_choose 12 = .ok (.iadd, 1) := by decide +kernel
theorem dX0_choose_13 : decode cX0_choose 13 = .ok (.putfield 36, 3) := by decide +kernel
theorem dX0_choose_16 : decode cX0_choose 16 = .ok (.iconst 0, 1) := by decide +kernel
theorem dX0_choose_17 : decode cX0_choose 17 = .ok (.istore_n 3, 1) := by decide +kernel
theorem dX0_choose_18 : decode cX0_choose 18 = .ok (.iload_n 3, 1) := by decide +kernel
theorem dX0_choose_19 : decode cX0_choose 19 = .ok (.aload_n 1, 1) := by decide +kernel
theorem dX0_choose_20 : decode cX0_choose 20 = .ok (.getfield 39, 3) := by decide +kernel
theorem dX0_choose_23 : decode cX0_choose 23 = .ok (.if_icmp .ge 65, 3) := by decide +kernel
theorem dX0_choose_26 : decode cX0_choose 26 = .ok (.aload_n 0, 1) := by decide +kernel
theorem dX0_choose_27 : decode cX0_choose 27 = .ok (.aload_n 2, 1) := by decide +kernel
theorem dX0_choose_28 : decode cX0_choose 28 = .ok (.iload_n 3, 1) := by decide +kernel
theorem dX0_choose_29 : decode cX0_choose 29 = .ok (.invokevirtual 44, 3) := by decide +kernel
theorem dX0_choose_32 : decode cX0_choose 32 = .ok (.iconst 0, 1) := by decide +kernel
theorem dX0_choose_33 : decode cX0_choose 33 = .ok (.istore 4, 2) := by decide +kernel
theorem dX0_choose_35 : decode cX0_choose 35 = .ok (.iload 4, 2) := by decide +kernel
theorem dX0_choose_37 : decode cX0_choose 37 = .ok (.iconst 4, 1) := by decide +kernel
theorem dX0_choose_38 : decode cX0_choose 38 = .ok (.if_icmp .ge 44, 3) := by decide +kernel
theorem dX0_choose_41 : decode cX0_choose 41 = .ok (.aload_n 0, 1) := by decide +kernel
theorem dX0_choose_42 : decode cX0_choose 42 = .ok (.aload_n 1, 1) := by decide +kernel
theorem dX0_choose_43 : decode cX0_choose 43 = .ok (.iload_n 3, 1) := by decide +kernel
theorem dX0_choose_44 : decode cX0_choose 44 = .ok (.iload 4, 2) := by decide +kernel
theorem dX0_choose_46 : decode cX0_choose 46 = .ok (.invokevirtual 48, 3) := by decide +kernel
theorem dX0_choose_49 : decode cX0_choose 49 = .ok (.istore 5, 2) := by decide +kernel
theorem dX0_choose_51 : decode cX0_choose 51 = .ok (.iload 5, 2) := by decide +kernel
theorem dX0_choose_53 : decode cX0_choose 53 = .ok (.aload_n 0, 1) := by decide +kernel
theorem dX0_choose_54 : decode cX0_choose 54 = .ok (.getfield 36, 3) := by decide +kernel
theorem dX0_choose_57 : decode cX0_choose 57 = .ok (.if_icmp .ge 19, 3) := by decide +kernel
theorem dX0_choose_60 : decode cX0_choose 60 = .ok (.aload_n 0, 1) := by decide +kernel
theorem dX0_choose_61 : decode cX0_choose 61 = .ok (.iload_n 3, 1) := by decide +kernel
theorem dX0_choose_62 : decode cX0_choose 62 = .ok (.iload 4, 2) := by decide +kernel
theorem dX0_choose_64 : decode cX0_choose 64 = .ok (.invokestatic 52, 3) := by decide +kernel
theorem dX0_choose_67 : decode cX0_choose 67 = .ok (.putfield 27, 3) := by decide +kernel
theorem dX0_choose_70 : decode cX0_choose 70 = .ok (.aload_n 0, 1) := by decide +kernel
theorem dX0_choose_71 : decode cX0_choose 71 = .ok (.iload 5, 2) := by decide +kernel
theorem dX0_choose_73 : decode cX0_choose 73 = .ok (.putfield 36, 3) := by decide +kernel
theorem dX0_choose_76 : decode cX0_choose 76 = .ok (.iinc 4 1, 3) := by decide +kernel
theorem dX0_choose_79 : decode cX0_choose 79 = .ok (.goto (-44), 3) := by decide +kernel
theorem dX0_choose_82 : decode cX0_choose 82 = .ok (.iinc 3 1, 3) := by decide +kernel
theorem dX0_choose_85 : decode cX0_choose 85 = .ok (.goto (-67), 3) := by decide +kernel
theorem dX0_choose_88 : decode cX0_choose 88 = .ok (.return_, 1) := by decide +kernel
theorem dX0_countSets_0 : decode cX0_countSets 0 = .ok (.aload_n 0, 1) := by decide +kernel
theorem dX0_countSets_1 : decode cX0_countSets 1 = .ok (.getfield 9, 3) := by decide +kernel
theorem dX0_countSets_4 : decode cX0_countSets 4 = .ok (.iconst 0, 1) := by decide +kernel
theorem dX0_countSets_5 : decode cX0_countSets 5 = .ok (.invokestatic 56, 3) := by decide +kernel
theorem dX0_countSets_8 : decode cX0_countSets 8 = .ok (.iconst 0, 1) := by decide +kernel
theorem dX0_countSets_9 : decode cX0_countSets 9 = .ok (.istore_n 3, 1) := by decide +kernel
theorem dX0_countSets_10 : decode cX0_countSets 10 = .ok (.iload_n 3, 1) := by decide +kernel
theorem dX0_countSets_11 : decode cX0_countSets 11 = .ok (.aload_n 1, 1) := by decide +kernel
theorem dX0_countSets_12 : decode cX0_countSets 12 = .ok (.getfield 31, 3) := by decide +kernel
theorem dX0_countSets_15 : decode cX0_countSets 15 = .ok (.if_icmp .ge 26, 3) := by decide +kernel
theorem dX0_countSets_18 : decode cX0_countSets 18 = .ok (.aload_n 0, 1) := by decide +kernel
theorem dX0_countSets_19 : decode cX0_countSets 19 = .ok (.getfield 9, 3) := by decide +kernel
theorem dX0_countSets_22 : decode cX0_countSets 22 = .ok (.aload_n 1, 1) := by decide +kernel
theorem dX0_countSets_23 : decode cX0_countSets 23 = .ok (.iload_n 3, 1) := by decide +kernel
theorem dX0_countSets_24 : decode cX0_countSets 24 = .ok (.invokevirtual 62, 3) := by decide +kernel
theorem dX0_countSets_27 : decode cX0_countSets 27 = .ok (.iload_n 2, 1) := by decide +kernel
theorem dX0_countSets_28 : decode cX0_countSets 28 = .ok (.invokestatic 66, 3) := by decide +kernel
theorem dX0_countSets_31 : decode cX0_countSets 31 = .ok (.iconst 1, 1) := by decide +kernel
theorem dX0_countSets_32 : decode cX0_countSets 32 = .ok (.invokestatic 69, 3) := by decide +kernel
theorem dX0_countSets_35 : decode cX0_countSets 35 = .ok (.iinc 3 1, 3) := by decide +kernel
theorem dX0_countSets_38 : decode cX0_countSets 38 = .ok (.goto (-28), 3) := by decide +kernel
theorem dX0_countSets_41 : decode cX0_countSets 41 = .ok (.return_, 1) := by decide +kernel
theorem dX0_countReplies_0 : decode cX0_countReplies 0 = .ok (.aload_n 0, 1) := by decide +kernel
theorem dX0_countReplies_1 : decode cX0_countReplies 1 = .ok (.getfield 15, 3) := by decide +kernel
theorem dX0_countReplies_4 : decode cX0_countReplies 4 = .ok (.iconst 0, 1) := by decide +kernel
theorem dX0_countReplies_5 : decode cX0_countReplies 5 = .ok (.invokestatic 56, 3) := by decide +kernel
theorem dX0_countReplies_8 : decode cX0_countReplies 8 = .ok (.iconst 0, 1) := by decide +kernel
theorem dX0_countReplies_9 : decode cX0_countReplies 9 = .ok (.istore 4, 2) := by decide +kernel
theorem dX0_countReplies_11 : decode cX0_countReplies 11 = .ok (.iconst 1, 1) := by decide +kernel
theorem dX0_countReplies_12 : decode cX0_countReplies 12 = .ok (.istore 5, 2) := by decide +kernel
theorem dX0_countReplies_14 : decode cX0_countReplies 14 = .ok (.iload 5, 2) := by decide +kernel
theorem dX0_countReplies_16 : decode cX0_countReplies 16 = .ok (.aload_n 0, 1) := by decide +kernel
theorem dX0_countReplies_17 : decode cX0_countReplies 17 = .ok (.getfield 9, 3) := by decide +kernel
theorem dX0_countReplies_20 : decode cX0_countReplies 20 = .ok (.arraylength, 1) := by decide +kernel
theorem dX0_countReplies_21 : decode cX0_countReplies 21 = .ok (.if_icmp .ge 62, 3) := by decide +kernel
theorem dX0_countReplies_24 : decode cX0_countReplies 24 = .ok (.aload_n 0, 1) := by decide +kernel
theorem dX0_countReplies_25 : decode cX0_countReplies 25 = .ok (.getfield 9, 3) := by decide +kernel
theorem dX0_countReplies_28 : decode cX0_countReplies 28 = .ok (.iload 5, 2) := by decide +kernel
theorem dX0_countReplies_30 : decode cX0_countReplies 30 = .ok (.iaload, 1) := by decide +kernel
theorem dX0_countReplies_31 : decode cX0_countReplies 31 = .ok (.ifCond .le 46, 3) := by decide +kernel
theorem dX0_countReplies_34 : decode cX0_countReplies 34 = .ok (.aload_n 1, 1) := by decide +kernel
theorem dX0_countReplies_35 : decode cX0_countReplies 35 = .ok (.iload_n 2, 1) := by decide +kernel
theorem dX0_countReplies_36 : decode cX0_countReplies 36 = .ok (.iload_n 3, 1) := by decide +kernel
theorem dX0_countReplies_37 : decode cX0_countReplies 37 = .ok (.iload 5, 2) := by decide +kernel
theorem dX0_countReplies_39 : decode cX0_countReplies 39 = .ok (.iconst 0, 1) := by decide +kernel
theorem dX0_countReplies_40 : decode cX0_countReplies 40 = .ok (.invokevirtual 73, 3) := by decide +kernel
theorem dX0_countReplies_43 : decode cX0_countReplies 43 = .ok (.istore 6, 2) := by decide +kernel
theorem dX0_countReplies_45 : decode cX0_countReplies 45 = .ok (.aload_n 0, 1) := by decide +kernel
theorem dX0_countReplies_46 : decode cX0_countReplies 46 = .ok (.getfield 15, 3) := by decide +kernel
theorem dX0_countReplies_49 : decode cX0_countReplies 49 = .ok (.iload 6, 2) := by decide +kernel
theorem dX0_countReplies_51 : decode cX0_countReplies 51 = .ok (.aload_n 0, 1) := by decide +kernel
theorem dX0_countReplies_52 : decode cX0_countReplies 52 = .ok (.getfield 9, 3) := by decide +kernel
theorem dX0_countReplies_55 : decode cX0_countReplies 55 = .ok (.iload 5, 2) := by decide +kernel
theorem dX0_countReplies_57 : decode cX0_countReplies 57 = .ok (.iaload, 1) := by decide +kernel
theorem dX0_countReplies_58 : decode cX0_countReplies 58 = .ok (.invokestatic 69, 3) := by decide +kernel
theorem dX0_countReplies_61 : decode cX0_countReplies 61 = .ok (.iload 4, 2) := by decide +kernel
theorem dX0_countReplies_63 : decode cX0_countReplies 63 = .ok (.aload_n 0, 1) := by decide +kernel
theorem dX0_countReplies_64 : decode cX0_countReplies 64 = .ok (.getfield 15, 3) := by decide +kernel
theorem dX0_countReplies_67 : decode cX0_countReplies 67 = .ok (.iload 6, 2) := by decide +kernel
theorem dX0_countReplies_69 : decode cX0_countReplies 69 = .ok (.invokestatic 77, 3) := by decide +kernel
theorem dX0_countReplies_72 : decode cX0_countReplies 72 = .ok (.invokestatic 81, 3) := by decide +kernel
theorem dX0_countReplies_75 : decode cX0_countReplies 75 = .ok (.istore 4, 2) := by decide +kernel
theorem dX0_countReplies_77 : decode cX0_countReplies 77 = .ok (.iinc 5 1, 3) := by decide +kernel
theorem dX0_countReplies_80 : decode cX0_countReplies 80 = .ok (.goto (-66), 3) := by decide +kernel
theorem dX0_countReplies_83 : decode cX0_countReplies 83 = .ok (.iload 4, 2) := by decide +kernel
theorem dX0_countReplies_85 : decode cX0_countReplies 85 = .ok (.ireturn, 1) := by decide +kernel
theorem dX0_solves_0 : decode cX0_solves 0 = .ok (.aload_n 0, 1) := by decide +kernel
theorem dX0_solves_1 : decode cX0_solves 1 = .ok (.iconst 0, 1) := by decide +kernel
theorem dX0_solves_2 : decode cX0_solves 2 = .ok (.putfield 86, 3) := by decide +kernel
theorem dX0_solves_5 : decode cX0_solves 5 = .ok (.aload_n 0, 1) := by decide +kernel
theorem dX0_solves_6 : decode cX0_solves 6 = .ok (.iconst 0, 1) := by decide +kernel
theorem dX0_solves_7 : decode cX0_solves 7 = .ok (.putfield 89, 3) := by decide +kernel
theorem dX0_solves_10 : decode cX0_solves 10 = .ok (.aload_n 2, 1) := by decide +kernel
theorem dX0_solves_11 : decode cX0_solves 11 = .ok (.iload_n 3, 1) := by decide +kernel
theorem dX0_solves_12 : decode cX0_solves 12 = .ok (.invokevirtual 92, 3) := by decide +kernel
theorem dX0_solves_15 : decode cX0_solves 15 = .ok (.ifCond .ne 5, 3) := by decide +kernel
theorem dX0_solves_18 : decode cX0_solves 18 = .ok (.iconst 0, 1) := by decide +kernel
theorem dX0_solves_19 : decode cX0_solves 19 = .ok (.ireturn, 1) := by decide +kernel
theorem dX0_solves_20 : decode cX0_solves 20 = .ok (.iconst 0, 1) := by decide +kernel
theorem dX0_solves_21 : decode cX0_solves 21 = .ok (.istore 4, 2) := by decide +kernel
theorem dX0_solves_23 : decode cX0_solves 23 = .ok (.iload 4, 2) := by decide +kernel
theorem dX0_solves_25 : decode cX0_solves 25 = .ok (.bipush 20, 2) := by decide +kernel
theorem dX0_solves_27 : decode cX0_solves 27 = .ok (.if_icmp .ge 106, 3) := by decide +kernel
theorem dX0_solves_30 : decode cX0_solves 30 = .ok (.aload_n 2, 1) := by decide +kernel
theorem dX0_solves_31 : decode cX0_solves 31 = .ok (.getfield 31, 3) := by decide +kernel
theorem dX0_solves_34 : decode cX0_solves 34 = .ok (.iconst 1, 1) := by decide +kernel
theorem dX0_solves_35 : decode cX0_solves 35 = .ok (.if_icmp .le 98, 3) := by decide +kernel
theorem dX0_solves_38 : decode cX0_solves 38 = .ok (.aload_n 0, 1) := by decide +kernel
theorem dX0_solves_39 : decode cX0_solves 39 = .ok (.aload_n 1, 1) := by decide +kernel
theorem dX0_solves_40 : decode cX0_solves 40 = .ok (.aload_n 2, 1) := by decide +kernel
theorem dX0_solves_41 : decode cX0_solves 41 = .ok (.invokevirtual 96, 3) := by decide +kernel
theorem dX0_solves_44 : decode cX0_solves 44 = .ok (.aload_n 0, 1) := by decide +kernel
theorem dX0_solves_45 : decode cX0_solves 45 = .ok (.getfield 36, 3) := by decide +kernel
theorem dX0_solves_48 : decode cX0_solves 48 = .ok (.aload_n 2, 1) := by decide +kernel
theorem dX0_solves_49 : decode cX0_solves 49 = .ok (.getfield 31, 3) := by decide +kernel
theorem dX0_solves_52 : decode cX0_solves 52 = .ok (.if_icmp .lt 5, 3) := by decide +kernel
theorem dX0_solves_55 : decode cX0_solves 55 = .ok (.iconst 0, 1) := by decide +kernel
theorem dX0_solves_56 : decode cX0_solves 56 = .ok (.ireturn, 1) := by decide +kernel
theorem dX0_solves_57 : decode cX0_solves 57 = .ok (.aload_n 0, 1) := by decide +kernel
theorem dX0_solves_58 : decode cX0_solves 58 = .ok (.getfield 27, 3) := by decide +kernel
theorem dX0_solves_61 : decode cX0_solves 61 = .ok (.invokestatic 100, 3) := by decide +kernel
theorem dX0_solves_64 : decode cX0_solves 64 = .ok (.istore 5, 2) := by decide +kernel
theorem dX0_solves_66 : decode cX0_solves 66 = .ok (.aload_n 0, 1) := by decide +kernel
theorem dX0_solves_67 : decode cX0_solves 67 = .ok (.getfield 27, 3) := by decide +kernel
theorem dX0_solves_70 : decode cX0_solves 70 = .ok (.invokestatic 103, 3) := by decide +kernel
theorem dX0_solves_73 : decode cX0_solves 73 = .ok (.istore 6, 2) := by decide +kernel
theorem dX0_solves_75 : decode cX0_solves 75 = .ok (.aload_n 2, 1) := by decide +kernel
theorem dX0_solves_76 : decode cX0_solves 76 = .ok (.aload_n 1, 1) := by decide +kernel
theorem dX0_solves_77 : decode cX0_solves 77 = .ok (.iload 5, 2) := by decide +kernel
theorem dX0_solves_79 : decode cX0_solves 79 = .ok (.iload 6, 2) := by decide +kernel
theorem dX0_solves_81 : decode cX0_solves 81 = .ok (.aload_n 1, 1) := by decide +kernel
theorem dX0_solves_82 : decode cX0_solves 82 = .ok (.iload 5, 2) := by decide +kernel
theorem dX0_solves_84 : decode cX0_solves 84 = .ok (.iload 6, 2) := by decide +kernel
theorem dX0_solves_86 : decode cX0_solves 86 = .ok (.iload_n 3, 1) := by decide +kernel
theorem dX0_solves_87 : decode cX0_solves 87 = .ok (.iload 5, 2) := by decide +kernel
theorem dX0_solves_89 : decode cX0_solves 89 = .ok (.invokestatic 66, 3) := by decide +kernel
theorem dX0_solves_92 : decode cX0_solves 92 = .ok (.iconst 0, 1) := by decide +kernel
theorem dX0_solves_93 : decode cX0_solves 93 = .ok (.invokevirtual 73, 3) := by decide +kernel
theorem dX0_solves_96 : decode cX0_solves 96 = .ok (.invokevirtual 106, 3) := by decide +kernel
theorem dX0_solves_99 : decode cX0_solves 99 = .ok (.aload_n 0, 1) := by decide +kernel
theorem dX0_solves_100 : decode cX0_solves 100 = .ok (.dup, 1) := by decide +kernel
theorem dX0_solves_101 : decode cX0_solves 101 = .ok (.getfield 89, 3) := by decide +kernel
theorem dX0_solves_104 : decode cX0_solves 104 = .ok (.aload_n 1, 1) := by decide +kernel
theorem dX0_solves_105 : decode cX0_solves 105 = .ok (.getfield 110, 3) := by decide +kernel
theorem dX0_solves_108 : decode cX0_solves 108 = .ok (.iload 6, 2) := by decide +kernel
theorem dX0_solves_110 : decode cX0_solves 110 = .ok (.invokestatic 77, 3) := by decide +kernel
theorem dX0_solves_113 : decode cX0_solves 113 = .ok (.iadd, 1) := by decide +kernel
theorem dX0_solves_114 : decode cX0_solves 114 = .ok (.putfield 89, 3) := by decide +kernel
theorem dX0_solves_117 : decode cX0_solves 117 = .ok (.aload_n 0, 1) := by decide +kernel
theorem dX0_solves_118 : decode cX0_solves 118 = .ok (.dup, 1) := by decide +kernel
theorem dX0_solves_119 : decode cX0_solves 119 = .ok (.getfield 86, 3) := by decide +kernel
theorem dX0_solves_122 : decode cX0_solves 122 = .ok (.iconst 1, 1) := by decide +kernel
theorem dX0_solves_123 : decode cX0_solves 123 = .ok (.iadd, 1) := by decide +kernel
theorem dX0_solves_124 : decode cX0_solves 124 = .ok (.putfield 86, 3) := by decide +kernel
theorem dX0_solves_127 : decode cX0_solves 127 = .ok (.iinc 4 1, 3) := by decide +kernel
theorem dX0_solves_130 : decode cX0_solves 130 = .ok (.goto (-107), 3) := by decide +kernel
theorem dX0_solves_133 : decode cX0_solves 133 = .ok (.aload_n 2, 1) := by decide +kernel
theorem dX0_solves_134 : decode cX0_solves 134 = .ok (.getfield 31, 3) := by decide +kernel
theorem dX0_solves_137 : decode cX0_solves 137 = .ok (.iconst 1, 1) := by decide +kernel
theorem dX0_solves_138 : decode cX0_solves 138 = .ok (.if_icmp .ne 7, 3) := by decide +kernel
theorem dX0_solves_141 : decode cX0_solves 141 = .ok (.iconst 1, 1) := by decide +kernel
theorem dX0_solves_142 : decode cX0_solves 142 = .ok (.goto 4, 3) := by decide +kernel
theorem dX0_solves_145 : decode cX0_solves 145 = .ok (.iconst 0, 1) := by decide +kernel
theorem dX0_solves_146 : decode cX0_solves 146 = .ok (.ireturn, 1) := by decide +kernel
theorem dX0_fewest_0 : decode cX0_fewest 0 = .ok (.aload_n 2, 1) := by decide +kernel
theorem dX0_fewest_1 : decode cX0_fewest 1 = .ok (.getfield 31, 3) := by decide +kernel
theorem dX0_fewest_4 : decode cX0_fewest 4 = .ok (.ifCond .ne 6, 3) := by decide +kernel
theorem dX0_fewest_7 : decode cX0_fewest 7 = .ok (.bipush (-4), 2) := by decide +kernel
theorem dX0_fewest_9 : decode cX0_fewest 9 = .ok (.ireturn, 1) := by decide +kernel
theorem dX0_fewest_10 : decode cX0_fewest 10 = .ok (.aload_n 0, 1) := by decide +kernel
theorem dX0_fewest_11 : decode cX0_fewest 11 = .ok (.aload_n 2, 1) := by decide +kernel
theorem dX0_fewest_12 : decode cX0_fewest 12 = .ok (.iload 4, 2) := by decide +kernel
theorem dX0_fewest_14 : decode cX0_fewest 14 = .ok (.invokevirtual 113, 3) := by decide +kernel
theorem dX0_fewest_17 : decode cX0_fewest 17 = .ok (.ifCond .eq 5, 3) := by decide +kernel
theorem dX0_fewest_20 : decode cX0_fewest 20 = .ok (.iconst 0, 1) := by decide +kernel
theorem dX0_fewest_21 : decode cX0_fewest 21 = .ok (.ireturn, 1) := by decide +kernel
theorem dX0_fewest_22 : decode cX0_fewest 22 = .ok (.aload_n 0, 1) := by decide +kernel
theorem dX0_fewest_23 : decode cX0_fewest 23 = .ok (.aload_n 1, 1) := by decide +kernel
theorem dX0_fewest_24 : decode cX0_fewest 24 = .ok (.aload_n 2, 1) := by decide +kernel
theorem dX0_fewest_25 : decode cX0_fewest 25 = .ok (.iload 4, 2) := by decide +kernel
theorem dX0_fewest_27 : decode cX0_fewest 27 = .ok (.iconst 0, 1) := by decide +kernel
theorem dX0_fewest_28 : decode cX0_fewest 28 = .ok (.aload_n 2, 1) := by decide +kernel
theorem dX0_fewest_29 : decode cX0_fewest 29 = .ok (.getfield 31, 3) := by decide +kernel
theorem dX0_fewest_32 : decode cX0_fewest 32 = .ok (.invokevirtual 117, 3) := by decide +kernel
theorem dX0_fewest_35 : decode cX0_fewest 35 = .ok (.ifCond .eq 5, 3) := by decide +kernel
theorem dX0_fewest_38 : decode cX0_fewest 38 = .ok (.iconst 1, 1) := by decide +kernel
theorem dX0_fewest_39 : decode cX0_fewest 39 = .ok (.ireturn, 1) := by decide +kernel
theorem dX0_fewest_40 : decode cX0_fewest 40 = .ok (.iconst 0, 1) := by decide +kernel
theorem dX0_fewest_41 : decode cX0_fewest 41 = .ok (.istore 5, 2) := by decide +kernel
theorem dX0_fewest_43 : decode cX0_fewest 43 = .ok (.iload 5, 2) := by decide +kernel
theorem dX0_fewest_45 : decode cX0_fewest 45 = .ok (.aload_n 1, 1) := by decide +kernel
theorem dX0_fewest_46 : decode cX0_fewest 46 = .ok (.invokevirtual 121, 3) := by decide +kernel
theorem dX0_fewest_49 : decode cX0_fewest 49 = .ok (.if_icmp .ge 31, 3) := by decide +kernel
theorem dX0_fewest_52 : decode cX0_fewest 52 = .ok (.aload_n 0, 1) := by decide +kernel
theorem dX0_fewest_53 : decode cX0_fewest 53 = .ok (.aload_n 1, 1) := by decide +kernel
theorem dX0_fewest_54 : decode cX0_fewest 54 = .ok (.aload_n 2, 1) := by decide +kernel
theorem dX0_fewest_55 : decode cX0_fewest 55 = .ok (.aload_n 3, 1) := by decide +kernel
theorem dX0_fewest_56 : decode cX0_fewest 56 = .ok (.iload 5, 2) := by decide +kernel
theorem dX0_fewest_58 : decode cX0_fewest 58 = .ok (.invokevirtual 124, 3) := by decide +kernel
theorem dX0_fewest_61 : decode cX0_fewest 61 = .ok (.aload_n 0, 1) := by decide +kernel
theorem dX0_fewest_62 : decode cX0_fewest 62 = .ok (.aload_n 1, 1) := by decide +kernel
theorem dX0_fewest_63 : decode cX0_fewest 63 = .ok (.aload_n 3, 1) := by decide +kernel
theorem dX0_fewest_64 : decode cX0_fewest 64 = .ok (.iload 4, 2) := by decide +kernel
theorem dX0_fewest_66 : decode cX0_fewest 66 = .ok (.invokevirtual 128, 3) := by decide +kernel
theorem dX0_fewest_69 : decode cX0_fewest 69 = .ok (.ifCond .eq 5, 3) := by decide +kernel
theorem dX0_fewest_72 : decode cX0_fewest 72 = .ok (.iconst 2, 1) := by decide +kernel
theorem dX0_fewest_73 : decode cX0_fewest 73 = .ok (.ireturn, 1) := by decide +kernel
theorem dX0_fewest_74 : decode cX0_fewest 74 = .ok (.iinc 5 1, 3) := by decide +kernel
theorem dX0_fewest_77 : decode cX0_fewest 77 = .ok (.goto (-34), 3) := by decide +kernel
theorem dX0_fewest_80 : decode cX0_fewest 80 = .ok (.bipush (-4), 2) := by decide +kernel
theorem dX0_fewest_82 : decode cX0_fewest 82 = .ok (.ireturn, 1) := by decide +kernel
theorem dX0_isKnown_0 : decode cX0_isKnown 0 = .ok (.iconst 1, 1) := by decide +kernel
theorem dX0_isKnown_1 : decode cX0_isKnown 1 = .ok (.istore_n 3, 1) := by decide +kernel
theorem dX0_isKnown_2 : decode cX0_isKnown 2 = .ok (.iload_n 3, 1) := by decide +kernel
theorem dX0_isKnown_3 : decode cX0_isKnown 3 = .ok (.aload_n 1, 1) := by decide +kernel
theorem dX0_isKnown_4 : decode cX0_isKnown 4 = .ok (.getfield 31, 3) := by decide +kernel
theorem dX0_isKnown_7 : decode cX0_isKnown 7 = .ok (.if_icmp .ge 32, 3) := by decide +kernel
theorem dX0_isKnown_10 : decode cX0_isKnown 10 = .ok (.aload_n 1, 1) := by decide +kernel
theorem dX0_isKnown_11 : decode cX0_isKnown 11 = .ok (.iload_n 3, 1) := by decide +kernel
theorem dX0_isKnown_12 : decode cX0_isKnown 12 = .ok (.invokevirtual 62, 3) := by decide +kernel
theorem dX0_isKnown_15 : decode cX0_isKnown 15 = .ok (.iload_n 2, 1) := by decide +kernel
theorem dX0_isKnown_16 : decode cX0_isKnown 16 = .ok (.invokestatic 66, 3) := by decide +kernel
theorem dX0_isKnown_19 : decode cX0_isKnown 19 = .ok (.aload_n 1, 1) := by decide +kernel
theorem dX0_isKnown_20 : decode cX0_isKnown 20 = .ok (.iconst 0, 1) := by decide +kernel
theorem dX0_isKnown_21 : decode cX0_isKnown 21 = .ok (.invokevirtual 62, 3) := by decide +kernel
theorem dX0_isKnown_24 : decode cX0_isKnown 24 = .ok (.iload_n 2, 1) := by decide +kernel
theorem dX0_isKnown_25 : decode cX0_isKnown 25 = .ok (.invokestatic 66, 3) := by decide +kernel
theorem dX0_isKnown_28 : decode cX0_isKnown 28 = .ok (.if_icmp .eq 5, 3) := by decide +kernel
theorem dX0_isKnown_31 : decode cX0_isKnown 31 = .ok (.iconst 0, 1) := by decide +kernel
theorem dX0_isKnown_32 : decode cX0_isKnown 32 = .ok (.ireturn, 1) := by decide +kernel
theorem dX0_isKnown_33 : decode cX0_isKnown 33 = .ok (.iinc 3 1, 3) := by decide +kernel
theorem dX0_isKnown_36 : decode cX0_isKnown 36 = .ok (.goto (-34), 3) := by decide +kernel
theorem dX0_isKnown_39 : decode cX0_isKnown 39 = .ok (.iconst 1, 1) := by decide +kernel
theorem dX0_isKnown_40 : decode cX0_isKnown 40 = .ok (.ireturn, 1) := by decide +kernel
theorem dX0_someTrialTells_0 : decode cX0_someTrialTells 0 = .ok (.iconst 0, 1) := by decide +kernel
theorem dX0_someTrialTells_1 : decode cX0_someTrialTells 1 = .ok (.istore 6, 2) := by decide +kernel
theorem dX0_someTrialTells_3 : decode cX0_someTrialTells 3 = .ok (.iload 6, 2) := by decide +kernel
theorem dX0_someTrialTells_5 : decode cX0_someTrialTells 5 = .ok (.aload_n 1, 1) := by decide +kernel
theorem dX0_someTrialTells_6 : decode cX0_someTrialTells 6 = .ok (.invokevirtual 121, 3) := by decide +kernel
theorem dX0_someTrialTells_9 : decode cX0_someTrialTells 9 = .ok (.if_icmp .ge 27, 3) := by decide +kernel
theorem dX0_someTrialTells_12 : decode cX0_someTrialTells 12 = .ok (.aload_n 0, 1) := by decide +kernel
theorem dX0_someTrialTells_13 : decode cX0_someTrialTells 13 = .ok (.aload_n 1, 1) := by decide +kernel
theorem dX0_someTrialTells_14 : decode cX0_someTrialTells 14 = .ok (.aload_n 2, 1) := by decide +kernel
theorem dX0_someTrialTells_15 : decode cX0_someTrialTells 15 = .ok (.iload 6, 2) := by decide +kernel
theorem dX0_someTrialTells_17 : decode cX0_someTrialTells 17 = .ok (.iload_n 3, 1) := by decide +kernel
theorem dX0_someTrialTells_18 : decode cX0_someTrialTells 18 = .ok (.iload 4, 2) := by decide +kernel
theorem dX0_someTrialTells_20 : decode cX0_someTrialTells 20 = .ok (.iload 5, 2) := by decide +kernel
theorem dX0_someTrialTells_22 : decode cX0_someTrialTells 22 = .ok (.invokevirtual 132, 3) := by decide +kernel
theorem dX0_someTrialTells_25 : decode cX0_someTrialTells 25 = .ok (.ifCond .eq 5, 3) := by decide +kernel
theorem dX0_someTrialTells_28 : decode cX0_someTrialTells 28 = .ok (.iconst 1, 1) := by decide +kernel
theorem dX0_someTrialTells_29 : decode cX0_someTrialTells 29 = .ok (.ireturn, 1) := by decide +kernel
theorem dX0_someTrialTells_30 : decode cX0_someTrialTells 30 = .ok (.iinc 6 1, 3) := by decide +kernel
theorem dX0_someTrialTells_33 : decode cX0_someTrialTells 33 = .ok (.goto (-30), 3) := by decide +kernel
theorem dX0_someTrialTells_36 : decode cX0_someTrialTells 36 = .ok (.iconst 0, 1) := by decide +kernel
theorem dX0_someTrialTells_37 : decode cX0_someTrialTells 37 = .ok (.ireturn, 1) := by decide +kernel
theorem dX0_tells_0 : decode cX0_tells 0 = .ok (.aload_n 0, 1) := by decide +kernel
theorem dX0_tells_1 : decode cX0_tells 1 = .ok (.getfield 21, 3) := by decide +kernel
theorem dX0_tells_4 : decode cX0_tells 4 = .ok (.iconst 0, 1) := by decide +kernel
theorem dX0_tells_5 : decode cX0_tells 5 = .ok (.invokestatic 56, 3) := by decide +kernel
theorem dX0_tells_8 : decode cX0_tells 8 = .ok (.iload_n 3, 1) := by decide +kernel
theorem dX0_tells_9 : decode cX0_tells 9 = .ok (.invokestatic 100, 3) := by decide +kernel
theorem dX0_tells_12 : decode cX0_tells 12 = .ok (.istore 7, 2) := by decide +kernel
theorem dX0_tells_14 : decode cX0_tells 14 = .ok (.iload_n 3, 1) := by decide +kernel
theorem dX0_tells_15 : decode cX0_tells 15 = .ok (.invokestatic 103, 3) := by decide +kernel
theorem dX0_tells_18 : decode cX0_tells 18 = .ok (.istore 8, 2) := by decide +kernel
theorem dX0_tells_20 : decode cX0_tells 20 = .ok (.iload 5, 2) := by decide +kernel
theorem dX0_tells_22 : decode cX0_tells 22 = .ok (.istore 9, 2) := by decide +kernel
theorem dX0_tells_24 : decode cX0_tells 24 = .ok (.iload 9, 2) := by decide +kernel
theorem dX0_tells_26 : decode cX0_tells 26 = .ok (.iload 6, 2) := by decide +kernel
theorem dX0_tells_28 : decode cX0_tells 28 = .ok (.if_icmp .ge 80, 3) := by decide +kernel
theorem dX0_tells_31 : decode cX0_tells 31 = .ok (.aload_n 2, 1) := by decide +kernel
theorem dX0_tells_32 : decode cX0_tells 32 = .ok (.iload 9, 2) := by decide +kernel
theorem dX0_tells_34 : decode cX0_tells 34 = .ok (.invokevirtual 62, 3) := by decide +kernel
theorem dX0_tells_37 : decode cX0_tells 37 = .ok (.istore 10, 2) := by decide +kernel
theorem dX0_tells_39 : decode cX0_tells 39 = .ok (.aload_n 1, 1) := by decide +kernel
theorem dX0_tells_40 : decode cX0_tells 40 = .ok (.iload 7, 2) := by decide +kernel
theorem dX0_tells_42 : decode cX0_tells 42 = .ok (.iload 8, 2) := by decide +kernel
theorem dX0_tells_44 : decode cX0_tells 44 = .ok (.iload 10, 2) := by decide +kernel
theorem dX0_tells_46 : decode cX0_tells 46 = .ok (.iload 7, 2) := by decide +kernel
theorem dX0_tells_48 : decode cX0_tells 48 = .ok (.invokestatic 66, 3) := by decide +kernel
theorem dX0_tells_51 : decode cX0_tells 51 = .ok (.iconst 0, 1) := by decide +kernel
theorem dX0_tells_52 : decode cX0_tells 52 = .ok (.invokevirtual 73, 3) := by decide +kernel
theorem dX0_tells_55 : decode cX0_tells 55 = .ok (.istore 11, 2) := by decide +kernel
theorem dX0_tells_57 : decode cX0_tells 57 = .ok (.iload 10, 2) := by decide +kernel
theorem dX0_tells_59 : decode cX0_tells 59 = .ok (.iload 4, 2) := by decide +kernel
theorem dX0_tells_61 : decode cX0_tells 61 = .ok (.invokestatic 66, 3) := by decide +kernel
theorem dX0_tells_64 : decode cX0_tells 64 = .ok (.istore 12, 2) := by decide +kernel
theorem dX0_tells_66 : decode cX0_tells 66 = .ok (.aload_n 0, 1) := by decide +kernel
theorem dX0_tells_67 : decode cX0_tells 67 = .ok (.getfield 21, 3) := by decide +kernel
theorem dX0_tells_70 : decode cX0_tells 70 = .ok (.iload 11, 2) := by decide +kernel
theorem dX0_tells_72 : decode cX0_tells 72 = .ok (.invokestatic 77, 3) := by decide +kernel
theorem dX0_tells_75 : decode cX0_tells 75 = .ok (.istore 13, 2) := by decide +kernel
theorem dX0_tells_77 : decode cX0_tells 77 = .ok (.iload 13, 2) := by decide +kernel
theorem dX0_tells_79 : decode cX0_tells 79 = .ok (.ifCond .eq 12, 3) := by decide +kernel
theorem dX0_tells_82 : decode cX0_tells 82 = .ok (.iload 13, 2) := by decide +kernel
theorem dX0_tells_84 : decode cX0_tells 84 = .ok (.iload 12, 2) := by decide +kernel
theorem dX0_tells_86 : decode cX0_tells 86 = .ok (.if_icmp .eq 5, 3) := by decide +kernel
theorem dX0_tells_89 : decode cX0_tells 89 = .ok (.iconst 0, 1) := by decide +kernel
theorem dX0_tells_90 : decode cX0_tells 90 = .ok (.ireturn, 1) := by decide +kernel
theorem dX0_tells_91 : decode cX0_tells 91 = .ok (.aload_n 0, 1) := by decide +kernel
theorem dX0_tells_92 : decode cX0_tells 92 = .ok (.getfield 21, 3) := by decide +kernel
theorem dX0_tells_95 : decode cX0_tells 95 = .ok (.iload 11, 2) := by decide +kernel
theorem dX0_tells_97 : decode cX0_tells 97 = .ok (.iload 12, 2) := by decide +kernel
theorem dX0_tells_99 : decode cX0_tells 99 = .ok (.invokestatic 136, 3) := by decide +kernel
theorem dX0_tells_102 : decode cX0_tells 102 = .ok (.iinc 9 1, 3) := by decide +kernel
theorem dX0_tells_105 : decode cX0_tells 105 = .ok (.goto (-81), 3) := by decide +kernel
theorem dX0_tells_108 : decode cX0_tells 108 = .ok (.iconst 1, 1) := by decide +kernel
theorem dX0_tells_109 : decode cX0_tells 109 = .ok (.ireturn, 1) := by decide +kernel
theorem dX0_group_0 : decode cX0_group 0 = .ok (.iload 4, 2) := by decide +kernel
theorem dX0_group_2 : decode cX0_group 2 = .ok (.invokestatic 100, 3) := by decide +kernel
theorem dX0_group_5 : decode cX0_group 5 = .ok (.istore 5, 2) := by decide +kernel
theorem dX0_group_7 : decode cX0_group 7 = .ok (.aload_n 0, 1) := by decide +kernel
theorem dX0_group_8 : decode cX0_group 8 = .ok (.aload_n 1, 1) := by decide +kernel
theorem dX0_group_9 : decode cX0_group 9 = .ok (.iload 5, 2) := by decide +kernel
theorem dX0_group_11 : decode cX0_group 11 = .ok (.iload 4, 2) := by decide +kernel
theorem dX0_group_13 : decode cX0_group 13 = .ok (.invokestatic 103, 3) := by decide +kernel
theorem dX0_group_16 : decode cX0_group 16 = .ok (.invokevirtual 139, 3) := by decide +kernel
theorem dX0_group_19 : decode cX0_group 19 = .ok (.aload_n 0, 1) := by decide +kernel
theorem dX0_group_20 : decode cX0_group 20 = .ok (.getfield 18, 3) := by decide +kernel
theorem dX0_group_23 : decode cX0_group 23 = .ok (.iconst 0, 1) := by decide +kernel
theorem dX0_group_24 : decode cX0_group 24 = .ok (.invokestatic 56, 3) := by decide +kernel
theorem dX0_group_27 : decode cX0_group 27 = .ok (.iconst 0, 1) := by decide +kernel
theorem dX0_group_28 : decode cX0_group 28 = .ok (.istore 6, 2) := by decide +kernel
theorem dX0_group_30 : decode cX0_group 30 = .ok (.iload 6, 2) := by decide +kernel
theorem dX0_group_32 : decode cX0_group 32 = .ok (.aload_n 2, 1) := by decide +kernel
theorem dX0_group_33 : decode cX0_group 33 = .ok (.getfield 31, 3) := by decide +kernel
theorem dX0_group_36 : decode cX0_group 36 = .ok (.if_icmp .ge 35, 3) := by decide +kernel
theorem dX0_group_39 : decode cX0_group 39 = .ok (.aload_n 0, 1) := by decide +kernel
theorem dX0_group_40 : decode cX0_group 40 = .ok (.getfield 18, 3) := by decide +kernel
theorem dX0_group_43 : decode cX0_group 43 = .ok (.aload_n 0, 1) := by decide +kernel
theorem dX0_group_44 : decode cX0_group 44 = .ok (.getfield 24, 3) := by decide +kernel
theorem dX0_group_47 : decode cX0_group 47 = .ok (.aload_n 2, 1) := by decide +kernel
theorem dX0_group_48 : decode cX0_group 48 = .ok (.iload 6, 2) := by decide +kernel
theorem dX0_group_50 : decode cX0_group 50 = .ok (.invokevirtual 62, 3) := by decide +kernel
theorem dX0_group_53 : decode cX0_group 53 = .ok (.iload 5, 2) := by decide +kernel
theorem dX0_group_55 : decode cX0_group 55 = .ok (.invokestatic 66, 3) := by decide +kernel
theorem dX0_group_58 : decode cX0_group 58 = .ok (.invokestatic 77, 3) := by decide +kernel
theorem dX0_group_61 : decode cX0_group 61 = .ok (.iconst 1, 1) := by decide +kernel
theorem dX0_group_62 : decode cX0_group 62 = .ok (.invokestatic 69, 3) := by decide +kernel
theorem dX0_group_65 : decode cX0_group 65 = .ok (.iinc 6 1, 3) := by decide +kernel
theorem dX0_group_68 : decode cX0_group 68 = .ok (.goto (-38), 3) := by decide +kernel
theorem dX0_group_71 : decode cX0_group 71 = .ok (.iconst 1, 1) := by decide +kernel
theorem dX0_group_72 : decode cX0_group 72 = .ok (.istore 6, 2) := by decide +kernel
theorem dX0_group_74 : decode cX0_group 74 = .ok (.iload 6, 2) := by decide +kernel
theorem dX0_group_76 : decode cX0_group 76 = .ok (.aload_n 0, 1) := by decide +kernel
theorem dX0_group_77 : decode cX0_group 77 = .ok (.getfield 18, 3) := by decide +kernel
theorem dX0_group_80 : decode cX0_group 80 = .ok (.arraylength, 1) := by decide +kernel
theorem dX0_group_81 : decode cX0_group 81 = .ok (.if_icmp .ge 28, 3) := by decide +kernel
theorem dX0_group_84 : decode cX0_group 84 = .ok (.aload_n 0, 1) := by decide +kernel
theorem dX0_group_85 : decode cX0_group 85 = .ok (.getfield 18, 3) := by decide +kernel
theorem dX0_group_88 : decode cX0_group 88 = .ok (.iload 6, 2) := by decide +kernel
theorem dX0_group_90 : decode cX0_group 90 = .ok (.dup2, 1) := by decide +kernel
theorem dX0_group_91 : decode cX0_group 91 = .ok (.iaload, 1) := by decide +kernel
theorem dX0_group_92 : decode cX0_group 92 = .ok (.aload_n 0, 1) := by decide +kernel
theorem dX0_group_93 : decode cX0_group 93 = .ok (.getfield 18, 3) := by decide +kernel
theorem dX0_group_96 : decode cX0_group 96 = .ok (.iload 6, 2) := by decide +kernel
theorem dX0_group_98 : decode cX0_group 98 = .ok (.iconst 1, 1) := by decide +kernel
theorem dX0_group_99 : decode cX0_group 99 = .ok (.isub, 1) := by decide +kernel
theorem dX0_group_100 : decode cX0_group 100 = .ok (.iaload, 1) := by decide +kernel
theorem dX0_group_101 : decode cX0_group 101 = .ok (.iadd, 1) := by decide +kernel
theorem dX0_group_102 : decode cX0_group 102 = .ok (.iastore, 1) := by decide +kernel
theorem dX0_group_103 : decode cX0_group 103 = .ok (.iinc 6 1, 3) := by decide +kernel
theorem dX0_group_106 : decode cX0_group 106 = .ok (.goto (-32), 3) := by decide +kernel
theorem dX0_group_109 : decode cX0_group 109 = .ok (.aload_n 3, 1) := by decide +kernel
theorem dX0_group_110 : decode cX0_group 110 = .ok (.aload_n 2, 1) := by decide +kernel
theorem dX0_group_111 : decode cX0_group 111 = .ok (.invokevirtual 143, 3) := by decide +kernel
theorem dX0_group_114 : decode cX0_group 114 = .ok (.iconst 0, 1) := by decide +kernel
theorem dX0_group_115 : decode cX0_group 115 = .ok (.istore 6, 2) := by decide +kernel
theorem dX0_group_117 : decode cX0_group 117 = .ok (.iload 6, 2) := by decide +kernel
theorem dX0_group_119 : decode cX0_group 119 = .ok (.aload_n 2, 1) := by decide +kernel
theorem dX0_group_120 : decode cX0_group 120 = .ok (.getfield 31, 3) := by decide +kernel
theorem dX0_group_123 : decode cX0_group 123 = .ok (.if_icmp .ge 58, 3) := by decide +kernel
theorem dX0_group_126 : decode cX0_group 126 = .ok (.aload_n 2, 1) := by decide +kernel
theorem dX0_group_127 : decode cX0_group 127 = .ok (.iload 6, 2) := by decide +kernel
theorem dX0_group_129 : decode cX0_group 129 = .ok (.invokevirtual 62, 3) := by decide +kernel
theorem dX0_group_132 : decode cX0_group 132 = .ok (.istore 7, 2) := by decide +kernel
theorem dX0_group_134 : decode cX0_group 134 = .ok (.aload_n 0, 1) := by decide +kernel
theorem dX0_group_135 : decode cX0_group 135 = .ok (.getfield 24, 3) := by decide +kernel
theorem dX0_group_138 : decode cX0_group 138 = .ok (.iload 7, 2) := by decide +kernel
theorem dX0_group_140 : decode cX0_group 140 = .ok (.iload 5, 2) := by decide +kernel
theorem dX0_group_142 : decode cX0_group 142 = .ok (.invokestatic 66, 3) := by decide +kernel
theorem dX0_group_145 : decode cX0_group 145 = .ok (.invokestatic 77, 3) := by decide +kernel
theorem dX0_group_148 : decode cX0_group 148 = .ok (.istore 8, 2) := by decide +kernel
theorem dX0_group_150 : decode cX0_group 150 = .ok (.aload_n 0, 1) := by decide +kernel
theorem dX0_group_151 : decode cX0_group 151 = .ok (.getfield 18, 3) := by decide +kernel
theorem dX0_group_154 : decode cX0_group 154 = .ok (.iload 8, 2) := by decide +kernel
theorem dX0_group_156 : decode cX0_group 156 = .ok (.iconst (-1), 1) := by decide +kernel
theorem dX0_group_157 : decode cX0_group 157 = .ok (.invokestatic 69, 3) := by decide +kernel
theorem dX0_group_160 : decode cX0_group 160 = .ok (.aload_n 3, 1) := by decide +kernel
theorem dX0_group_161 : decode cX0_group 161 = .ok (.aload_n 0, 1) := by decide +kernel
theorem dX0_group_162 : decode cX0_group 162 = .ok (.getfield 18, 3) := by decide +kernel
theorem dX0_group_165 : decode cX0_group 165 = .ok (.iload 8, 2) := by decide +kernel
theorem dX0_group_167 : decode cX0_group 167 = .ok (.invokestatic 77, 3) := by decide +kernel
theorem dX0_group_170 : decode cX0_group 170 = .ok (.iload 7, 2) := by decide +kernel
theorem dX0_group_172 : decode cX0_group 172 = .ok (.invokevirtual 147, 3) := by decide +kernel
theorem dX0_group_175 : decode cX0_group 175 = .ok (.iinc 6 1, 3) := by decide +kernel
theorem dX0_group_178 : decode cX0_group 178 = .ok (.goto (-61), 3) := by decide +kernel
theorem dX0_group_181 : decode cX0_group 181 = .ok (.return_, 1) := by decide +kernel
theorem dX0_listReplies_0 : decode cX0_listReplies 0 = .ok (.iconst 1, 1) := by decide +kernel
theorem dX0_listReplies_1 : decode cX0_listReplies 1 = .ok (.istore 4, 2) := by decide +kernel
theorem dX0_listReplies_3 : decode cX0_listReplies 3 = .ok (.iload 4, 2) := by decide +kernel
theorem dX0_listReplies_5 : decode cX0_listReplies 5 = .ok (.iconst 1, 1) := by decide +kernel
theorem dX0_listReplies_6 : decode cX0_listReplies 6 = .ok (.aload_n 1, 1) := by decide +kernel
theorem dX0_listReplies_7 : decode cX0_listReplies 7 = .ok (.getfield 151, 3) := by decide +kernel
theorem dX0_listReplies_10 : decode cX0_listReplies 10 = .ok (.getfield 155, 3) := by decide +kernel
theorem dX0_listReplies_13 : decode cX0_listReplies 13 = .ok (.ishl, 1) := by decide +kernel
theorem dX0_listReplies_14 : decode cX0_listReplies 14 = .ok (.if_icmp .ge 27, 3) := by decide +kernel
theorem dX0_listReplies_17 : decode cX0_listReplies 17 = .ok (.aload_n 0, 1) := by decide +kernel
theorem dX0_listReplies_18 : decode cX0_listReplies 18 = .ok (.getfield 24, 3) := by decide +kernel
theorem dX0_listReplies_21 : decode cX0_listReplies 21 = .ok (.iload 4, 2) := by decide +kernel
theorem dX0_listReplies_23 : decode cX0_listReplies 23 = .ok (.aload_n 1, 1) := by decide +kernel
theorem dX0_listReplies_24 : decode cX0_listReplies 24 = .ok (.iload_n 2, 1) := by decide +kernel
theorem dX0_listReplies_25 : decode cX0_listReplies 25 = .ok (.iload_n 3, 1) := by decide +kernel
theorem dX0_listReplies_26 : decode cX0_listReplies 26 = .ok (.iload 4, 2) := by decide +kernel
theorem dX0_listReplies_28 : decode cX0_listReplies 28 = .ok (.iconst 0, 1) := by decide +kernel
theorem dX0_listReplies_29 : decode cX0_listReplies 29 = .ok (.invokevirtual 73, 3) := by decide +kernel
theorem dX0_listReplies_32 : decode cX0_listReplies 32 = .ok (.invokestatic 136, 3) := by decide +kernel
theorem dX0_listReplies_35 : decode cX0_listReplies 35 = .ok (.iinc 4 1, 3) := by decide +kernel
theorem dX0_listReplies_38 : decode cX0_listReplies 38 = .ok (.goto (-35), 3) := by decide +kernel
theorem dX0_listReplies_41 : decode cX0_listReplies 41 = .ok (.return_, 1) := by decide +kernel
theorem dX0_eachGroupIsTold_0 : decode cX0_eachGroupIsTold 0 = .ok (.iconst 0, 1) := by decide +kernel
theorem dX0_eachGroupIsTold_1 : decode cX0_eachGroupIsTold 1 = .ok (.istore 4, 2) := by decide +kernel
theorem dX0_eachGroupIsTold_3 : decode cX0_eachGroupIsTold 3 = .ok (.iload 4, 2) := by decide +kernel
theorem dX0_eachGroupIsTold_5 : decode cX0_eachGroupIsTold 5 = .ok (.bipush 64, 2) := by decide +kernel
theorem dX0_eachGroupIsTold_7 : decode cX0_eachGroupIsTold 7 = .ok (.if_icmp .ge 56, 3) := by decide +kernel
theorem dX0_eachGroupIsTold_10 : decode cX0_eachGroupIsTold 10 = .ok (.aload_n 0, 1) := by decide +kernel
theorem dX0_eachGroupIsTold_11 : decode cX0_eachGroupIsTold 11 = .ok (.getfield 18, 3) := by decide +kernel
theorem dX0_eachGroupIsTold_14 : decode cX0_eachGroupIsTold 14 = .ok (.iload 4, 2) := by decide +kernel
theorem dX0_eachGroupIsTold_16 : decode cX0_eachGroupIsTold 16 = .ok (.invokestatic 77, 3) := by decide +kernel
theorem dX0_eachGroupIsTold_19 : decode cX0_eachGroupIsTold 19 = .ok (.istore 5, 2) := by decide +kernel
theorem dX0_eachGroupIsTold_21 : decode cX0_eachGroupIsTold 21 = .ok (.aload_n 0, 1) := by decide +kernel
theorem dX0_eachGroupIsTold_22 : decode cX0_eachGroupIsTold 22 = .ok (.getfield 18, 3) := by decide +kernel
theorem dX0_eachGroupIsTold_25 : decode cX0_eachGroupIsTold 25 = .ok (.iload 4, 2) := by decide +kernel
theorem dX0_eachGroupIsTold_27 : decode cX0_eachGroupIsTold 27 = .ok (.iconst 1, 1) := by decide +kernel
theorem dX0_eachGroupIsTold_28 : decode cX0_eachGroupIsTold 28 = .ok (.iadd, 1) := by decide +kernel
theorem dX0_eachGroupIsTold_29 : decode cX0_eachGroupIsTold 29 = .ok (.invokestatic 77, 3) := by decide +kernel
theorem dX0_eachGroupIsTold_32 : decode cX0_eachGroupIsTold 32 = .ok (.istore 6, 2) := by decide +kernel
theorem dX0_eachGroupIsTold_34 : decode cX0_eachGroupIsTold 34 = .ok (.iload 5, 2) := by decide +kernel
theorem dX0_eachGroupIsTold_36 : decode cX0_eachGroupIsTold 36 = .ok (.iload 6, 2) := by decide +kernel
theorem dX0_eachGroupIsTold_38 : decode cX0_eachGroupIsTold 38 = .ok (.if_icmp .ge 19, 3) := by decide +kernel
theorem dX0_eachGroupIsTold_41 : decode cX0_eachGroupIsTold 41 = .ok (.aload_n 0, 1) := by decide +kernel
theorem dX0_eachGroupIsTold_42 : decode cX0_eachGroupIsTold 42 = .ok (.aload_n 1, 1) := by decide +kernel
theorem dX0_eachGroupIsTold_43 : decode cX0_eachGroupIsTold 43 = .ok (.aload_n 2, 1) := by decide +kernel
theorem dX0_eachGroupIsTold_44 : decode cX0_eachGroupIsTold 44 = .ok (.iload_n 3, 1) := by decide +kernel
theorem dX0_eachGroupIsTold_45 : decode cX0_eachGroupIsTold 45 = .ok (.iload 5, 2) := by decide +kernel
theorem dX0_eachGroupIsTold_47 : decode cX0_eachGroupIsTold 47 = .ok (.iload 6, 2) := by decide +kernel
theorem dX0_eachGroupIsTold_49 : decode cX0_eachGroupIsTold 49 = .ok (.invokevirtual 117, 3) := by decide +kernel
theorem dX0_eachGroupIsTold_52 : decode cX0_eachGroupIsTold 52 = .ok (.ifCond .ne 5, 3) := by decide +kernel
theorem dX0_eachGroupIsTold_55 : decode cX0_eachGroupIsTold 55 = .ok (.iconst 0, 1) := by decide +kernel
theorem dX0_eachGroupIsTold_56 : decode cX0_eachGroupIsTold 56 = .ok (.ireturn, 1) := by decide +kernel
theorem dX0_eachGroupIsTold_57 : decode cX0_eachGroupIsTold 57 = .ok (.iinc 4 1, 3) := by decide +kernel
theorem dX0_eachGroupIsTold_60 : decode cX0_eachGroupIsTold 60 = .ok (.goto (-57), 3) := by decide +kernel
theorem dX0_eachGroupIsTold_63 : decode cX0_eachGroupIsTold 63 = .ok (.iconst 1, 1) := by decide +kernel
theorem dX0_eachGroupIsTold_64 : decode cX0_eachGroupIsTold 64 = .ok (.ireturn, 1) := by decide +kernel
theorem dX1_init_0 : decode cX1_init 0 = .ok (.aload_n 0, 1) := by decide +kernel
theorem dX1_init_1 : decode cX1_init 1 = .ok (.invokespecial 3, 3) := by decide +kernel
theorem dX1_init_4 : decode cX1_init 4 = .ok (.aload_n 0, 1) := by decide +kernel
theorem dX1_init_5 : decode cX1_init 5 = .ok (.iconst 4, 1) := by decide +kernel
theorem dX1_init_6 : decode cX1_init 6 = .ok (.newarray .int, 2) := by decide +kernel
theorem dX1_init_8 : decode cX1_init 8 = .ok (.putfield 9, 3) := by decide +kernel
theorem dX1_init_11 : decode cX1_init 11 = .ok (.aload_n 0, 1) := by decide +kernel
theorem dX1_init_12 : decode cX1_init 12 = .ok (.bipush 12, 2) := by decide +kernel
theorem dX1_init_14 : decode cX1_init 14 = .ok (.newarray .int, 2) := by decide +kernel
theorem dX1_init_16 : decode cX1_init 16 = .ok (.putfield 15, 3) := by decide +kernel
theorem dX1_init_19 : decode cX1_init 19 = .ok (.aload_n 0, 1) := by decide +kernel
theorem dX1_init_20 : decode cX1_init 20 = .ok (.bipush 12, 2) := by decide +kernel
theorem dX1_init_22 : decode cX1_init 22 = .ok (.newarray .int, 2) := by decide +kernel
theorem dX1_init_24 : decode cX1_init 24 = .ok (.putfield 18, 3) := by decide +kernel
theorem dX1_init_27 : decode cX1_init 27 = .ok (.return_, 1) := by decide +kernel
theorem dX1_begin_0 : decode cX1_begin 0 = .ok (.aload_n 0, 1) := by decide +kernel
theorem dX1_begin_1 : decode cX1_begin 1 = .ok (.iload_n 1, 1) := by decide +kernel
theorem dX1_begin_2 : decode cX1_begin 2 = .ok (.putfield 21, 3) := by decide +kernel
theorem dX1_begin_5 : decode cX1_begin 5 = .ok (.aload_n 0, 1) := by decide +kernel
theorem dX1_begin_6 : decode cX1_begin 6 = .ok (.getfield 9, 3) := by decide +kernel
theorem dX1_begin_9 : decode cX1_begin 9 = .ok (.iconst 0, 1) := by decide +kernel
theorem dX1_begin_10 : decode cX1_begin 10 = .ok (.invokestatic 25, 3) := by decide +kernel
theorem dX1_begin_13 : decode cX1_begin 13 = .ok (.aload_n 0, 1) := by decide +kernel
theorem dX1_begin_14 : decode cX1_begin 14 = .ok (.iconst 0, 1) := by decide +kernel
theorem dX1_begin_15 : decode cX1_begin 15 = .ok (.putfield 31, 3) := by decide +kernel
theorem dX1_begin_18 : decode cX1_begin 18 = .ok (.return_, 1) := by decide +kernel
theorem dX1_copy_0 : decode cX1_copy 0 = .ok (.aload_n 0, 1) := by decide +kernel
theorem dX1_copy_1 : decode cX1_copy 1 = .ok (.aload_n 1, 1) := by decide +kernel
theorem dX1_copy_2 : decode cX1_copy 2 = .ok (.getfield 21, 3) := by decide +kernel
theorem dX1_copy_5 : decode cX1_copy 5 = .ok (.putfield 21, 3) := by decide +kernel
theorem dX1_copy_8 : decode cX1_copy 8 = .ok (.iconst 0, 1) := by decide +kernel
theorem dX1_copy_9 : decode cX1_copy 9 = .ok (.istore_n 2, 1) := by decide +kernel
theorem dX1_copy_10 : decode cX1_copy 10 = .ok (.iload_n 2, 1) := by decide +kernel
theorem dX1_copy_11 : decode cX1_copy 11 = .ok (.iconst 4, 1) := by decide +kernel
theorem dX1_copy_12 : decode cX1_copy 12 = .ok (.if_icmp .ge 25, 3) := by decide +kernel
theorem dX1_copy_15 : decode cX1_copy 15 = .ok (.aload_n 0, 1) := by decide +kernel
theorem dX1_copy_16 : decode cX1_copy 16 = .ok (.getfield 9, 3) := by decide +kernel
theorem dX1_copy_19 : decode cX1_copy 19 = .ok (.iload_n 2, 1) := by decide +kernel
theorem dX1_copy_20 : decode cX1_copy 20 = .ok (.aload_n 1, 1) := by decide +kernel
theorem dX1_copy_21 : decode cX1_copy 21 = .ok (.getfield 9, 3) := by decide +kernel
theorem dX1_copy_24 : decode cX1_copy 24 = .ok (.iload_n 2, 1) := by decide +kernel
theorem dX1_copy_25 : decode cX1_copy 25 = .ok (.invokestatic 34, 3) := by decide +kernel
theorem dX1_copy_28 : decode cX1_copy 28 = .ok (.invokestatic 38, 3) := by decide +kernel
theorem dX1_copy_31 : decode cX1_copy 31 = .ok (.iinc 2 1, 3) := by decide +kernel
theorem dX1_copy_34 : decode cX1_copy 34 = .ok (.goto (-24), 3) := by decide +kernel
theorem dX1_copy_37 : decode cX1_copy 37 = .ok (.iconst 0, 1) := by decide +kernel
theorem dX1_copy_38 : decode cX1_copy 38 = .ok (.istore_n 2, 1) := by decide +kernel
theorem dX1_copy_39 : decode cX1_copy 39 = .ok (.iload_n 2, 1) := by decide +kernel
theorem dX1_copy_40 : decode cX1_copy 40 = .ok (.bipush 12, 2) := by decide +kernel
theorem dX1_copy_42 : decode cX1_copy 42 = .ok (.if_icmp .ge 41, 3) := by decide +kernel
theorem dX1_copy_45 : decode cX1_copy 45 = .ok (.aload_n 0, 1) := by decide +kernel
theorem dX1_copy_46 : decode cX1_copy 46 = .ok (.getfield 15, 3) := by decide +kernel
theorem dX1_copy_49 : decode cX1_copy 49 = .ok (.iload_n 2, 1) := by decide +kernel
theorem dX1_copy_50 : decode cX1_copy 50 = .ok (.aload_n 1, 1) := by decide +kernel
theorem dX1_copy_51 : decode cX1_copy 51 = .ok (.getfield 15, 3) := by decide +kernel
theorem dX1_copy_54 : decode cX1_copy 54 = .ok (.iload_n 2, 1) := by decide +kernel
theorem dX1_copy_55 : decode cX1_copy 55 = .ok (.invokestatic 34, 3) := by decide +kernel
theorem dX1_copy_58 : decode cX1_copy 58 = .ok (.invokestatic 38, 3) := by decide +kernel
theorem dX1_copy_61 : decode cX1_copy 61 = .ok (.aload_n 0, 1) := by decide +kernel
theorem dX1_copy_62 : decode cX1_copy 62 = .ok (.getfield 18, 3) := by decide +kernel
theorem dX1_copy_65 : decode cX1_copy 65 = .ok (.iload_n 2, 1) := by decide +kernel
theorem dX1_copy_66 : decode cX1_copy 66 = .ok (.aload_n 1, 1) := by decide +kernel
theorem dX1_copy_67 : decode cX1_copy 67 = .ok (.getfield 18, 3) := by decide +kernel
theorem dX1_copy_70 : decode cX1_copy 70 = .ok (.iload_n 2, 1) := by decide +kernel
theorem dX1_copy_71 : decode cX1_copy 71 = .ok (.invokestatic 34, 3) := by decide +kernel
theorem dX1_copy_74 : decode cX1_copy 74 = .ok (.invokestatic 38, 3) := by decide +kernel
theorem dX1_copy_77 : decode cX1_copy 77 = .ok (.iinc 2 1, 3) := by decide +kernel
theorem dX1_copy_80 : decode cX1_copy 80 = .ok (.goto (-41), 3) := by decide +kernel
theorem dX1_copy_83 : decode cX1_copy 83 = .ok (.aload_n 0, 1) := by decide +kernel
theorem dX1_copy_84 : decode cX1_copy 84 = .ok (.aload_n 1, 1) := by decide +kernel
theorem dX1_copy_85 : decode cX1_copy 85 = .ok (.getfield 31, 3) := by decide +kernel
theorem dX1_copy_88 : decode cX1_copy 88 = .ok (.putfield 31, 3) := by decide +kernel
theorem dX1_copy_91 : decode cX1_copy 91 = .ok (.return_, 1) := by decide +kernel
theorem dX1_isFull_0 : decode cX1_isFull 0 = .ok (.aload_n 0, 1) := by decide +kernel
theorem dX1_isFull_1 : decode cX1_isFull 1 = .ok (.getfield 31, 3) := by decide +kernel
theorem dX1_isFull_4 : decode cX1_isFull 4 = .ok (.bipush 12, 2) := by decide +kernel
theorem dX1_isFull_6 : decode cX1_isFull 6 = .ok (.if_icmp .lt 7, 3) := by decide +kernel
theorem dX1_isFull_9 : decode cX1_isFull 9 = .ok (.iconst 1, 1) := by decide +kernel
theorem dX1_isFull_10 : decode cX1_isFull 10 = .ok (.goto 4, 3) := by decide +kernel
theorem dX1_isFull_13 : decode cX1_isFull 13 = .ok (.iconst 0, 1) := by decide +kernel
theorem dX1_isFull_14 : decode cX1_isFull 14 = .ok (.ireturn, 1) := by decide +kernel
theorem dX1_add_0 : decode cX1_add 0 = .ok (.aload_n 0, 1) := by decide +kernel
theorem dX1_add_1 : decode cX1_add 1 = .ok (.invokevirtual 42, 3) := by decide +kernel
theorem dX1_add_4 : decode cX1_add 4 = .ok (.ifCond .ne 37, 3) := by decide +kernel
theorem dX1_add_7 : decode cX1_add 7 = .ok (.aload_n 0, 1) := by decide +kernel
theorem dX1_add_8 : decode cX1_add 8 = .ok (.getfield 15, 3) := by decide +kernel
theorem dX1_add_11 : decode cX1_add 11 = .ok (.aload_n 0, 1) := by decide +kernel
theorem dX1_add_12 : decode cX1_add 12 = .ok (.getfield 31, 3) := by decide +kernel
theorem dX1_add_15 : decode cX1_add 15 = .ok (.iload_n 1, 1) := by decide +kernel
theorem dX1_add_16 : decode cX1_add 16 = .ok (.invokestatic 38, 3) := by decide +kernel
theorem dX1_add_19 : decode cX1_add 19 = .ok (.aload_n 0, 1) := by decide +kernel
theorem dX1_add_20 : decode cX1_add 20 = .ok (.getfield 18, 3) := by decide +kernel
theorem dX1_add_23 : decode cX1_add 23 = .ok (.aload_n 0, 1) := by decide +kernel
theorem dX1_add_24 : decode cX1_add 24 = .ok (.getfield 31, 3) := by decide +kernel
theorem dX1_add_27 : decode cX1_add 27 = .ok (.iload_n 2, 1) := by decide +kernel
theorem dX1_add_28 : decode cX1_add 28 = .ok (.invokestatic 38, 3) := by decide +kernel
theorem dX1_add_31 : decode cX1_add 31 = .ok (.aload_n 0, 1) := by decide +kernel
theorem dX1_add_32 : decode cX1_add 32 = .ok (.dup, 1) := by decide +kernel
theorem dX1_add_33 : decode cX1_add 33 = .ok (.getfield 31, 3) := by decide +kernel
theorem dX1_add_36 : decode cX1_add 36 = .ok (.iconst 1, 1) := by decide +kernel
theorem dX1_add_37 : decode cX1_add 37 = .ok (.iadd, 1) := by decide +kernel
theorem dX1_add_38 : decode cX1_add 38 = .ok (.putfield 31, 3) := by decide +kernel
theorem dX1_add_41 : decode cX1_add 41 = .ok (.return_, 1) := by decide +kernel
theorem dX2_init_0 : decode cX2_init 0 = .ok (.aload_n 0, 1) := by decide +kernel
theorem dX2_init_1 : decode cX2_init 1 = .ok (.invokespecial 1, 3) := by decide +kernel
theorem dX2_init_4 : decode cX2_init 4 = .ok (.aload_n 0, 1) := by decide +kernel
theorem dX2_init_5 : decode cX2_init 5 = .ok (.iconst 0, 1) := by decide +kernel
theorem dX2_init_6 : decode cX2_init 6 = .ok (.iload_n 1, 1) := by decide +kernel
theorem dX2_init_7 : decode cX2_init 7 = .ok (.invokestatic 7, 3) := by decide +kernel
theorem dX2_init_10 : decode cX2_init 10 = .ok (.anewarray 13, 3) := by decide +kernel
theorem dX2_init_13 : decode cX2_init 13 = .ok (.putfield 15, 3) := by decide +kernel
theorem dX2_init_16 : decode cX2_init 16 = .ok (.iconst 0, 1) := by decide +kernel
theorem dX2_init_17 : decode cX2_init 17 = .ok (.istore_n 2, 1) := by decide +kernel
theorem dX2_init_18 : decode cX2_init 18 = .ok (.iload_n 2, 1) := by decide +kernel
theorem dX2_init_19 : decode cX2_init 19 = .ok (.aload_n 0, 1) := by decide +kernel
theorem dX2_init_20 : decode cX2_init 20 = .ok (.getfield 15, 3) := by decide +kernel
theorem dX2_init_23 : decode cX2_init 23 = .ok (.arraylength, 1) := by decide +kernel
theorem dX2_init_24 : decode cX2_init 24 = .ok (.if_icmp .ge 22, 3) := by decide +kernel
theorem dX2_init_27 : decode cX2_init 27 = .ok (.aload_n 0, 1) := by decide +kernel
theorem dX2_init_28 : decode cX2_init 28 = .ok (.getfield 15, 3) := by decide +kernel
theorem dX2_init_31 : decode cX2_init 31 = .ok (.iload_n 2, 1) := by decide +kernel
theorem dX2_init_32 : decode cX2_init 32 = .ok (.new 13, 3) := by decide +kernel
theorem dX2_init_35 : decode cX2_init 35 = .ok (.dup, 1) := by decide +kernel
theorem dX2_init_36 : decode cX2_init 36 = .ok (.invokespecial 21, 3) := by decide +kernel
theorem dX2_init_39 : decode cX2_init 39 = .ok (.aastore, 1) := by decide +kernel
theorem dX2_init_40 : decode cX2_init 40 = .ok (.iinc 2 1, 3) := by decide +kernel
theorem dX2_init_43 : decode cX2_init 43 = .ok (.goto (-25), 3) := by decide +kernel
theorem dX2_init_46 : decode cX2_init 46 = .ok (.return_, 1) := by decide +kernel
theorem dX2_clear_0 : decode cX2_clear 0 = .ok (.aload_n 0, 1) := by decide +kernel
theorem dX2_clear_1 : decode cX2_clear 1 = .ok (.iconst 0, 1) := by decide +kernel
theorem dX2_clear_2 : decode cX2_clear 2 = .ok (.putfield 22, 3) := by decide +kernel
theorem dX2_clear_5 : decode cX2_clear 5 = .ok (.return_, 1) := by decide +kernel
theorem dX2_isFull_0 : decode cX2_isFull 0 = .ok (.aload_n 0, 1) := by decide +kernel
theorem dX2_isFull_1 : decode cX2_isFull 1 = .ok (.getfield 22, 3) := by decide +kernel
theorem dX2_isFull_4 : decode cX2_isFull 4 = .ok (.aload_n 0, 1) := by decide +kernel
theorem dX2_isFull_5 : decode cX2_isFull 5 = .ok (.getfield 15, 3) := by decide +kernel
theorem dX2_isFull_8 : decode cX2_isFull 8 = .ok (.arraylength, 1) := by decide +kernel
theorem dX2_isFull_9 : decode cX2_isFull 9 = .ok (.if_icmp .lt 7, 3) := by decide +kernel
theorem dX2_isFull_12 : decode cX2_isFull 12 = .ok (.iconst 1, 1) := by decide +kernel
theorem dX2_isFull_13 : decode cX2_isFull 13 = .ok (.goto 4, 3) := by decide +kernel
theorem dX2_isFull_16 : decode cX2_isFull 16 = .ok (.iconst 0, 1) := by decide +kernel
theorem dX2_isFull_17 : decode cX2_isFull 17 = .ok (.ireturn, 1) := by decide +kernel
theorem dX2_push_0 : decode cX2_push 0 = .ok (.aload_n 0, 1) := by decide +kernel
theorem dX2_push_1 : decode cX2_push 1 = .ok (.invokevirtual 26, 3) := by decide +kernel
theorem dX2_push_4 : decode cX2_push 4 = .ok (.ifCond .eq 7, 3) := by decide +kernel
theorem dX2_push_7 : decode cX2_push 7 = .ok (.aload_n 0, 1) := by decide +kernel
theorem dX2_push_8 : decode cX2_push 8 = .ok (.invokevirtual 30, 3) := by decide +kernel
theorem dX2_push_11 : decode cX2_push 11 = .ok (.aload_n 0, 1) := by decide +kernel
theorem dX2_push_12 : decode cX2_push 12 = .ok (.getfield 22, 3) := by decide +kernel
theorem dX2_push_15 : decode cX2_push 15 = .ok (.aload_n 0, 1) := by decide +kernel
theorem dX2_push_16 : decode cX2_push 16 = .ok (.getfield 15, 3) := by decide +kernel
theorem dX2_push_19 : decode cX2_push 19 = .ok (.arraylength, 1) := by decide +kernel
theorem dX2_push_20 : decode cX2_push 20 = .ok (.if_icmp .ge 38, 3) := by decide +kernel
theorem dX2_push_23 : decode cX2_push 23 = .ok (.aload_n 0, 1) := by decide +kernel
theorem dX2_push_24 : decode cX2_push 24 = .ok (.getfield 15, 3) := by decide +kernel
theorem dX2_push_27 : decode cX2_push 27 = .ok (.aload_n 0, 1) := by decide +kernel
theorem dX2_push_28 : decode cX2_push 28 = .ok (.getfield 22, 3) := by decide +kernel
theorem dX2_push_31 : decode cX2_push 31 = .ok (.aaload, 1) := by decide +kernel
theorem dX2_push_32 : decode cX2_push 32 = .ok (.ifnull 26, 3) := by decide +kernel
theorem dX2_push_35 : decode cX2_push 35 = .ok (.aload_n 0, 1) := by decide +kernel
theorem dX2_push_36 : decode cX2_push 36 = .ok (.getfield 15, 3) := by decide +kernel
theorem dX2_push_39 : decode cX2_push 39 = .ok (.aload_n 0, 1) := by decide +kernel
theorem dX2_push_40 : decode cX2_push 40 = .ok (.getfield 22, 3) := by decide +kernel
theorem dX2_push_43 : decode cX2_push 43 = .ok (.aaload, 1) := by decide +kernel
theorem dX2_push_44 : decode cX2_push 44 = .ok (.aload_n 1, 1) := by decide +kernel
theorem dX2_push_45 : decode cX2_push 45 = .ok (.invokevirtual 33, 3) := by decide +kernel
theorem dX2_push_48 : decode cX2_push 48 = .ok (.aload_n 0, 1) := by decide +kernel
theorem dX2_push_49 : decode cX2_push 49 = .ok (.dup, 1) := by decide +kernel
theorem dX2_push_50 : decode cX2_push 50 = .ok (.getfield 22, 3) := by decide +kernel
theorem dX2_push_53 : decode cX2_push 53 = .ok (.iconst 1, 1) := by decide +kernel
theorem dX2_push_54 : decode cX2_push 54 = .ok (.iadd, 1) := by decide +kernel
theorem dX2_push_55 : decode cX2_push 55 = .ok (.putfield 22, 3) := by decide +kernel
theorem dX2_push_58 : decode cX2_push 58 = .ok (.return_, 1) := by decide +kernel
theorem dX2_dropLowest_0 : decode cX2_dropLowest 0 = .ok (.aload_n 0, 1) := by decide +kernel
theorem dX2_dropLowest_1 : decode cX2_dropLowest 1 = .ok (.getfield 15, 3) := by decide +kernel
theorem dX2_dropLowest_4 : decode cX2_dropLowest 4 = .ok (.arraylength, 1) := by decide +kernel
theorem dX2_dropLowest_5 : decode cX2_dropLowest 5 = .ok (.ifCond .eq 10, 3) := by decide +kernel
theorem dX2_dropLowest_8 : decode cX2_dropLowest 8 = .ok (.aload_n 0, 1) := by decide +kernel
theorem dX2_dropLowest_9 : decode cX2_dropLowest 9 = .ok (.getfield 22, 3) := by decide +kernel
theorem dX2_dropLowest_12 : decode cX2_dropLowest 12 = .ok (.ifCond .ne 4, 3) := by decide +kernel
theorem dX2_dropLowest_15 : decode cX2_dropLowest 15 = .ok (.return_, 1) := by decide +kernel
theorem dX2_dropLowest_16 : decode cX2_dropLowest 16 = .ok (.aload_n 0, 1) := by decide +kernel
theorem dX2_dropLowest_17 : decode cX2_dropLowest 17 = .ok (.getfield 15, 3) := by decide +kernel
theorem dX2_dropLowest_20 : decode cX2_dropLowest 20 = .ok (.iconst 0, 1) := by decide +kernel
theorem dX2_dropLowest_21 : decode cX2_dropLowest 21 = .ok (.aaload, 1) := by decide +kernel
theorem dX2_dropLowest_22 : decode cX2_dropLowest 22 = .ok (.astore_n 1, 1) := by decide +kernel
theorem dX2_dropLowest_23 : decode cX2_dropLowest 23 = .ok (.iconst 1, 1) := by decide +kernel
theorem dX2_dropLowest_24 : decode cX2_dropLowest 24 = .ok (.istore_n 2, 1) := by decide +kernel
theorem dX2_dropLowest_25 : decode cX2_dropLowest 25 = .ok (.iload_n 2, 1) := by decide +kernel
theorem dX2_dropLowest_26 : decode cX2_dropLowest 26 = .ok (.aload_n 0, 1) := by decide +kernel
theorem dX2_dropLowest_27 : decode cX2_dropLowest 27 = .ok (.getfield 15, 3) := by decide +kernel
theorem dX2_dropLowest_30 : decode cX2_dropLowest 30 = .ok (.arraylength, 1) := by decide +kernel
theorem dX2_dropLowest_31 : decode cX2_dropLowest 31 = .ok (.if_icmp .ge 23, 3) := by decide +kernel
theorem dX2_dropLowest_34 : decode cX2_dropLowest 34 = .ok (.aload_n 0, 1) := by decide +kernel
theorem dX2_dropLowest_35 : decode cX2_dropLowest 35 = .ok (.getfield 15, 3) := by decide +kernel
theorem dX2_dropLowest_38 : decode cX2_dropLowest 38 = .ok (.iload_n 2, 1) := by decide +kernel
theorem dX2_dropLowest_39 : decode cX2_dropLowest 39 = .ok (.iconst 1, 1) := by decide +kernel
theorem dX2_dropLowest_40 : decode cX2_dropLowest 40 = .ok (.isub, 1) := by decide +kernel
theorem dX2_dropLowest_41 : decode cX2_dropLowest 41 = .ok (.aload_n 0, 1) := by decide +kernel
theorem dX2_dropLowest_42 : decode cX2_dropLowest 42 = .ok (.getfield 15, 3) := by decide +kernel
theorem dX2_dropLowest_45 : decode cX2_dropLowest 45 = .ok (.iload_n 2, 1) := by decide +kernel
theorem dX2_dropLowest_46 : decode cX2_dropLowest 46 = .ok (.aaload, 1) := by decide +kernel
theorem dX2_dropLowest_47 : decode cX2_dropLowest 47 = .ok (.aastore, 1) := by decide +kernel
theorem dX2_dropLowest_48 : decode cX2_dropLowest 48 = .ok (.iinc 2 1, 3) := by decide +kernel
theorem dX2_dropLowest_51 : decode cX2_dropLowest 51 = .ok (.goto (-26), 3) := by decide +kernel
theorem dX2_dropLowest_54 : decode cX2_dropLowest 54 = .ok (.aload_n 0, 1) := by decide +kernel
theorem dX2_dropLowest_55 : decode cX2_dropLowest 55 = .ok (.getfield 15, 3) := by decide +kernel
theorem dX2_dropLowest_58 : decode cX2_dropLowest 58 = .ok (.aload_n 0, 1) := by decide +kernel
theorem dX2_dropLowest_59 : decode cX2_dropLowest 59 = .ok (.getfield 15, 3) := by decide +kernel
theorem dX2_dropLowest_62 : decode cX2_dropLowest 62 = .ok (.arraylength, 1) := by decide +kernel
theorem dX2_dropLowest_63 : decode cX2_dropLowest 63 = .ok (.iconst 1, 1) := by decide +kernel
theorem dX2_dropLowest_64 : decode cX2_dropLowest 64 = .ok (.isub, 1) := by decide +kernel
theorem dX2_dropLowest_65 : decode cX2_dropLowest 65 = .ok (.aload_n 1, 1) := by decide +kernel
theorem dX2_dropLowest_66 : decode cX2_dropLowest 66 = .ok (.aastore, 1) := by decide +kernel
theorem dX2_dropLowest_67 : decode cX2_dropLowest 67 = .ok (.aload_n 0, 1) := by decide +kernel
theorem dX2_dropLowest_68 : decode cX2_dropLowest 68 = .ok (.dup, 1) := by decide +kernel
theorem dX2_dropLowest_69 : decode cX2_dropLowest 69 = .ok (.getfield 22, 3) := by decide +kernel
theorem dX2_dropLowest_72 : decode cX2_dropLowest 72 = .ok (.iconst 1, 1) := by decide +kernel
theorem dX2_dropLowest_73 : decode cX2_dropLowest 73 = .ok (.isub, 1) := by decide +kernel
theorem dX2_dropLowest_74 : decode cX2_dropLowest 74 = .ok (.putfield 22, 3) := by decide +kernel
theorem dX2_dropLowest_77 : decode cX2_dropLowest 77 = .ok (.return_, 1) := by decide +kernel
theorem dX2_popInto_0 : decode cX2_popInto 0 = .ok (.aload_n 0, 1) := by decide +kernel
theorem dX2_popInto_1 : decode cX2_popInto 1 = .ok (.getfield 22, 3) := by decide +kernel
theorem dX2_popInto_4 : decode cX2_popInto 4 = .ok (.ifCond .le 29, 3) := by decide +kernel
theorem dX2_popInto_7 : decode cX2_popInto 7 = .ok (.aload_n 0, 1) := by decide +kernel
theorem dX2_popInto_8 : decode cX2_popInto 8 = .ok (.getfield 22, 3) := by decide +kernel
theorem dX2_popInto_11 : decode cX2_popInto 11 = .ok (.aload_n 0, 1) := by decide +kernel
theorem dX2_popInto_12 : decode cX2_popInto 12 = .ok (.getfield 15, 3) := by decide +kernel
theorem dX2_popInto_15 : decode cX2_popInto 15 = .ok (.arraylength, 1) := by decide +kernel
theorem dX2_popInto_16 : decode cX2_popInto 16 = .ok (.if_icmp .gt 17, 3) := by decide +kernel
theorem dX2_popInto_19 : decode cX2_popInto 19 = .ok (.aload_n 0, 1) := by decide +kernel
theorem dX2_popInto_20 : decode cX2_popInto 20 = .ok (.getfield 15, 3) := by decide +kernel
theorem dX2_popInto_23 : decode cX2_popInto 23 = .ok (.aload_n 0, 1) := by decide +kernel
theorem dX2_popInto_24 : decode cX2_popInto 24 = .ok (.getfield 22, 3) := by decide +kernel
theorem dX2_popInto_27 : decode cX2_popInto 27 = .ok (.iconst 1, 1) := by decide +kernel
theorem dX2_popInto_28 : decode cX2_popInto 28 = .ok (.isub, 1) := by decide +kernel
theorem dX2_popInto_29 : decode cX2_popInto 29 = .ok (.aaload, 1) := by decide +kernel
theorem dX2_popInto_30 : decode cX2_popInto 30 = .ok (.ifnonnull 5, 3) := by decide +kernel
theorem dX2_popInto_33 : decode cX2_popInto 33 = .ok (.iconst 0, 1) := by decide +kernel
theorem dX2_popInto_34 : decode cX2_popInto 34 = .ok (.ireturn, 1) := by decide +kernel
theorem dX2_popInto_35 : decode cX2_popInto 35 = .ok (.aload_n 0, 1) := by decide +kernel
theorem dX2_popInto_36 : decode cX2_popInto 36 = .ok (.dup, 1) := by decide +kernel
theorem dX2_popInto_37 : decode cX2_popInto 37 = .ok (.getfield 22, 3) := by decide +kernel
theorem dX2_popInto_40 : decode cX2_popInto 40 = .ok (.iconst 1, 1) := by decide +kernel
theorem dX2_popInto_41 : decode cX2_popInto 41 = .ok (.isub, 1) := by decide +kernel
theorem dX2_popInto_42 : decode cX2_popInto 42 = .ok (.putfield 22, 3) := by decide +kernel
theorem dX2_popInto_45 : decode cX2_popInto 45 = .ok (.aload_n 1, 1) := by decide +kernel
theorem dX2_popInto_46 : decode cX2_popInto 46 = .ok (.aload_n 0, 1) := by decide +kernel
theorem dX2_popInto_47 : decode cX2_popInto 47 = .ok (.getfield 15, 3) := by decide +kernel
theorem dX2_popInto_50 : decode cX2_popInto 50 = .ok (.aload_n 0, 1) := by decide +kernel
theorem dX2_popInto_51 : decode cX2_popInto 51 = .ok (.getfield 22, 3) := by decide +kernel
theorem dX2_popInto_54 : decode cX2_popInto 54 = .ok (.aaload, 1) := by decide +kernel
theorem dX2_popInto_55 : decode cX2_popInto 55 = .ok (.invokevirtual 33, 3) := by decide +kernel
theorem dX2_popInto_58 : decode cX2_popInto 58 = .ok (.iconst 1, 1) := by decide +kernel
theorem dX2_popInto_59 : decode cX2_popInto 59 = .ok (.ireturn, 1) := by decide +kernel
theorem dX3_init_0 : decode cX3_init 0 = .ok (.aload_n 0, 1) := by decide +kernel
theorem dX3_init_1 : decode cX3_init 1 = .ok (.invokespecial 3, 3) := by decide +kernel
theorem dX3_init_4 : decode cX3_init 4 = .ok (.aload_n 0, 1) := by decide +kernel
theorem dX3_init_5 : decode cX3_init 5 = .ok (.sipush 200, 3) := by decide +kernel
theorem dX3_init_8 : decode cX3_init 8 = .ok (.newarray .char, 2) := by decide +kernel
theorem dX3_init_10 : decode cX3_init 10 = .ok (.putfield 9, 3) := by decide +kernel
theorem dX3_init_13 : decode cX3_init 13 = .ok (.aload_n 0, 1) := by decide +kernel
theorem dX3_init_14 : decode cX3_init 14 = .ok (.iconst 4, 1) := by decide +kernel
theorem dX3_init_15 : decode cX3_init 15 = .ok (.newarray .int, 2) := by decide +kernel
theorem dX3_init_17 : decode cX3_init 17 = .ok (.putfield 15, 3) := by decide +kernel
theorem dX3_init_20 : decode cX3_init 20 = .ok (.return_, 1) := by decide +kernel
theorem dX3_add_0 : decode cX3_add 0 = .ok (.aload_n 0, 1) := by decide +kernel
theorem dX3_add_1 : decode cX3_add 1 = .ok (.getfield 19, 3) := by decide +kernel
theorem dX3_add_4 : decode cX3_add 4 = .ok (.aload_n 0, 1) := by decide +kernel
theorem dX3_add_5 : decode cX3_add 5 = .ok (.getfield 9, 3) := by decide +kernel
theorem dX3_add_8 : decode cX3_add 8 = .ok (.arraylength, 1) := by decide +kernel
theorem dX3_add_9 : decode cX3_add 9 = .ok (.if_icmp .lt 5, 3) := by decide +kernel
theorem dX3_add_12 : decode cX3_add 12 = .ok (.iconst 0, 1) := by decide +kernel
theorem dX3_add_13 : decode cX3_add 13 = .ok (.ireturn, 1) := by decide +kernel
theorem dX3_add_14 : decode cX3_add 14 = .ok (.aload_n 0, 1) := by decide +kernel
theorem dX3_add_15 : decode cX3_add 15 = .ok (.getfield 9, 3) := by decide +kernel
theorem dX3_add_18 : decode cX3_add 18 = .ok (.aload_n 0, 1) := by decide +kernel
theorem dX3_add_19 : decode cX3_add 19 = .ok (.getfield 19, 3) := by decide +kernel
theorem dX3_add_22 : decode cX3_add 22 = .ok (.iload_n 1, 1) := by decide +kernel
theorem dX3_add_23 : decode cX3_add 23 = .ok (.i2c, 1) := by decide +kernel
theorem dX3_add_24 : decode cX3_add 24 = .ok (.castore, 1) := by decide +kernel
theorem dX3_add_25 : decode cX3_add 25 = .ok (.aload_n 0, 1) := by decide +kernel
theorem dX3_add_26 : decode cX3_add 26 = .ok (.dup, 1) := by decide +kernel
theorem dX3_add_27 : decode cX3_add 27 = .ok (.getfield 19, 3) := by decide +kernel
theorem dX3_add_30 : decode cX3_add 30 = .ok (.iconst 1, 1) := by decide +kernel
theorem dX3_add_31 : decode cX3_add 31 = .ok (.iadd, 1) := by decide +kernel
theorem dX3_add_32 : decode cX3_add 32 = .ok (.putfield 19, 3) := by decide +kernel
theorem dX3_add_35 : decode cX3_add 35 = .ok (.iconst 1, 1) := by decide +kernel
theorem dX3_add_36 : decode cX3_add 36 = .ok (.ireturn, 1) := by decide +kernel
theorem dX3_clear_0 : decode cX3_clear 0 = .ok (.aload_n 0, 1) := by decide +kernel
theorem dX3_clear_1 : decode cX3_clear 1 = .ok (.iconst 0, 1) := by decide +kernel
theorem dX3_clear_2 : decode cX3_clear 2 = .ok (.putfield 19, 3) := by decide +kernel
theorem dX3_clear_5 : decode cX3_clear 5 = .ok (.return_, 1) := by decide +kernel
theorem dX3_readInto_0 : decode cX3_readInto 0 = .ok (.aload_n 1, 1) := by decide +kernel
theorem dX3_readInto_1 : decode cX3_readInto 1 = .ok (.invokevirtual 23, 3) := by decide +kernel
theorem dX3_readInto_4 : decode cX3_readInto 4 = .ok (.iconst 0, 1) := by decide +kernel
theorem dX3_readInto_5 : decode cX3_readInto 5 = .ok (.istore_n 2, 1) := by decide +kernel
theorem dX3_readInto_6 : decode cX3_readInto 6 = .ok (.iconst 0, 1) := by decide +kernel
theorem dX3_readInto_7 : decode cX3_readInto 7 = .ok (.istore_n 3, 1) := by decide +kernel
theorem dX3_readInto_8 : decode cX3_readInto 8 = .ok (.iload_n 3, 1) := by decide +kernel
theorem dX3_readInto_9 : decode cX3_readInto 9 = .ok (.sipush 200, 3) := by decide +kernel
theorem dX3_readInto_12 : decode cX3_readInto 12 = .ok (.if_icmp .ge 58, 3) := by decide +kernel
theorem dX3_readInto_15 : decode cX3_readInto 15 = .ok (.iload_n 2, 1) := by decide +kernel
theorem dX3_readInto_16 : decode cX3_readInto 16 = .ok (.aload_n 0, 1) := by decide +kernel
theorem dX3_readInto_17 : decode cX3_readInto 17 = .ok (.getfield 19, 3) := by decide +kernel
theorem dX3_readInto_20 : decode cX3_readInto 20 = .ok (.if_icmp .ge 50, 3) := by decide +kernel
theorem dX3_readInto_23 : decode cX3_readInto 23 = .ok (.aload_n 0, 1) := by decide +kernel
theorem dX3_readInto_24 : decode cX3_readInto 24 = .ok (.iload_n 2, 1) := by decide +kernel
theorem dX3_readInto_25 : decode cX3_readInto 25 = .ok (.iconst 1, 1) := by decide +kernel
theorem dX3_readInto_26 : decode cX3_readInto 26 = .ok (.iadd, 1) := by decide +kernel
theorem dX3_readInto_27 : decode cX3_readInto 27 = .ok (.invokevirtual 28, 3) := by decide +kernel
theorem dX3_readInto_30 : decode cX3_readInto 30 = .ok (.istore 4, 2) := by decide +kernel
theorem dX3_readInto_32 : decode cX3_readInto 32 = .ok (.iload 4, 2) := by decide +kernel
theorem dX3_readInto_34 : decode cX3_readInto 34 = .ok (.bipush (-4), 2) := by decide +kernel
theorem dX3_readInto_36 : decode cX3_readInto 36 = .ok (.if_icmp .eq 23, 3) := by decide +kernel
theorem dX3_readInto_39 : decode cX3_readInto 39 = .ok (.aload_n 1, 1) := by decide +kernel
theorem dX3_readInto_40 : decode cX3_readInto 40 = .ok (.aload_n 0, 1) := by decide +kernel
theorem dX3_readInto_41 : decode cX3_readInto 41 = .ok (.iload_n 2, 1) := by decide +kernel
theorem dX3_readInto_42 : decode cX3_readInto 42 = .ok (.invokevirtual 32, 3) := by decide +kernel
theorem dX3_readInto_45 : decode cX3_readInto 45 = .ok (.aload_n 0, 1) := by decide +kernel
theorem dX3_readInto_46 : decode cX3_readInto 46 = .ok (.getfield 15, 3) := by decide +kernel
theorem dX3_readInto_49 : decode cX3_readInto 49 = .ok (.aload_n 0, 1) := by decide +kernel
theorem dX3_readInto_50 : decode cX3_readInto 50 = .ok (.getfield 35, 3) := by decide +kernel
theorem dX3_readInto_53 : decode cX3_readInto 53 = .ok (.invokevirtual 38, 3) := by decide +kernel
theorem dX3_readInto_56 : decode cX3_readInto 56 = .ok (.ifCond .ne 5, 3) := by decide +kernel
theorem dX3_readInto_59 : decode cX3_readInto 59 = .ok (.iload_n 2, 1) := by decide +kernel
theorem dX3_readInto_60 : decode cX3_readInto 60 = .ok (.ireturn, 1) := by decide +kernel
theorem dX3_readInto_61 : decode cX3_readInto 61 = .ok (.iload 4, 2) := by decide +kernel
theorem dX3_readInto_63 : decode cX3_readInto 63 = .ok (.istore_n 2, 1) := by decide +kernel
theorem dX3_readInto_64 : decode cX3_readInto 64 = .ok (.iinc 3 1, 3) := by decide +kernel
theorem dX3_readInto_67 : decode cX3_readInto 67 = .ok (.goto (-59), 3) := by decide +kernel
theorem dX3_readInto_70 : decode cX3_readInto 70 = .ok (.bipush (-4), 2) := by decide +kernel
theorem dX3_readInto_72 : decode cX3_readInto 72 = .ok (.ireturn, 1) := by decide +kernel
theorem dX3_readNumbers_0 : decode cX3_readNumbers 0 = .ok (.iload_n 1, 1) := by decide +kernel
theorem dX3_readNumbers_1 : decode cX3_readNumbers 1 = .ok (.istore_n 2, 1) := by decide +kernel
theorem dX3_readNumbers_2 : decode cX3_readNumbers 2 = .ok (.iconst 0, 1) := by decide +kernel
theorem dX3_readNumbers_3 : decode cX3_readNumbers 3 = .ok (.istore_n 3, 1) := by decide +kernel
theorem dX3_readNumbers_4 : decode cX3_readNumbers 4 = .ok (.iload_n 3, 1) := by decide +kernel
theorem dX3_readNumbers_5 : decode cX3_readNumbers 5 = .ok (.iconst 4, 1) := by decide +kernel
theorem dX3_readNumbers_6 : decode cX3_readNumbers 6 = .ok (.if_icmp .ge 82, 3) := by decide +kernel
theorem dX3_readNumbers_9 : decode cX3_readNumbers 9 = .ok (.aload_n 0, 1) := by decide +kernel
theorem dX3_readNumbers_10 : decode cX3_readNumbers 10 = .ok (.iload_n 2, 1) := by decide +kernel
theorem dX3_readNumbers_11 : decode cX3_readNumbers 11 = .ok (.invokevirtual 42, 3) := by decide +kernel
theorem dX3_readNumbers_14 : decode cX3_readNumbers 14 = .ok (.istore 4, 2) := by decide +kernel
theorem dX3_readNumbers_16 : decode cX3_readNumbers 16 = .ok (.iload 4, 2) := by decide +kernel
theorem dX3_readNumbers_18 : decode cX3_readNumbers 18 = .ok (.ifCond .ne 6, 3) := by decide +kernel
theorem dX3_readNumbers_21 : decode cX3_readNumbers 21 = .ok (.bipush (-4), 2) := by decide +kernel
theorem dX3_readNumbers_23 : decode cX3_readNumbers 23 = .ok (.ireturn, 1) := by decide +kernel
theorem dX3_readNumbers_24 : decode cX3_readNumbers 24 = .ok (.aload_n 0, 1) := by decide +kernel
theorem dX3_readNumbers_25 : decode cX3_readNumbers 25 = .ok (.getfield 15, 3) := by decide +kernel
theorem dX3_readNumbers_28 : decode cX3_readNumbers 28 = .ok (.iload_n 3, 1) := by decide +kernel
theorem dX3_readNumbers_29 : decode cX3_readNumbers 29 = .ok (.aload_n 0, 1) := by decide +kernel
theorem dX3_readNumbers_30 : decode cX3_readNumbers 30 = .ok (.iload_n 2, 1) := by decide +kernel
theorem dX3_readNumbers_31 : decode cX3_readNumbers 31 = .ok (.iload 4, 2) := by decide +kernel
theorem dX3_readNumbers_33 : decode cX3_readNumbers 33 = .ok (.invokevirtual 45, 3) := by decide +kernel
theorem dX3_readNumbers_36 : decode cX3_readNumbers 36 = .ok (.invokestatic 49, 3) := by decide +kernel
theorem dX3_readNumbers_39 : decode cX3_readNumbers 39 = .ok (.aload_n 0, 1) := by decide +kernel
theorem dX3_readNumbers_40 : decode cX3_readNumbers 40 = .ok (.iload_n 3, 1) := by decide +kernel
theorem dX3_readNumbers_41 : decode cX3_readNumbers 41 = .ok (.iconst 1, 1) := by decide +kernel
theorem dX3_readNumbers_42 : decode cX3_readNumbers 42 = .ok (.iadd, 1) := by decide +kernel
theorem dX3_readNumbers_43 : decode cX3_readNumbers 43 = .ok (.putfield 35, 3) := by decide +kernel
theorem dX3_readNumbers_46 : decode cX3_readNumbers 46 = .ok (.aload_n 0, 1) := by decide +kernel
theorem dX3_readNumbers_47 : decode cX3_readNumbers 47 = .ok (.iload_n 2, 1) := by decide +kernel
theorem dX3_readNumbers_48 : decode cX3_readNumbers 48 = .ok (.iload 4, 2) := by decide +kernel
theorem dX3_readNumbers_50 : decode cX3_readNumbers 50 = .ok (.iadd, 1) := by decide +kernel
theorem dX3_readNumbers_51 : decode cX3_readNumbers 51 = .ok (.invokevirtual 32, 3) := by decide +kernel
theorem dX3_readNumbers_54 : decode cX3_readNumbers 54 = .ok (.istore 5, 2) := by decide +kernel
theorem dX3_readNumbers_56 : decode cX3_readNumbers 56 = .ok (.iload_n 2, 1) := by decide +kernel
theorem dX3_readNumbers_57 : decode cX3_readNumbers 57 = .ok (.iload 4, 2) := by decide +kernel
theorem dX3_readNumbers_59 : decode cX3_readNumbers 59 = .ok (.iconst 1, 1) := by decide +kernel
theorem dX3_readNumbers_60 : decode cX3_readNumbers 60 = .ok (.iadd, 1) := by decide +kernel
theorem dX3_readNumbers_61 : decode cX3_readNumbers 61 = .ok (.iadd, 1) := by decide +kernel
theorem dX3_readNumbers_62 : decode cX3_readNumbers 62 = .ok (.istore_n 2, 1) := by decide +kernel
theorem dX3_readNumbers_63 : decode cX3_readNumbers 63 = .ok (.iload 5, 2) := by decide +kernel
theorem dX3_readNumbers_65 : decode cX3_readNumbers 65 = .ok (.bipush 59, 2) := by decide +kernel
theorem dX3_readNumbers_67 : decode cX3_readNumbers 67 = .ok (.if_icmp .ne 5, 3) := by decide +kernel
theorem dX3_readNumbers_70 : decode cX3_readNumbers 70 = .ok (.iload_n 2, 1) := by decide +kernel
theorem dX3_readNumbers_71 : decode cX3_readNumbers 71 = .ok (.ireturn, 1) := by decide +kernel
theorem dX3_readNumbers_72 : decode cX3_readNumbers 72 = .ok (.iload 5, 2) := by decide +kernel
theorem dX3_readNumbers_74 : decode cX3_readNumbers 74 = .ok (.bipush 44, 2) := by decide +kernel
theorem dX3_readNumbers_76 : decode cX3_readNumbers 76 = .ok (.if_icmp .eq 6, 3) := by decide +kernel
theorem dX3_readNumbers_79 : decode cX3_readNumbers 79 = .ok (.bipush (-4), 2) := by decide +kernel
theorem dX3_readNumbers_81 : decode cX3_readNumbers 81 = .ok (.ireturn, 1) := by decide +kernel
theorem dX3_readNumbers_82 : decode cX3_readNumbers 82 = .ok (.iinc 3 1, 3) := by decide +kernel
theorem dX3_readNumbers_85 : decode cX3_readNumbers 85 = .ok (.goto (-81), 3) := by decide +kernel
theorem dX3_readNumbers_88 : decode cX3_readNumbers 88 = .ok (.bipush (-4), 2) := by decide +kernel
theorem dX3_readNumbers_90 : decode cX3_readNumbers 90 = .ok (.ireturn, 1) := by decide +kernel
theorem dX3_figuresAt_0 : decode cX3_figuresAt 0 = .ok (.aload_n 0, 1) := by decide +kernel
theorem dX3_figuresAt_1 : decode cX3_figuresAt 1 = .ok (.iload_n 1, 1) := by decide +kernel
theorem dX3_figuresAt_2 : decode cX3_figuresAt 2 = .ok (.invokevirtual 32, 3) := by decide +kernel
theorem dX3_figuresAt_5 : decode cX3_figuresAt 5 = .ok (.invokestatic 53, 3) := by decide +kernel
theorem dX3_figuresAt_8 : decode cX3_figuresAt 8 = .ok (.ifCond .ne 5, 3) := by decide +kernel
theorem dX3_figuresAt_11 : decode cX3_figuresAt 11 = .ok (.iconst 0, 1) := by decide +kernel
theorem dX3_figuresAt_12 : decode cX3_figuresAt 12 = .ok (.ireturn, 1) := by decide +kernel
theorem dX3_figuresAt_13 : decode cX3_figuresAt 13 = .ok (.aload_n 0, 1) := by decide +kernel
theorem dX3_figuresAt_14 : decode cX3_figuresAt 14 = .ok (.iload_n 1, 1) := by decide +kernel
theorem dX3_figuresAt_15 : decode cX3_figuresAt 15 = .ok (.iconst 1, 1) := by decide +kernel
theorem dX3_figuresAt_16 : decode cX3_figuresAt 16 = .ok (.iadd, 1) := by decide +kernel
theorem dX3_figuresAt_17 : decode cX3_figuresAt 17 = .ok (.invokevirtual 32, 3) := by decide +kernel
theorem dX3_figuresAt_20 : decode cX3_figuresAt 20 = .ok (.invokestatic 53, 3) := by decide +kernel
theorem dX3_figuresAt_23 : decode cX3_figuresAt 23 = .ok (.ifCond .eq 7, 3) := by decide +kernel
theorem dX3_figuresAt_26 : decode cX3_figuresAt 26 = .ok (.iconst 2, 1) := by decide +kernel
theorem dX3_figuresAt_27 : decode cX3_figuresAt 27 = .ok (.goto 4, 3) := by decide +kernel
theorem dX3_figuresAt_30 : decode cX3_figuresAt 30 = .ok (.iconst 1, 1) := by decide +kernel
theorem dX3_figuresAt_31 : decode cX3_figuresAt 31 = .ok (.ireturn, 1) := by decide +kernel
theorem dX3_numberAt_0 : decode cX3_numberAt 0 = .ok (.aload_n 0, 1) := by decide +kernel
theorem dX3_numberAt_1 : decode cX3_numberAt 1 = .ok (.iload_n 1, 1) := by decide +kernel
theorem dX3_numberAt_2 : decode cX3_numberAt 2 = .ok (.invokevirtual 32, 3) := by decide +kernel
theorem dX3_numberAt_5 : decode cX3_numberAt 5 = .ok (.bipush 48, 2) := by decide +kernel
theorem dX3_numberAt_7 : decode cX3_numberAt 7 = .ok (.isub, 1) := by decide +kernel
theorem dX3_numberAt_8 : decode cX3_numberAt 8 = .ok (.istore_n 3, 1) := by decide +kernel
theorem dX3_numberAt_9 : decode cX3_numberAt 9 = .ok (.iload_n 2, 1) := by decide +kernel
theorem dX3_numberAt_10 : decode cX3_numberAt 10 = .ok (.iconst 1, 1) := by decide +kernel
theorem dX3_numberAt_11 : decode cX3_numberAt 11 = .ok (.if_icmp .ne 7, 3) := by decide +kernel
theorem dX3_numberAt_14 : decode cX3_numberAt 14 = .ok (.iload_n 3, 1) := by decide +kernel
theorem dX3_numberAt_15 : decode cX3_numberAt 15 = .ok (.goto 18, 3) := by decide +kernel
theorem dX3_numberAt_18 : decode cX3_numberAt 18 = .ok (.bipush 10, 2) := by decide +kernel
theorem dX3_numberAt_20 : decode cX3_numberAt 20 = .ok (.iload_n 3, 1) := by decide +kernel
theorem dX3_numberAt_21 : decode cX3_numberAt 21 = .ok (.imul, 1) := by decide +kernel
theorem dX3_numberAt_22 : decode cX3_numberAt 22 = .ok (.aload_n 0, 1) := by decide +kernel
theorem dX3_numberAt_23 : decode cX3_numberAt 23 = .ok (.iload_n 1, 1) := by decide +kernel
theorem dX3_numberAt_24 : decode cX3_numberAt 24 = .ok (.iconst 1, 1) := by decide +kernel
theorem dX3_numberAt_25 : decode cX3_numberAt 25 = .ok (.iadd, 1) := by decide +kernel
theorem dX3_numberAt_26 : decode cX3_numberAt 26 = .ok (.invokevirtual 32, 3) := by decide +kernel
theorem dX3_numberAt_29 : decode cX3_numberAt 29 = .ok (.iadd, 1) := by decide +kernel
theorem dX3_numberAt_30 : decode cX3_numberAt 30 = .ok (.bipush 48, 2) := by decide +kernel
theorem dX3_numberAt_32 : decode cX3_numberAt 32 = .ok (.isub, 1) := by decide +kernel
theorem dX3_numberAt_33 : decode cX3_numberAt 33 = .ok (.ireturn, 1) := by decide +kernel
theorem dX3_letterAt_0 : decode cX3_letterAt 0 = .ok (.iload_n 1, 1) := by decide +kernel
theorem dX3_letterAt_1 : decode cX3_letterAt 1 = .ok (.ifCond .lt 29, 3) := by decide +kernel
theorem dX3_letterAt_4 : decode cX3_letterAt 4 = .ok (.iload_n 1, 1) := by decide +kernel
theorem dX3_letterAt_5 : decode cX3_letterAt 5 = .ok (.aload_n 0, 1) := by decide +kernel
theorem dX3_letterAt_6 : decode cX3_letterAt 6 = .ok (.getfield 19, 3) := by decide +kernel
theorem dX3_letterAt_9 : decode cX3_letterAt 9 = .ok (.if_icmp .ge 21, 3) := by decide +kernel
theorem dX3_letterAt_12 : decode cX3_letterAt 12 = .ok (.iload_n 1, 1) := by decide +kernel
theorem dX3_letterAt_13 : decode cX3_letterAt 13 = .ok (.aload_n 0, 1) := by decide +kernel
theorem dX3_letterAt_14 : decode cX3_letterAt 14 = .ok (.getfield 9, 3) := by decide +kernel
theorem dX3_letterAt_17 : decode cX3_letterAt 17 = .ok (.arraylength, 1) := by decide +kernel
theorem dX3_letterAt_18 : decode cX3_letterAt 18 = .ok (.if_icmp .ge 12, 3) := by decide +kernel
theorem dX3_letterAt_21 : decode cX3_letterAt 21 = .ok (.aload_n 0, 1) := by decide +kernel
theorem dX3_letterAt_22 : decode cX3_letterAt 22 = .ok (.getfield 9, 3) := by decide +kernel
theorem dX3_letterAt_25 : decode cX3_letterAt 25 = .ok (.iload_n 1, 1) := by decide +kernel
theorem dX3_letterAt_26 : decode cX3_letterAt 26 = .ok (.caload, 1) := by decide +kernel
theorem dX3_letterAt_27 : decode cX3_letterAt 27 = .ok (.goto 4, 3) := by decide +kernel
theorem dX3_letterAt_30 : decode cX3_letterAt 30 = .ok (.iconst 0, 1) := by decide +kernel
theorem dX3_letterAt_31 : decode cX3_letterAt 31 = .ok (.ireturn, 1) := by decide +kernel
theorem dX3_isFigure_0 : decode cX3_isFigure 0 = .ok (.iload_n 0, 1) := by decide +kernel
theorem dX3_isFigure_1 : decode cX3_isFigure 1 = .ok (.bipush 48, 2) := by decide +kernel
theorem dX3_isFigure_3 : decode cX3_isFigure 3 = .ok (.bipush 57, 2) := by decide +kernel
theorem dX3_isFigure_5 : decode cX3_isFigure 5 = .ok (.invokestatic 57, 3) := by decide +kernel
theorem dX3_isFigure_8 : decode cX3_isFigure 8 = .ok (.ireturn, 1) := by decide +kernel
theorem dX4_init_0 : decode cX4_init 0 = .ok (.aload_n 0, 1) := by decide +kernel
theorem dX4_init_1 : decode cX4_init 1 = .ok (.invokespecial 3, 3) := by decide +kernel
theorem dX4_init_4 : decode cX4_init 4 = .ok (.aload_n 0, 1) := by decide +kernel
theorem dX4_init_5 : decode cX4_init 5 = .ok (.bipush 8, 2) := by decide +kernel
theorem dX4_init_7 : decode cX4_init 7 = .ok (.newarray .int, 2) := by decide +kernel
theorem dX4_init_9 : decode cX4_init 9 = .ok (.putfield 9, 3) := by decide +kernel
theorem dX4_init_12 : decode cX4_init 12 = .ok (.aload_n 0, 1) := by decide +kernel
theorem dX4_init_13 : decode cX4_init 13 = .ok (.bipush 8, 2) := by decide +kernel
theorem dX4_init_15 : decode cX4_init 15 = .ok (.newarray .int, 2) := by decide +kernel
theorem dX4_init_17 : decode cX4_init 17 = .ok (.putfield 15, 3) := by decide +kernel
theorem dX4_init_20 : decode cX4_init 20 = .ok (.aload_n 0, 1) := by decide +kernel
theorem dX4_init_21 : decode cX4_init 21 = .ok (.bipush 8, 2) := by decide +kernel
theorem dX4_init_23 : decode cX4_init 23 = .ok (.newarray .int, 2) := by decide +kernel
theorem dX4_init_25 : decode cX4_init 25 = .ok (.putfield 18, 3) := by decide +kernel
theorem dX4_init_28 : decode cX4_init 28 = .ok (.aload_n 0, 1) := by decide +kernel
theorem dX4_init_29 : decode cX4_init 29 = .ok (.bipush 8, 2) := by decide +kernel
theorem dX4_init_31 : decode cX4_init 31 = .ok (.newarray .int, 2) := by decide +kernel
theorem dX4_init_33 : decode cX4_init 33 = .ok (.putfield 21, 3) := by decide +kernel
theorem dX4_init_36 : decode cX4_init 36 = .ok (.aload_n 0, 1) := by decide +kernel
theorem dX4_init_37 : decode cX4_init 37 = .ok (.sipush 256, 3) := by decide +kernel
theorem dX4_init_40 : decode cX4_init 40 = .ok (.newarray .int, 2) := by decide +kernel
theorem dX4_init_42 : decode cX4_init 42 = .ok (.putfield 24, 3) := by decide +kernel
theorem dX4_init_45 : decode cX4_init 45 = .ok (.aload_n 0, 1) := by decide +kernel
theorem dX4_init_46 : decode cX4_init 46 = .ok (.sipush 256, 3) := by decide +kernel
theorem dX4_init_49 : decode cX4_init 49 = .ok (.newarray .int, 2) := by decide +kernel
theorem dX4_init_51 : decode cX4_init 51 = .ok (.putfield 27, 3) := by decide +kernel
theorem dX4_init_54 : decode cX4_init 54 = .ok (.aload_n 0, 1) := by decide +kernel
theorem dX4_init_55 : decode cX4_init 55 = .ok (.sipush 256, 3) := by decide +kernel
theorem dX4_init_58 : decode cX4_init 58 = .ok (.newarray .int, 2) := by decide +kernel
theorem dX4_init_60 : decode cX4_init 60 = .ok (.putfield 30, 3) := by decide +kernel
theorem dX4_init_63 : decode cX4_init 63 = .ok (.return_, 1) := by decide +kernel
theorem dX4_clear_0 : decode cX4_clear 0 = .ok (.aload_n 0, 1) := by decide +kernel
theorem dX4_clear_1 : decode cX4_clear 1 = .ok (.iconst 0, 1) := by decide +kernel
theorem dX4_clear_2 : decode cX4_clear 2 = .ok (.putfield 33, 3) := by decide +kernel
theorem dX4_clear_5 : decode cX4_clear 5 = .ok (.aload_n 0, 1) := by decide +kernel
theorem dX4_clear_6 : decode cX4_clear 6 = .ok (.iconst 0, 1) := by decide +kernel
theorem dX4_clear_7 : decode cX4_clear 7 = .ok (.putfield 37, 3) := by decide +kernel
theorem dX4_clear_10 : decode cX4_clear 10 = .ok (.aload_n 0, 1) := by decide +kernel
theorem dX4_clear_11 : decode cX4_clear 11 = .ok (.iconst 0, 1) := by decide +kernel
theorem dX4_clear_12 : decode cX4_clear 12 = .ok (.putfield 40, 3) := by decide +kernel
theorem dX4_clear_15 : decode cX4_clear 15 = .ok (.aload_n 0, 1) := by decide +kernel
theorem dX4_clear_16 : decode cX4_clear 16 = .ok (.iconst 0, 1) := by decide +kernel
theorem dX4_clear_17 : decode cX4_clear 17 = .ok (.putfield 43, 3) := by decide +kernel
theorem dX4_clear_20 : decode cX4_clear 20 = .ok (.aload_n 0, 1) := by decide +kernel
theorem dX4_clear_21 : decode cX4_clear 21 = .ok (.getfield 30, 3) := by decide +kernel
theorem dX4_clear_24 : decode cX4_clear 24 = .ok (.iconst 0, 1) := by decide +kernel
theorem dX4_clear_25 : decode cX4_clear 25 = .ok (.iconst 1, 1) := by decide +kernel
theorem dX4_clear_26 : decode cX4_clear 26 = .ok (.invokestatic 46, 3) := by decide +kernel
theorem dX4_clear_29 : decode cX4_clear 29 = .ok (.return_, 1) := by decide +kernel
theorem dX4_add_0 : decode cX4_add 0 = .ok (.aload_n 0, 1) := by decide +kernel
theorem dX4_add_1 : decode cX4_add 1 = .ok (.getfield 33, 3) := by decide +kernel
theorem dX4_add_4 : decode cX4_add 4 = .ok (.bipush 8, 2) := by decide +kernel
theorem dX4_add_6 : decode cX4_add 6 = .ok (.if_icmp .lt 4, 3) := by decide +kernel
theorem dX4_add_9 : decode cX4_add 9 = .ok (.return_, 1) := by decide +kernel
theorem dX4_add_10 : decode cX4_add 10 = .ok (.aload_n 0, 1) := by decide +kernel
theorem dX4_add_11 : decode cX4_add 11 = .ok (.getfield 9, 3) := by decide +kernel
theorem dX4_add_14 : decode cX4_add 14 = .ok (.aload_n 0, 1) := by decide +kernel
theorem dX4_add_15 : decode cX4_add 15 = .ok (.getfield 33, 3) := by decide +kernel
theorem dX4_add_18 : decode cX4_add 18 = .ok (.aload_n 1, 1) := by decide +kernel
theorem dX4_add_19 : decode cX4_add 19 = .ok (.iconst 0, 1) := by decide +kernel
theorem dX4_add_20 : decode cX4_add 20 = .ok (.invokestatic 50, 3) := by decide +kernel
theorem dX4_add_23 : decode cX4_add 23 = .ok (.invokestatic 46, 3) := by decide +kernel
theorem dX4_add_26 : decode cX4_add 26 = .ok (.aload_n 0, 1) := by decide +kernel
theorem dX4_add_27 : decode cX4_add 27 = .ok (.getfield 15, 3) := by decide +kernel
theorem dX4_add_30 : decode cX4_add 30 = .ok (.aload_n 0, 1) := by decide +kernel
theorem dX4_add_31 : decode cX4_add 31 = .ok (.getfield 33, 3) := by decide +kernel
theorem dX4_add_34 : decode cX4_add 34 = .ok (.aload_n 1, 1) := by decide +kernel
theorem dX4_add_35 : decode cX4_add 35 = .ok (.iconst 1, 1) := by decide +kernel
theorem dX4_add_36 : decode cX4_add 36 = .ok (.invokestatic 50, 3) := by decide +kernel
theorem dX4_add_39 : decode cX4_add 39 = .ok (.invokestatic 46, 3) := by decide +kernel
theorem dX4_add_42 : decode cX4_add 42 = .ok (.aload_n 0, 1) := by decide +kernel
theorem dX4_add_43 : decode cX4_add 43 = .ok (.getfield 18, 3) := by decide +kernel
theorem dX4_add_46 : decode cX4_add 46 = .ok (.aload_n 0, 1) := by decide +kernel
theorem dX4_add_47 : decode cX4_add 47 = .ok (.getfield 33, 3) := by decide +kernel
theorem dX4_add_50 : decode cX4_add 50 = .ok (.aload_n 1, 1) := by decide +kernel
theorem dX4_add_51 : decode cX4_add 51 = .ok (.iconst 2, 1) := by decide +kernel
theorem dX4_add_52 : decode cX4_add 52 = .ok (.invokestatic 50, 3) := by decide +kernel
theorem dX4_add_55 : decode cX4_add 55 = .ok (.invokestatic 46, 3) := by decide +kernel
theorem dX4_add_58 : decode cX4_add 58 = .ok (.aload_n 0, 1) := by decide +kernel
theorem dX4_add_59 : decode cX4_add 59 = .ok (.getfield 21, 3) := by decide +kernel
theorem dX4_add_62 : decode cX4_add 62 = .ok (.aload_n 0, 1) := by decide +kernel
theorem dX4_add_63 : decode cX4_add 63 = .ok (.getfield 33, 3) := by decide +kernel
theorem dX4_add_66 : decode cX4_add 66 = .ok (.aload_n 1, 1) := by decide +kernel
theorem dX4_add_67 : decode cX4_add 67 = .ok (.iconst 3, 1) := by decide +kernel
theorem dX4_add_68 : decode cX4_add 68 = .ok (.invokestatic 50, 3) := by decide +kernel
theorem dX4_add_71 : decode cX4_add 71 = .ok (.invokestatic 46, 3) := by decide +kernel
theorem dX4_add_74 : decode cX4_add 74 = .ok (.iconst 1, 1) := by decide +kernel
theorem dX4_add_75 : decode cX4_add 75 = .ok (.aload_n 0, 1) := by decide +kernel
theorem dX4_add_76 : decode cX4_add 76 = .ok (.getfield 33, 3) := by decide +kernel
theorem dX4_add_79 : decode cX4_add 79 = .ok (.ishl, 1) := by decide +kernel
theorem dX4_add_80 : decode cX4_add 80 = .ok (.istore_n 2, 1) := by decide +kernel
theorem dX4_add_81 : decode cX4_add 81 = .ok (.aload_n 0, 1) := by decide +kernel
theorem dX4_add_82 : decode cX4_add 82 = .ok (.iload_n 2, 1) := by decide +kernel
theorem dX4_add_83 : decode cX4_add 83 = .ok (.aload_n 1, 1) := by decide +kernel
theorem dX4_add_84 : decode cX4_add 84 = .ok (.iconst 1, 1) := by decide +kernel
theorem dX4_add_85 : decode cX4_add 85 = .ok (.invokestatic 50, 3) := by decide +kernel
theorem dX4_add_88 : decode cX4_add 88 = .ok (.invokevirtual 54, 3) := by decide +kernel
theorem dX4_add_91 : decode cX4_add 91 = .ok (.iconst 0, 1) := by decide +kernel
theorem dX4_add_92 : decode cX4_add 92 = .ok (.istore_n 3, 1) := by decide +kernel
theorem dX4_add_93 : decode cX4_add 93 = .ok (.iload_n 3, 1) := by decide +kernel
theorem dX4_add_94 : decode cX4_add 94 = .ok (.iload_n 2, 1) := by decide +kernel
theorem dX4_add_95 : decode cX4_add 95 = .ok (.if_icmp .ge 81, 3) := by decide +kernel
theorem dX4_add_98 : decode cX4_add 98 = .ok (.aload_n 0, 1) := by decide +kernel
theorem dX4_add_99 : decode cX4_add 99 = .ok (.getfield 24, 3) := by decide +kernel
theorem dX4_add_102 : decode cX4_add 102 = .ok (.iload_n 3, 1) := by decide +kernel
theorem dX4_add_103 : decode cX4_add 103 = .ok (.iload_n 2, 1) := by decide +kernel
theorem dX4_add_104 : decode cX4_add 104 = .ok (.ior, 1) := by decide +kernel
theorem dX4_add_105 : decode cX4_add 105 = .ok (.aload_n 0, 1) := by decide +kernel
theorem dX4_add_106 : decode cX4_add 106 = .ok (.getfield 24, 3) := by decide +kernel
theorem dX4_add_109 : decode cX4_add 109 = .ok (.iload_n 3, 1) := by decide +kernel
theorem dX4_add_110 : decode cX4_add 110 = .ok (.invokestatic 50, 3) := by decide +kernel
theorem dX4_add_113 : decode cX4_add 113 = .ok (.aload_n 1, 1) := by decide +kernel
theorem dX4_add_114 : decode cX4_add 114 = .ok (.iconst 0, 1) := by decide +kernel
theorem dX4_add_115 : decode cX4_add 115 = .ok (.invokestatic 50, 3) := by decide +kernel
theorem dX4_add_118 : decode cX4_add 118 = .ok (.iadd, 1) := by decide +kernel
theorem dX4_add_119 : decode cX4_add 119 = .ok (.invokestatic 46, 3) := by decide +kernel
theorem dX4_add_122 : decode cX4_add 122 = .ok (.aload_n 0, 1) := by decide +kernel
theorem dX4_add_123 : decode cX4_add 123 = .ok (.getfield 27, 3) := by decide +kernel
theorem dX4_add_126 : decode cX4_add 126 = .ok (.iload_n 3, 1) := by decide +kernel
theorem dX4_add_127 : decode cX4_add 127 = .ok (.iload_n 2, 1) := by decide +kernel
theorem dX4_add_128 : decode cX4_add 128 = .ok (.ior, 1) := by decide +kernel
theorem dX4_add_129 : decode cX4_add 129 = .ok (.aload_n 0, 1) := by decide +kernel
theorem dX4_add_130 : decode cX4_add 130 = .ok (.getfield 27, 3) := by decide +kernel
