theorem dJx29ce0_ordinal_8abf5_0 : decode cJx29ce0_ordinal_8abf5 0 = .ok (.aload_n 0, 1) := by decide +kernel
theorem dJx29ce0_ordinal_8abf5_1 : decode cJx29ce0_ordinal_8abf5 1 = .ok (.getfield 7, 3) := by decide +kernel
theorem dJx29ce0_ordinal_8abf5_4 : decode cJx29ce0_ordinal_8abf5 4 = .ok (.ireturn, 1) := by decide +kernel
theorem dJ9_floorDiv_7cf53_0 : decode cJ9_floorDiv_7cf53 0 = .ok (.iload_n 0, 1) := by decide +kernel
theorem dJ9_floorDiv_7cf53_1 : decode cJ9_floorDiv_7cf53 1 = .ok (.iload_n 1, 1) := by decide +kernel
theorem dJ9_floorDiv_7cf53_2 : decode cJ9_floorDiv_7cf53 2 = .ok (.idiv, 1) := by decide +kernel
theorem dJ9_floorDiv_7cf53_3 : decode cJ9_floorDiv_7cf53 3 = .ok (.istore_n 2, 1) := by decide +kernel
theorem dJ9_floorDiv_7cf53_4 : decode cJ9_floorDiv_7cf53 4 = .ok (.iload_n 0, 1) := by decide +kernel
theorem dJ9_floorDiv_7cf53_5 : decode cJ9_floorDiv_7cf53 5 = .ok (.iload_n 1, 1) := by decide +kernel
theorem dJ9_floorDiv_7cf53_6 : decode cJ9_floorDiv_7cf53 6 = .ok (.ixor, 1) := by decide +kernel
theorem dJ9_floorDiv_7cf53_7 : decode cJ9_floorDiv_7cf53 7 = .ok (.ifCond .ge 14, 3) := by decide +kernel
theorem dJ9_floorDiv_7cf53_10 : decode cJ9_floorDiv_7cf53 10 = .ok (.iload_n 2, 1) := by decide +kernel
theorem dJ9_floorDiv_7cf53_11 : decode cJ9_floorDiv_7cf53 11 = .ok (.iload_n 1, 1) := by decide +kernel
theorem dJ9_floorDiv_7cf53_12 : decode cJ9_floorDiv_7cf53 12 = .ok (.imul, 1) := by decide +kernel
theorem dJ9_floorDiv_7cf53_13 : decode cJ9_floorDiv_7cf53 13 = .ok (.iload_n 0, 1) := by decide +kernel
theorem dJ9_floorDiv_7cf53_14 : decode cJ9_floorDiv_7cf53 14 = .ok (.if_icmp .eq 7, 3) := by decide +kernel
theorem dJ9_floorDiv_7cf53_17 : decode cJ9_floorDiv_7cf53 17 = .ok (.iload_n 2, 1) := by decide +kernel
theorem dJ9_floorDiv_7cf53_18 : decode cJ9_floorDiv_7cf53 18 = .ok (.iconst 1, 1) := by decide +kernel
theorem dJ9_floorDiv_7cf53_19 : decode cJ9_floorDiv_7cf53 19 = .ok (.isub, 1) := by decide +kernel
theorem dJ9_floorDiv_7cf53_20 : decode cJ9_floorDiv_7cf53 20 = .ok (.ireturn, 1) := by decide +kernel
theorem dJ9_floorDiv_7cf53_21 : decode cJ9_floorDiv_7cf53 21 = .ok (.iload_n 2, 1) := by decide +kernel
theorem dJ9_floorDiv_7cf53_22 : decode cJ9_floorDiv_7cf53 22 = .ok (.ireturn, 1) := by decide +kernel
theorem dJ9_abs_0f7a4_0 : decode cJ9_abs_0f7a4 0 = .ok (.iload_n 0, 1) := by decide +kernel
theorem dJ9_abs_0f7a4_1 : decode cJ9_abs_0f7a4 1 = .ok (.ifCond .ge 8, 3) := by decide +kernel
theorem dJ9_abs_0f7a4_4 : decode cJ9_abs_0f7a4 4 = .ok (.iload_n 0, 1) := by decide +kernel
theorem dJ9_abs_0f7a4_5 : decode cJ9_abs_0f7a4 5 = .ok (.ineg, 1) := by decide +kernel
theorem dJ9_abs_0f7a4_6 : decode cJ9_abs_0f7a4 6 = .ok (.goto 4, 3) := by decide +kernel
theorem dJ9_abs_0f7a4_9 : decode cJ9_abs_0f7a4 9 = .ok (.iload_n 0, 1) := by decide +kernel
theorem dJ9_abs_0f7a4_10 : decode cJ9_abs_0f7a4 10 = .ok (.ireturn, 1) := by decide +kernel
theorem dJ9_max_7cf53_0 : decode cJ9_max_7cf53 0 = .ok (.iload_n 0, 1) := by decide +kernel
theorem dJ9_max_7cf53_1 : decode cJ9_max_7cf53 1 = .ok (.iload_n 1, 1) := by decide +kernel
theorem dJ9_max_7cf53_2 : decode cJ9_max_7cf53 2 = .ok (.if_icmp .lt 7, 3) := by decide +kernel
theorem dJ9_max_7cf53_5 : decode cJ9_max_7cf53 5 = .ok (.iload_n 0, 1) := by decide +kernel
theorem dJ9_max_7cf53_6 : decode cJ9_max_7cf53 6 = .ok (.goto 4, 3) := by decide +kernel
theorem dJ9_max_7cf53_9 : decode cJ9_max_7cf53 9 = .ok (.iload_n 1, 1) := by decide +kernel
theorem dJ9_max_7cf53_10 : decode cJ9_max_7cf53 10 = .ok (.ireturn, 1) := by decide +kernel
theorem dJ9_min_7cf53_0 : decode cJ9_min_7cf53 0 = .ok (.iload_n 0, 1) := by decide +kernel
theorem dJ9_min_7cf53_1 : decode cJ9_min_7cf53 1 = .ok (.iload_n 1, 1) := by decide +kernel
theorem dJ9_min_7cf53_2 : decode cJ9_min_7cf53 2 = .ok (.if_icmp .gt 7, 3) := by decide +kernel
theorem dJ9_min_7cf53_5 : decode cJ9_min_7cf53 5 = .ok (.iload_n 0, 1) := by decide +kernel
theorem dJ9_min_7cf53_6 : decode cJ9_min_7cf53 6 = .ok (.goto 4, 3) := by decide +kernel
theorem dJ9_min_7cf53_9 : decode cJ9_min_7cf53 9 = .ok (.iload_n 1, 1) := by decide +kernel
theorem dJ9_min_7cf53_10 : decode cJ9_min_7cf53 10 = .ok (.ireturn, 1) := by decide +kernel
theorem dJ0_length_8abf5_0 : decode cJ0_length_8abf5 0 = .ok (.aload_n 0, 1) := by decide +kernel
theorem dJ0_length_8abf5_1 : decode cJ0_length_8abf5 1 = .ok (.getfield 9, 3) := by decide +kernel
theorem dJ0_length_8abf5_4 : decode cJ0_length_8abf5 4 = .ok (.arraylength, 1) := by decide +kernel
theorem dJ0_length_8abf5_5 : decode cJ0_length_8abf5 5 = .ok (.aload_n 0, 1) := by decide +kernel
theorem dJ0_length_8abf5_6 : decode cJ0_length_8abf5 6 = .ok (.invokevirtual 335, 3) := by decide +kernel
theorem dJ0_length_8abf5_9 : decode cJ0_length_8abf5 9 = .ok (.ishr, 1) := by decide +kernel
theorem dJ0_length_8abf5_10 : decode cJ0_length_8abf5 10 = .ok (.ireturn, 1) := by decide +kernel
theorem dJ0_charAt_5068e_0 : decode cJ0_charAt_5068e 0 = .ok (.aload_n 0, 1) := by decide +kernel
theorem dJ0_charAt_5068e_1 : decode cJ0_charAt_5068e 1 = .ok (.invokevirtual 492, 3) := by decide +kernel
theorem dJ0_charAt_5068e_4 : decode cJ0_charAt_5068e 4 = .ok (.ifCond .eq 12, 3) := by decide +kernel
theorem dJ0_charAt_5068e_7 : decode cJ0_charAt_5068e 7 = .ok (.aload_n 0, 1) := by decide +kernel
theorem dJ0_charAt_5068e_8 : decode cJ0_charAt_5068e 8 = .ok (.getfield 9, 3) := by decide +kernel
theorem dJ0_charAt_5068e_11 : decode cJ0_charAt_5068e 11 = .ok (.iload_n 1, 1) := by decide +kernel
theorem dJ0_charAt_5068e_12 : decode cJ0_charAt_5068e 12 = .ok (.invokestatic 495, 3) := by decide +kernel
theorem dJ0_charAt_5068e_15 : decode cJ0_charAt_5068e 15 = .ok (.ireturn, 1) := by decide +kernel
theorem dJ0_charAt_5068e_16 : decode cJ0_charAt_5068e 16 = .ok (.aload_n 0, 1) := by decide +kernel
theorem dJ0_charAt_5068e_17 : decode cJ0_charAt_5068e 17 = .ok (.getfield 9, 3) := by decide +kernel
theorem dJ0_charAt_5068e_20 : decode cJ0_charAt_5068e 20 = .ok (.iload_n 1, 1) := by decide +kernel
theorem dJ0_charAt_5068e_21 : decode cJ0_charAt_5068e 21 = .ok (.invokestatic 498, 3) := by decide +kernel
theorem dJ0_charAt_5068e_24 : decode cJ0_charAt_5068e 24 = .ok (.ireturn, 1) := by decide +kernel
theorem dJ0_coder_7d493_0 : decode cJ0_coder_7d493 0 = .ok (.getstatic 38, 3) := by decide +kernel
theorem dJ0_coder_7d493_3 : decode cJ0_coder_7d493 3 = .ok (.ifCond .eq 10, 3) := by decide +kernel
theorem dJ0_coder_7d493_6 : decode cJ0_coder_7d493 6 = .ok (.aload_n 0, 1) := by decide +kernel
theorem dJ0_coder_7d493_7 : decode cJ0_coder_7d493 7 = .ok (.getfield 15, 3) := by decide +kernel
theorem dJ0_coder_7d493_10 : decode cJ0_coder_7d493 10 = .ok (.goto 4, 3) := by decide +kernel
theorem dJ0_coder_7d493_13 : decode cJ0_coder_7d493 13 = .ok (.iconst 1, 1) := by decide +kernel
theorem dJ0_coder_7d493_14 : decode cJ0_coder_7d493 14 = .ok (.ireturn, 1) := by decide +kernel
theorem dJ0_isLatin1_aae02_0 : decode cJ0_isLatin1_aae02 0 = .ok (.getstatic 38, 3) := by decide +kernel
theorem dJ0_isLatin1_aae02_3 : decode cJ0_isLatin1_aae02 3 = .ok (.ifCond .eq 14, 3) := by decide +kernel
theorem dJ0_isLatin1_aae02_6 : decode cJ0_isLatin1_aae02 6 = .ok (.aload_n 0, 1) := by decide +kernel
theorem dJ0_isLatin1_aae02_7 : decode cJ0_isLatin1_aae02 7 = .ok (.getfield 15, 3) := by decide +kernel
theorem dJ0_isLatin1_aae02_10 : decode cJ0_isLatin1_aae02 10 = .ok (.ifCond .ne 7, 3) := by decide +kernel
theorem dJ0_isLatin1_aae02_13 : decode cJ0_isLatin1_aae02 13 = .ok (.iconst 1, 1) := by decide +kernel
theorem dJ0_isLatin1_aae02_14 : decode cJ0_isLatin1_aae02 14 = .ok (.goto 4, 3) := by decide +kernel
theorem dJ0_isLatin1_aae02_17 : decode cJ0_isLatin1_aae02 17 = .ok (.iconst 0, 1) := by decide +kernel
theorem dJ0_isLatin1_aae02_18 : decode cJ0_isLatin1_aae02 18 = .ok (.ireturn, 1) := by decide +kernel
theorem dJ0_checkIndex_df160_0 : decode cJ0_checkIndex_df160 0 = .ok (.iload_n 0, 1) := by decide +kernel
theorem dJ0_checkIndex_df160_1 : decode cJ0_checkIndex_df160 1 = .ok (.iload_n 1, 1) := by decide +kernel
theorem dJ0_checkIndex_df160_2 : decode cJ0_checkIndex_df160 2 = .ok (.getstatic 1053, 3) := by decide +kernel
theorem dJ0_checkIndex_df160_5 : decode cJ0_checkIndex_df160 5 = .ok (.invokestatic 1059, 3) := by decide +kernel
theorem dJ0_checkIndex_df160_8 : decode cJ0_checkIndex_df160 8 = .ok (.pop, 1) := by decide +kernel
theorem dJ0_checkIndex_df160_9 : decode cJ0_checkIndex_df160 9 = .ok (.return_, 1) := by decide +kernel
theorem dJ1_charAt_3b067_0 : decode cJ1_charAt_3b067 0 = .ok (.iload_n 1, 1) := by decide +kernel
theorem dJ1_charAt_3b067_1 : decode cJ1_charAt_3b067 1 = .ok (.aload_n 0, 1) := by decide +kernel
theorem dJ1_charAt_3b067_2 : decode cJ1_charAt_3b067 2 = .ok (.arraylength, 1) := by decide +kernel
theorem dJ1_charAt_3b067_3 : decode cJ1_charAt_3b067 3 = .ok (.invokestatic 9, 3) := by decide +kernel
theorem dJ1_charAt_3b067_6 : decode cJ1_charAt_3b067 6 = .ok (.aload_n 0, 1) := by decide +kernel
theorem dJ1_charAt_3b067_7 : decode cJ1_charAt_3b067 7 = .ok (.iload_n 1, 1) := by decide +kernel
theorem dJ1_charAt_3b067_8 : decode cJ1_charAt_3b067 8 = .ok (.baload, 1) := by decide +kernel
theorem dJ1_charAt_3b067_9 : decode cJ1_charAt_3b067 9 = .ok (.sipush 255, 3) := by decide +kernel
theorem dJ1_charAt_3b067_12 : decode cJ1_charAt_3b067 12 = .ok (.iand, 1) := by decide +kernel
theorem dJ1_charAt_3b067_13 : decode cJ1_charAt_3b067 13 = .ok (.i2c, 1) := by decide +kernel
theorem dJ1_charAt_3b067_14 : decode cJ1_charAt_3b067 14 = .ok (.ireturn, 1) := by decide +kernel
theorem dJ2_getChar_3b067_0 : decode cJ2_getChar_3b067 0 = .ok (.getstatic 44, 3) := by decide +kernel
theorem dJ2_getChar_3b067_3 : decode cJ2_getChar_3b067 3 = .ok (.ifCond .ne 25, 3) := by decide +kernel
theorem dJ2_getChar_3b067_6 : decode cJ2_getChar_3b067 6 = .ok (.iload_n 1, 1) := by decide +kernel
theorem dJ2_getChar_3b067_7 : decode cJ2_getChar_3b067 7 = .ok (.ifCond .lt 11, 3) := by decide +kernel
theorem dJ2_getChar_3b067_10 : decode cJ2_getChar_3b067 10 = .ok (.iload_n 1, 1) := by decide +kernel
theorem dJ2_getChar_3b067_11 : decode cJ2_getChar_3b067 11 = .ok (.aload_n 0, 1) := by decide +kernel
theorem dJ2_getChar_3b067_12 : decode cJ2_getChar_3b067 12 = .ok (.invokestatic 48, 3) := by decide +kernel
theorem dJ2_getChar_3b067_15 : decode cJ2_getChar_3b067 15 = .ok (.if_icmp .lt 13, 3) := by decide +kernel
theorem dJ2_getChar_3b067_18 : decode cJ2_getChar_3b067 18 = .ok (.new 52, 3) := by decide +kernel
theorem dJ2_getChar_3b067_21 : decode cJ2_getChar_3b067 21 = .ok (.dup, 1) := by decide +kernel
theorem dJ2_getChar_3b067_22 : decode cJ2_getChar_3b067 22 = .ok (.ldc 54, 2) := by decide +kernel
theorem dJ2_getChar_3b067_24 : decode cJ2_getChar_3b067 24 = .ok (.invokespecial 56, 3) := by decide +kernel
theorem dJ2_getChar_3b067_27 : decode cJ2_getChar_3b067 27 = .ok (.athrow, 1) := by decide +kernel
theorem dJ2_getChar_3b067_28 : decode cJ2_getChar_3b067 28 = .ok (.iload_n 1, 1) := by decide +kernel
theorem dJ2_getChar_3b067_29 : decode cJ2_getChar_3b067 29 = .ok (.iconst 1, 1) := by decide +kernel
theorem dJ2_getChar_3b067_30 : decode cJ2_getChar_3b067 30 = .ok (.ishl, 1) := by decide +kernel
theorem dJ2_getChar_3b067_31 : decode cJ2_getChar_3b067 31 = .ok (.istore_n 1, 1) := by decide +kernel
theorem dJ2_getChar_3b067_32 : decode cJ2_getChar_3b067 32 = .ok (.aload_n 0, 1) := by decide +kernel
theorem dJ2_getChar_3b067_33 : decode cJ2_getChar_3b067 33 = .ok (.iload_n 1, 1) := by decide +kernel
theorem dJ2_getChar_3b067_34 : decode cJ2_getChar_3b067 34 = .ok (.iinc 1 1, 3) := by decide +kernel
theorem dJ2_getChar_3b067_37 : decode cJ2_getChar_3b067 37 = .ok (.baload, 1) := by decide +kernel
theorem dJ2_getChar_3b067_38 : decode cJ2_getChar_3b067 38 = .ok (.sipush 255, 3) := by decide +kernel
theorem dJ2_getChar_3b067_41 : decode cJ2_getChar_3b067 41 = .ok (.iand, 1) := by decide +kernel
theorem dJ2_getChar_3b067_42 : decode cJ2_getChar_3b067 42 = .ok (.getstatic 59, 3) := by decide +kernel
theorem dJ2_getChar_3b067_45 : decode cJ2_getChar_3b067 45 = .ok (.ishl, 1) := by decide +kernel
theorem dJ2_getChar_3b067_46 : decode cJ2_getChar_3b067 46 = .ok (.aload_n 0, 1) := by decide +kernel
theorem dJ2_getChar_3b067_47 : decode cJ2_getChar_3b067 47 = .ok (.iload_n 1, 1) := by decide +kernel
theorem dJ2_getChar_3b067_48 : decode cJ2_getChar_3b067 48 = .ok (.baload, 1) := by decide +kernel
theorem dJ2_getChar_3b067_49 : decode cJ2_getChar_3b067 49 = .ok (.sipush 255, 3) := by decide +kernel
theorem dJ2_getChar_3b067_52 : decode cJ2_getChar_3b067 52 = .ok (.iand, 1) := by decide +kernel
theorem dJ2_getChar_3b067_53 : decode cJ2_getChar_3b067 53 = .ok (.getstatic 63, 3) := by decide +kernel
theorem dJ2_getChar_3b067_56 : decode cJ2_getChar_3b067 56 = .ok (.ishl, 1) := by decide +kernel
theorem dJ2_getChar_3b067_57 : decode cJ2_getChar_3b067 57 = .ok (.ior, 1) := by decide +kernel
theorem dJ2_getChar_3b067_58 : decode cJ2_getChar_3b067 58 = .ok (.i2c, 1) := by decide +kernel
theorem dJ2_getChar_3b067_59 : decode cJ2_getChar_3b067 59 = .ok (.ireturn, 1) := by decide +kernel
theorem dJ2_length_9d52b_0 : decode cJ2_length_9d52b 0 = .ok (.aload_n 0, 1) := by decide +kernel
theorem dJ2_length_9d52b_1 : decode cJ2_length_9d52b 1 = .ok (.arraylength, 1) := by decide +kernel
theorem dJ2_length_9d52b_2 : decode cJ2_length_9d52b 2 = .ok (.iconst 1, 1) := by decide +kernel
theorem dJ2_length_9d52b_3 : decode cJ2_length_9d52b 3 = .ok (.ishr, 1) := by decide +kernel
theorem dJ2_length_9d52b_4 : decode cJ2_length_9d52b 4 = .ok (.ireturn, 1) := by decide +kernel
theorem dJ2_charAt_3b067_0 : decode cJ2_charAt_3b067 0 = .ok (.iload_n 1, 1) := by decide +kernel
theorem dJ2_charAt_3b067_1 : decode cJ2_charAt_3b067 1 = .ok (.aload_n 0, 1) := by decide +kernel
theorem dJ2_charAt_3b067_2 : decode cJ2_charAt_3b067 2 = .ok (.invokestatic 67, 3) := by decide +kernel
theorem dJ2_charAt_3b067_5 : decode cJ2_charAt_3b067 5 = .ok (.aload_n 0, 1) := by decide +kernel
theorem dJ2_charAt_3b067_6 : decode cJ2_charAt_3b067 6 = .ok (.iload_n 1, 1) := by decide +kernel
theorem dJ2_charAt_3b067_7 : decode cJ2_charAt_3b067 7 = .ok (.invokestatic 71, 3) := by decide +kernel
theorem dJ2_charAt_3b067_10 : decode cJ2_charAt_3b067 10 = .ok (.ireturn, 1) := by decide +kernel
theorem dJ2_checkIndex_2214a_0 : decode cJ2_checkIndex_2214a 0 = .ok (.iload_n 0, 1) := by decide +kernel
theorem dJ2_checkIndex_2214a_1 : decode cJ2_checkIndex_2214a 1 = .ok (.aload_n 1, 1) := by decide +kernel
theorem dJ2_checkIndex_2214a_2 : decode cJ2_checkIndex_2214a 2 = .ok (.invokestatic 48, 3) := by decide +kernel
theorem dJ2_checkIndex_2214a_5 : decode cJ2_checkIndex_2214a 5 = .ok (.invokestatic 414, 3) := by decide +kernel
theorem dJ2_checkIndex_2214a_8 : decode cJ2_checkIndex_2214a 8 = .ok (.return_, 1) := by decide +kernel
theorem dJ3_checkIndex_8e157_0 : decode cJ3_checkIndex_8e157 0 = .ok (.iload_n 0, 1) := by decide +kernel
theorem dJ3_checkIndex_8e157_1 : decode cJ3_checkIndex_8e157 1 = .ok (.ifCond .lt 8, 3) := by decide +kernel
theorem dJ3_checkIndex_8e157_4 : decode cJ3_checkIndex_8e157 4 = .ok (.iload_n 0, 1) := by decide +kernel
theorem dJ3_checkIndex_8e157_5 : decode cJ3_checkIndex_8e157 5 = .ok (.iload_n 1, 1) := by decide +kernel
theorem dJ3_checkIndex_8e157_6 : decode cJ3_checkIndex_8e157 6 = .ok (.if_icmp .lt 10, 3) := by decide +kernel
theorem dJ3_checkIndex_8e157_9 : decode cJ3_checkIndex_8e157 9 = .ok (.aload_n 2, 1) := by decide +kernel
theorem dJ3_checkIndex_8e157_10 : decode cJ3_checkIndex_8e157 10 = .ok (.iload_n 0, 1) := by decide +kernel
theorem dJ3_checkIndex_8e157_11 : decode cJ3_checkIndex_8e157 11 = .ok (.iload_n 1, 1) := by decide +kernel
theorem dJ3_checkIndex_8e157_12 : decode cJ3_checkIndex_8e157 12 = .ok (.invokestatic 95, 3) := by decide +kernel
theorem dJ3_checkIndex_8e157_15 : decode cJ3_checkIndex_8e157 15 = .ok (.athrow, 1) := by decide +kernel
theorem dJ3_checkIndex_8e157_16 : decode cJ3_checkIndex_8e157 16 = .ok (.iload_n 0, 1) := by decide +kernel
theorem dJ3_checkIndex_8e157_17 : decode cJ3_checkIndex_8e157 17 = .ok (.ireturn, 1) := by decide +kernel
theorem dL_lot_0 : decode cL_lot 0 = .ok (.iload_n 1, 1) := by decide +kernel
theorem dL_lot_1 : decode cL_lot 1 = .ok (.aload_n 0, 1) := by decide +kernel
theorem dL_lot_2 : decode cL_lot 2 = .ok (.arraylength, 1) := by decide +kernel
theorem dL_lot_3 : decode cL_lot 3 = .ok (.if_icmp .ge 9, 3) := by decide +kernel
theorem dL_lot_6 : decode cL_lot 6 = .ok (.aload_n 0, 1) := by decide +kernel
theorem dL_lot_7 : decode cL_lot 7 = .ok (.iload_n 1, 1) := by decide +kernel
theorem dL_lot_8 : decode cL_lot 8 = .ok (.iaload, 1) := by decide +kernel
theorem dL_lot_9 : decode cL_lot 9 = .ok (.goto 15, 3) := by decide +kernel
theorem dL_lot_12 : decode cL_lot 12 = .ok (.ldc 7, 2) := by decide +kernel
theorem dL_lot_14 : decode cL_lot 14 = .ok (.iload_n 1, 1) := by decide +kernel
theorem dL_lot_15 : decode cL_lot 15 = .ok (.sipush 1973, 3) := by decide +kernel
theorem dL_lot_18 : decode cL_lot 18 = .ok (.iadd, 1) := by decide +kernel
theorem dL_lot_19 : decode cL_lot 19 = .ok (.imul, 1) := by decide +kernel
theorem dL_lot_20 : decode cL_lot 20 = .ok (.sipush 1759, 3) := by decide +kernel
theorem dL_lot_23 : decode cL_lot 23 = .ok (.iadd, 1) := by decide +kernel
theorem dL_lot_24 : decode cL_lot 24 = .ok (.ireturn, 1) := by decide +kernel
theorem dL_low_0 : decode cL_low 0 = .ok (.iload_n 0, 1) := by decide +kernel
theorem dL_low_1 : decode cL_low 1 = .ok (.ldc 8, 2) := by decide +kernel
theorem dL_low_3 : decode cL_low 3 = .ok (.iand, 1) := by decide +kernel
theorem dL_low_4 : decode cL_low 4 = .ok (.iload_n 1, 1) := by decide +kernel
theorem dL_low_5 : decode cL_low 5 = .ok (.irem, 1) := by decide +kernel
theorem dL_low_6 : decode cL_low 6 = .ok (.ireturn, 1) := by decide +kernel
theorem dL_begin_0 : decode cL_begin 0 = .ok (.aload_n 0, 1) := by decide +kernel
theorem dL_begin_1 : decode cL_begin 1 = .ok (.iload_n 1, 1) := by decide +kernel
theorem dL_begin_2 : decode cL_begin 2 = .ok (.iload_n 2, 1) := by decide +kernel
theorem dL_begin_3 : decode cL_begin 3 = .ok (.invokevirtual 9, 3) := by decide +kernel
theorem dL_begin_6 : decode cL_begin 6 = .ok (.ireturn, 1) := by decide +kernel
theorem dL_begin_7 : decode cL_begin 7 = .ok (.astore_n 3, 1) := by decide +kernel
theorem dL_begin_8 : decode cL_begin 8 = .ok (.ldc 17, 2) := by decide +kernel
theorem dL_begin_10 : decode cL_begin 10 = .ok (.ireturn, 1) := by decide +kernel
theorem dL_addGroup_0 : decode cL_addGroup 0 = .ok (.aload_n 0, 1) := by decide +kernel
theorem dL_addGroup_1 : decode cL_addGroup 1 = .ok (.iload_n 1, 1) := by decide +kernel
theorem dL_addGroup_2 : decode cL_addGroup 2 = .ok (.iload_n 2, 1) := by decide +kernel
theorem dL_addGroup_3 : decode cL_addGroup 3 = .ok (.iload_n 3, 1) := by decide +kernel
theorem dL_addGroup_4 : decode cL_addGroup 4 = .ok (.iload 4, 2) := by decide +kernel
theorem dL_addGroup_6 : decode cL_addGroup 6 = .ok (.invokevirtual 18, 3) := by decide +kernel
theorem dL_addGroup_9 : decode cL_addGroup 9 = .ok (.ireturn, 1) := by decide +kernel
theorem dL_addGroup_10 : decode cL_addGroup 10 = .ok (.astore 5, 2) := by decide +kernel
theorem dL_addGroup_12 : decode cL_addGroup 12 = .ok (.ldc 24, 2) := by decide +kernel
theorem dL_addGroup_14 : decode cL_addGroup 14 = .ok (.ireturn, 1) := by decide +kernel
theorem dL_addGroup_15 : decode cL_addGroup 15 = .ok (.astore 5, 2) := by decide +kernel
theorem dL_addGroup_17 : decode cL_addGroup 17 = .ok (.ldc 17, 2) := by decide +kernel
theorem dL_addGroup_19 : decode cL_addGroup 19 = .ok (.ireturn, 1) := by decide +kernel
theorem dL_addGroup_20 : decode cL_addGroup 20 = .ok (.astore 5, 2) := by decide +kernel
theorem dL_addGroup_22 : decode cL_addGroup 22 = .ok (.ldc 27, 2) := by decide +kernel
theorem dL_addGroup_24 : decode cL_addGroup 24 = .ok (.ireturn, 1) := by decide +kernel
theorem dL_addBox_0 : decode cL_addBox 0 = .ok (.aload_n 0, 1) := by decide +kernel
theorem dL_addBox_1 : decode cL_addBox 1 = .ok (.iload_n 1, 1) := by decide +kernel
theorem dL_addBox_2 : decode cL_addBox 2 = .ok (.iload_n 2, 1) := by decide +kernel
theorem dL_addBox_3 : decode cL_addBox 3 = .ok (.iload_n 3, 1) := by decide +kernel
theorem dL_addBox_4 : decode cL_addBox 4 = .ok (.iload 4, 2) := by decide +kernel
theorem dL_addBox_6 : decode cL_addBox 6 = .ok (.iload 5, 2) := by decide +kernel
theorem dL_addBox_8 : decode cL_addBox 8 = .ok (.iload 6, 2) := by decide +kernel
theorem dL_addBox_10 : decode cL_addBox 10 = .ok (.invokevirtual 28, 3) := by decide +kernel
theorem dL_addBox_13 : decode cL_addBox 13 = .ok (.ireturn, 1) := by decide +kernel
theorem dL_addBox_14 : decode cL_addBox 14 = .ok (.astore 7, 2) := by decide +kernel
theorem dL_addBox_16 : decode cL_addBox 16 = .ok (.ldc 24, 2) := by decide +kernel
theorem dL_addBox_18 : decode cL_addBox 18 = .ok (.ireturn, 1) := by decide +kernel
theorem dL_addBox_19 : decode cL_addBox 19 = .ok (.astore 7, 2) := by decide +kernel
theorem dL_addBox_21 : decode cL_addBox 21 = .ok (.ldc 17, 2) := by decide +kernel
theorem dL_addBox_23 : decode cL_addBox 23 = .ok (.ireturn, 1) := by decide +kernel
theorem dL_addBox_24 : decode cL_addBox 24 = .ok (.astore 7, 2) := by decide +kernel
theorem dL_addBox_26 : decode cL_addBox 26 = .ok (.ldc 27, 2) := by decide +kernel
theorem dL_addBox_28 : decode cL_addBox 28 = .ok (.ireturn, 1) := by decide +kernel
theorem dL_move_0 : decode cL_move 0 = .ok (.aload_n 0, 1) := by decide +kernel
theorem dL_move_1 : decode cL_move 1 = .ok (.iload_n 1, 1) := by decide +kernel
theorem dL_move_2 : decode cL_move 2 = .ok (.iload_n 2, 1) := by decide +kernel
theorem dL_move_3 : decode cL_move 3 = .ok (.iload_n 3, 1) := by decide +kernel
theorem dL_move_4 : decode cL_move 4 = .ok (.iload 4, 2) := by decide +kernel
theorem dL_move_6 : decode cL_move 6 = .ok (.invokevirtual 32, 3) := by decide +kernel
theorem dL_move_9 : decode cL_move 9 = .ok (.ireturn, 1) := by decide +kernel
theorem dL_move_10 : decode cL_move 10 = .ok (.astore 5, 2) := by decide +kernel
theorem dL_move_12 : decode cL_move 12 = .ok (.ldc 24, 2) := by decide +kernel
theorem dL_move_14 : decode cL_move 14 = .ok (.ireturn, 1) := by decide +kernel
theorem dL_move_15 : decode cL_move 15 = .ok (.astore 5, 2) := by decide +kernel
theorem dL_move_17 : decode cL_move 17 = .ok (.ldc 17, 2) := by decide +kernel
theorem dL_move_19 : decode cL_move 19 = .ok (.ireturn, 1) := by decide +kernel
theorem dL_setShade_0 : decode cL_setShade 0 = .ok (.aload_n 0, 1) := by decide +kernel
theorem dL_setShade_1 : decode cL_setShade 1 = .ok (.iload_n 1, 1) := by decide +kernel
theorem dL_setShade_2 : decode cL_setShade 2 = .ok (.iload_n 2, 1) := by decide +kernel
theorem dL_setShade_3 : decode cL_setShade 3 = .ok (.invokevirtual 35, 3) := by decide +kernel
theorem dL_setShade_6 : decode cL_setShade 6 = .ok (.ireturn, 1) := by decide +kernel
theorem dL_setShade_7 : decode cL_setShade 7 = .ok (.astore_n 3, 1) := by decide +kernel
theorem dL_setShade_8 : decode cL_setShade 8 = .ok (.ldc 24, 2) := by decide +kernel
theorem dL_setShade_10 : decode cL_setShade 10 = .ok (.ireturn, 1) := by decide +kernel
theorem dL_setShade_11 : decode cL_setShade 11 = .ok (.astore_n 3, 1) := by decide +kernel
theorem dL_setShade_12 : decode cL_setShade 12 = .ok (.ldc 17, 2) := by decide +kernel
theorem dL_setShade_14 : decode cL_setShade 14 = .ok (.ireturn, 1) := by decide +kernel
theorem dL_removeNode_0 : decode cL_removeNode 0 = .ok (.aload_n 0, 1) := by decide +kernel
theorem dL_removeNode_1 : decode cL_removeNode 1 = .ok (.iload_n 1, 1) := by decide +kernel
theorem dL_removeNode_2 : decode cL_removeNode 2 = .ok (.invokevirtual 38, 3) := by decide +kernel
theorem dL_removeNode_5 : decode cL_removeNode 5 = .ok (.ireturn, 1) := by decide +kernel
theorem dL_removeNode_6 : decode cL_removeNode 6 = .ok (.astore_n 2, 1) := by decide +kernel
theorem dL_removeNode_7 : decode cL_removeNode 7 = .ok (.ldc 24, 2) := by decide +kernel
theorem dL_removeNode_9 : decode cL_removeNode 9 = .ok (.ireturn, 1) := by decide +kernel
theorem dL_addScene_0 : decode cL_addScene 0 = .ok (.aload_n 0, 1) := by decide +kernel
theorem dL_addScene_1 : decode cL_addScene 1 = .ok (.iload_n 1, 1) := by decide +kernel
theorem dL_addScene_2 : decode cL_addScene 2 = .ok (.iload_n 2, 1) := by decide +kernel
theorem dL_addScene_3 : decode cL_addScene 3 = .ok (.iload_n 3, 1) := by decide +kernel
theorem dL_addScene_4 : decode cL_addScene 4 = .ok (.invokevirtual 42, 3) := by decide +kernel
theorem dL_addScene_7 : decode cL_addScene 7 = .ok (.ireturn, 1) := by decide +kernel
theorem dL_addScene_8 : decode cL_addScene 8 = .ok (.astore 4, 2) := by decide +kernel
theorem dL_addScene_10 : decode cL_addScene 10 = .ok (.ldc 17, 2) := by decide +kernel
theorem dL_addScene_12 : decode cL_addScene 12 = .ok (.ireturn, 1) := by decide +kernel
theorem dL_addScene_13 : decode cL_addScene 13 = .ok (.astore 4, 2) := by decide +kernel
theorem dL_addScene_15 : decode cL_addScene 15 = .ok (.ldc 27, 2) := by decide +kernel
theorem dL_addScene_17 : decode cL_addScene 17 = .ok (.ireturn, 1) := by decide +kernel
theorem dL_set_0 : decode cL_set 0 = .ok (.aload_n 0, 1) := by decide +kernel
theorem dL_set_1 : decode cL_set 1 = .ok (.iload_n 1, 1) := by decide +kernel
theorem dL_set_2 : decode cL_set 2 = .ok (.iload_n 2, 1) := by decide +kernel
theorem dL_set_3 : decode cL_set 3 = .ok (.invokevirtual 46, 3) := by decide +kernel
theorem dL_set_6 : decode cL_set 6 = .ok (.ireturn, 1) := by decide +kernel
theorem dL_set_7 : decode cL_set 7 = .ok (.astore_n 3, 1) := by decide +kernel
theorem dL_set_8 : decode cL_set 8 = .ok (.ldc 17, 2) := by decide +kernel
theorem dL_set_10 : decode cL_set 10 = .ok (.ireturn, 1) := by decide +kernel
theorem dL_setTitle_0 : decode cL_setTitle 0 = .ok (.aload_n 0, 1) := by decide +kernel
theorem dL_setTitle_1 : decode cL_setTitle 1 = .ok (.iload_n 1, 1) := by decide +kernel
theorem dL_setTitle_2 : decode cL_setTitle 2 = .ok (.iload_n 2, 1) := by decide +kernel
theorem dL_setTitle_3 : decode cL_setTitle 3 = .ok (.iload_n 3, 1) := by decide +kernel
theorem dL_setTitle_4 : decode cL_setTitle 4 = .ok (.invokevirtual 49, 3) := by decide +kernel
theorem dL_setTitle_7 : decode cL_setTitle 7 = .ok (.ireturn, 1) := by decide +kernel
theorem dL_setTitle_8 : decode cL_setTitle 8 = .ok (.astore 4, 2) := by decide +kernel
theorem dL_setTitle_10 : decode cL_setTitle 10 = .ok (.ldc 17, 2) := by decide +kernel
theorem dL_setTitle_12 : decode cL_setTitle 12 = .ok (.ireturn, 1) := by decide +kernel
theorem dL_tick_0 : decode cL_tick 0 = .ok (.aload_n 0, 1) := by decide +kernel
theorem dL_tick_1 : decode cL_tick 1 = .ok (.iload_n 1, 1) := by decide +kernel
theorem dL_tick_2 : decode cL_tick 2 = .ok (.invokevirtual 52, 3) := by decide +kernel
theorem dL_tick_5 : decode cL_tick 5 = .ok (.ireturn, 1) := by decide +kernel
theorem dL_tick_6 : decode cL_tick 6 = .ok (.astore_n 2, 1) := by decide +kernel
theorem dL_tick_7 : decode cL_tick 7 = .ok (.ldc 17, 2) := by decide +kernel
theorem dL_tick_9 : decode cL_tick 9 = .ok (.ireturn, 1) := by decide +kernel
theorem dL_node_0 : decode cL_node 0 = .ok (.aload_n 0, 1) := by decide +kernel
theorem dL_node_1 : decode cL_node 1 = .ok (.iload_n 1, 1) := by decide +kernel
theorem dL_node_2 : decode cL_node 2 = .ok (.iload_n 2, 1) := by decide +kernel
theorem dL_node_3 : decode cL_node 3 = .ok (.invokevirtual 55, 3) := by decide +kernel
theorem dL_node_6 : decode cL_node 6 = .ok (.ireturn, 1) := by decide +kernel
theorem dL_node_7 : decode cL_node 7 = .ok (.astore_n 3, 1) := by decide +kernel
theorem dL_node_8 : decode cL_node 8 = .ok (.ldc 24, 2) := by decide +kernel
theorem dL_node_10 : decode cL_node 10 = .ok (.ireturn, 1) := by decide +kernel
theorem dL_node_11 : decode cL_node 11 = .ok (.astore_n 3, 1) := by decide +kernel
theorem dL_node_12 : decode cL_node 12 = .ok (.ldc 17, 2) := by decide +kernel
theorem dL_node_14 : decode cL_node 14 = .ok (.ireturn, 1) := by decide +kernel
theorem dL_painted_0 : decode cL_painted 0 = .ok (.aload_n 0, 1) := by decide +kernel
theorem dL_painted_1 : decode cL_painted 1 = .ok (.iload_n 1, 1) := by decide +kernel
theorem dL_painted_2 : decode cL_painted 2 = .ok (.invokevirtual 58, 3) := by decide +kernel
theorem dL_painted_5 : decode cL_painted 5 = .ok (.ireturn, 1) := by decide +kernel
theorem dL_painted_6 : decode cL_painted 6 = .ok (.astore_n 2, 1) := by decide +kernel
theorem dL_painted_7 : decode cL_painted 7 = .ok (.ldc 17, 2) := by decide +kernel
theorem dL_painted_9 : decode cL_painted 9 = .ok (.ireturn, 1) := by decide +kernel
theorem dL_scene_0 : decode cL_scene 0 = .ok (.aload_n 0, 1) := by decide +kernel
theorem dL_scene_1 : decode cL_scene 1 = .ok (.iload_n 1, 1) := by decide +kernel
theorem dL_scene_2 : decode cL_scene 2 = .ok (.iload_n 2, 1) := by decide +kernel
theorem dL_scene_3 : decode cL_scene 3 = .ok (.invokevirtual 61, 3) := by decide +kernel
theorem dL_scene_6 : decode cL_scene 6 = .ok (.ireturn, 1) := by decide +kernel
theorem dL_scene_7 : decode cL_scene 7 = .ok (.astore_n 3, 1) := by decide +kernel
theorem dL_scene_8 : decode cL_scene 8 = .ok (.ldc 24, 2) := by decide +kernel
theorem dL_scene_10 : decode cL_scene 10 = .ok (.ireturn, 1) := by decide +kernel
theorem dL_scene_11 : decode cL_scene 11 = .ok (.astore_n 3, 1) := by decide +kernel
theorem dL_scene_12 : decode cL_scene 12 = .ok (.ldc 17, 2) := by decide +kernel
theorem dL_scene_14 : decode cL_scene 14 = .ok (.ireturn, 1) := by decide +kernel
theorem dL_title_0 : decode cL_title 0 = .ok (.aload_n 0, 1) := by decide +kernel
theorem dL_title_1 : decode cL_title 1 = .ok (.iload_n 1, 1) := by decide +kernel
theorem dL_title_2 : decode cL_title 2 = .ok (.invokevirtual 64, 3) := by decide +kernel
theorem dL_title_5 : decode cL_title 5 = .ok (.ireturn, 1) := by decide +kernel
theorem dL_title_6 : decode cL_title 6 = .ok (.astore_n 2, 1) := by decide +kernel
theorem dL_title_7 : decode cL_title 7 = .ok (.ldc 17, 2) := by decide +kernel
theorem dL_title_9 : decode cL_title 9 = .ok (.ireturn, 1) := by decide +kernel
theorem dL_whole_0 : decode cL_whole 0 = .ok (.aload_n 0, 1) := by decide +kernel
theorem dL_whole_1 : decode cL_whole 1 = .ok (.iload_n 1, 1) := by decide +kernel
theorem dL_whole_2 : decode cL_whole 2 = .ok (.invokevirtual 67, 3) := by decide +kernel
theorem dL_whole_5 : decode cL_whole 5 = .ok (.ireturn, 1) := by decide +kernel
theorem dL_whole_6 : decode cL_whole 6 = .ok (.astore_n 2, 1) := by decide +kernel
theorem dL_whole_7 : decode cL_whole 7 = .ok (.ldc 17, 2) := by decide +kernel
theorem dL_whole_9 : decode cL_whole 9 = .ok (.ireturn, 1) := by decide +kernel
theorem dL_shade_0 : decode cL_shade 0 = .ok (.aload_n 0, 1) := by decide +kernel
theorem dL_shade_1 : decode cL_shade 1 = .ok (.iload_n 1, 1) := by decide +kernel
theorem dL_shade_2 : decode cL_shade 2 = .ok (.iload_n 2, 1) := by decide +kernel
theorem dL_shade_3 : decode cL_shade 3 = .ok (.iload_n 3, 1) := by decide +kernel
theorem dL_shade_4 : decode cL_shade 4 = .ok (.invokevirtual 70, 3) := by decide +kernel
theorem dL_shade_7 : decode cL_shade 7 = .ok (.ireturn, 1) := by decide +kernel
theorem dL_shade_8 : decode cL_shade 8 = .ok (.astore 4, 2) := by decide +kernel
theorem dL_shade_10 : decode cL_shade 10 = .ok (.ldc 24, 2) := by decide +kernel
theorem dL_shade_12 : decode cL_shade 12 = .ok (.ireturn, 1) := by decide +kernel
theorem dL_shown_0 : decode cL_shown 0 = .ok (.aload_n 0, 1) := by decide +kernel
theorem dL_shown_1 : decode cL_shown 1 = .ok (.iload_n 1, 1) := by decide +kernel
theorem dL_shown_2 : decode cL_shown 2 = .ok (.iload_n 2, 1) := by decide +kernel
theorem dL_shown_3 : decode cL_shown 3 = .ok (.iload_n 3, 1) := by decide +kernel
theorem dL_shown_4 : decode cL_shown 4 = .ok (.invokevirtual 74, 3) := by decide +kernel
theorem dL_shown_7 : decode cL_shown 7 = .ok (.ireturn, 1) := by decide +kernel
theorem dL_shown_8 : decode cL_shown 8 = .ok (.astore 4, 2) := by decide +kernel
theorem dL_shown_10 : decode cL_shown 10 = .ok (.ldc 24, 2) := by decide +kernel
theorem dL_shown_12 : decode cL_shown 12 = .ok (.ireturn, 1) := by decide +kernel
theorem dL_ghost_0 : decode cL_ghost 0 = .ok (.aload_n 0, 1) := by decide +kernel
theorem dL_ghost_1 : decode cL_ghost 1 = .ok (.iload_n 1, 1) := by decide +kernel
theorem dL_ghost_2 : decode cL_ghost 2 = .ok (.iload_n 2, 1) := by decide +kernel
theorem dL_ghost_3 : decode cL_ghost 3 = .ok (.invokevirtual 77, 3) := by decide +kernel
theorem dL_ghost_6 : decode cL_ghost 6 = .ok (.ireturn, 1) := by decide +kernel
theorem dL_ghost_7 : decode cL_ghost 7 = .ok (.astore_n 3, 1) := by decide +kernel
theorem dL_ghost_8 : decode cL_ghost 8 = .ok (.ldc 24, 2) := by decide +kernel
theorem dL_ghost_10 : decode cL_ghost 10 = .ok (.ireturn, 1) := by decide +kernel
theorem dL_ghosts_0 : decode cL_ghosts 0 = .ok (.aload_n 0, 1) := by decide +kernel
theorem dL_ghosts_1 : decode cL_ghosts 1 = .ok (.iload_n 1, 1) := by decide +kernel
theorem dL_ghosts_2 : decode cL_ghosts 2 = .ok (.invokevirtual 80, 3) := by decide +kernel
theorem dL_ghosts_5 : decode cL_ghosts 5 = .ok (.ireturn, 1) := by decide +kernel
theorem dL_ghosts_6 : decode cL_ghosts 6 = .ok (.astore_n 2, 1) := by decide +kernel
theorem dL_ghosts_7 : decode cL_ghosts 7 = .ok (.ldc 17, 2) := by decide +kernel
theorem dL_ghosts_9 : decode cL_ghosts 9 = .ok (.ireturn, 1) := by decide +kernel
theorem dL_meanGhost_0 : decode cL_meanGhost 0 = .ok (.aload_n 0, 1) := by decide +kernel
theorem dL_meanGhost_1 : decode cL_meanGhost 1 = .ok (.iload_n 1, 1) := by decide +kernel
theorem dL_meanGhost_2 : decode cL_meanGhost 2 = .ok (.invokevirtual 83, 3) := by decide +kernel
theorem dL_meanGhost_5 : decode cL_meanGhost 5 = .ok (.dreturn, 1) := by decide +kernel
theorem dL_meanGhost_6 : decode cL_meanGhost 6 = .ok (.astore_n 2, 1) := by decide +kernel
theorem dL_meanGhost_7 : decode cL_meanGhost 7 = .ok (.ldc2_w 87, 3) := by decide +kernel
theorem dL_meanGhost_10 : decode cL_meanGhost 10 = .ok (.dreturn, 1) := by decide +kernel
theorem dL_percentageFor_0 : decode cL_percentageFor 0 = .ok (.aload_n 0, 1) := by decide +kernel
theorem dL_percentageFor_1 : decode cL_percentageFor 1 = .ok (.iload_n 1, 1) := by decide +kernel
theorem dL_percentageFor_2 : decode cL_percentageFor 2 = .ok (.iload_n 2, 1) := by decide +kernel
theorem dL_percentageFor_3 : decode cL_percentageFor 3 = .ok (.invokevirtual 89, 3) := by decide +kernel
theorem dL_percentageFor_6 : decode cL_percentageFor 6 = .ok (.ireturn, 1) := by decide +kernel
theorem dL_percentageFor_7 : decode cL_percentageFor 7 = .ok (.astore_n 3, 1) := by decide +kernel
theorem dL_percentageFor_8 : decode cL_percentageFor 8 = .ok (.ldc 17, 2) := by decide +kernel
theorem dL_percentageFor_10 : decode cL_percentageFor 10 = .ok (.ireturn, 1) := by decide +kernel
theorem dL_fullAfter_0 : decode cL_fullAfter 0 = .ok (.aload_n 0, 1) := by decide +kernel
theorem dL_fullAfter_1 : decode cL_fullAfter 1 = .ok (.iload_n 1, 1) := by decide +kernel
theorem dL_fullAfter_2 : decode cL_fullAfter 2 = .ok (.invokevirtual 92, 3) := by decide +kernel
theorem dL_fullAfter_5 : decode cL_fullAfter 5 = .ok (.ireturn, 1) := by decide +kernel
theorem dL_fullAfter_6 : decode cL_fullAfter 6 = .ok (.astore_n 2, 1) := by decide +kernel
theorem dL_fullAfter_7 : decode cL_fullAfter 7 = .ok (.ldc 17, 2) := by decide +kernel
theorem dL_fullAfter_9 : decode cL_fullAfter 9 = .ok (.ireturn, 1) := by decide +kernel
theorem dL_ghostsWithout_0 : decode cL_ghostsWithout 0 = .ok (.aload_n 0, 1) := by decide +kernel
theorem dL_ghostsWithout_1 : decode cL_ghostsWithout 1 = .ok (.iload_n 1, 1) := by decide +kernel
theorem dL_ghostsWithout_2 : decode cL_ghostsWithout 2 = .ok (.iload_n 2, 1) := by decide +kernel
theorem dL_ghostsWithout_3 : decode cL_ghostsWithout 3 = .ok (.invokevirtual 95, 3) := by decide +kernel
theorem dL_ghostsWithout_6 : decode cL_ghostsWithout 6 = .ok (.ireturn, 1) := by decide +kernel
theorem dL_ghostsWithout_7 : decode cL_ghostsWithout 7 = .ok (.astore_n 3, 1) := by decide +kernel
theorem dL_ghostsWithout_8 : decode cL_ghostsWithout 8 = .ok (.ldc 24, 2) := by decide +kernel
theorem dL_ghostsWithout_10 : decode cL_ghostsWithout 10 = .ok (.ireturn, 1) := by decide +kernel
theorem dL_ghostsWithout_11 : decode cL_ghostsWithout 11 = .ok (.astore_n 3, 1) := by decide +kernel
theorem dL_ghostsWithout_12 : decode cL_ghostsWithout 12 = .ok (.ldc 17, 2) := by decide +kernel
theorem dL_ghostsWithout_14 : decode cL_ghostsWithout 14 = .ok (.ireturn, 1) := by decide +kernel
theorem dL_type_0 : decode cL_type 0 = .ok (.aload_n 0, 1) := by decide +kernel
theorem dL_type_1 : decode cL_type 1 = .ok (.iload_n 1, 1) := by decide +kernel
theorem dL_type_2 : decode cL_type 2 = .ok (.invokevirtual 98, 3) := by decide +kernel
theorem dL_type_5 : decode cL_type 5 = .ok (.ireturn, 1) := by decide +kernel
theorem dL_type_6 : decode cL_type 6 = .ok (.astore_n 2, 1) := by decide +kernel
theorem dL_type_7 : decode cL_type 7 = .ok (.ldc 17, 2) := by decide +kernel
theorem dL_type_9 : decode cL_type 9 = .ok (.ireturn, 1) := by decide +kernel
theorem dL_type_10 : decode cL_type 10 = .ok (.astore_n 2, 1) := by decide +kernel
theorem dL_type_11 : decode cL_type 11 = .ok (.ldc 27, 2) := by decide +kernel
theorem dL_type_13 : decode cL_type 13 = .ok (.ireturn, 1) := by decide +kernel
theorem dL_undo_0 : decode cL_undo 0 = .ok (.aload_n 0, 1) := by decide +kernel
theorem dL_undo_1 : decode cL_undo 1 = .ok (.invokevirtual 101, 3) := by decide +kernel
theorem dL_undo_4 : decode cL_undo 4 = .ok (.ireturn, 1) := by decide +kernel
theorem dL_undo_5 : decode cL_undo 5 = .ok (.astore_n 1, 1) := by decide +kernel
theorem dL_undo_6 : decode cL_undo 6 = .ok (.ldc 27, 2) := by decide +kernel
theorem dL_undo_8 : decode cL_undo 8 = .ok (.ireturn, 1) := by decide +kernel
theorem dL_sound_0 : decode cL_sound 0 = .ok (.aload_n 0, 1) := by decide +kernel
theorem dL_sound_1 : decode cL_sound 1 = .ok (.iconst 2, 1) := by decide +kernel
theorem dL_sound_2 : decode cL_sound 2 = .ok (.invokestatic 105, 3) := by decide +kernel
theorem dL_sound_5 : decode cL_sound 5 = .ok (.istore_n 1, 1) := by decide +kernel
theorem dL_sound_6 : decode cL_sound 6 = .ok (.iconst 0, 1) := by decide +kernel
theorem dL_sound_7 : decode cL_sound 7 = .ok (.istore_n 2, 1) := by decide +kernel
theorem dL_sound_8 : decode cL_sound 8 = .ok (.aload_n 0, 1) := by decide +kernel
theorem dL_sound_9 : decode cL_sound 9 = .ok (.bipush 7, 2) := by decide +kernel
theorem dL_sound_11 : decode cL_sound 11 = .ok (.invokestatic 105, 3) := by decide +kernel
theorem dL_sound_14 : decode cL_sound 14 = .ok (.istore_n 3, 1) := by decide +kernel
theorem dL_sound_15 : decode cL_sound 15 = .ok (.aload_n 0, 1) := by decide +kernel
theorem dL_sound_16 : decode cL_sound 16 = .ok (.bipush 8, 2) := by decide +kernel
theorem dL_sound_18 : decode cL_sound 18 = .ok (.invokestatic 105, 3) := by decide +kernel
theorem dL_sound_21 : decode cL_sound 21 = .ok (.istore 4, 2) := by decide +kernel
theorem dL_sound_23 : decode cL_sound 23 = .ok (.aload_n 0, 1) := by decide +kernel
theorem dL_sound_24 : decode cL_sound 24 = .ok (.bipush 9, 2) := by decide +kernel
theorem dL_sound_26 : decode cL_sound 26 = .ok (.invokestatic 105, 3) := by decide +kernel
theorem dL_sound_29 : decode cL_sound 29 = .ok (.istore 5, 2) := by decide +kernel
theorem dL_sound_31 : decode cL_sound 31 = .ok (.iload 5, 2) := by decide +kernel
theorem dL_sound_33 : decode cL_sound 33 = .ok (.bipush 100, 2) := by decide +kernel
theorem dL_sound_35 : decode cL_sound 35 = .ok (.if_icmp .ge 7, 3) := by decide +kernel
theorem dL_sound_38 : decode cL_sound 38 = .ok (.iconst 1, 1) := by decide +kernel
theorem dL_sound_39 : decode cL_sound 39 = .ok (.goto 4, 3) := by decide +kernel
theorem dL_sound_42 : decode cL_sound 42 = .ok (.iconst 0, 1) := by decide +kernel
theorem dL_sound_43 : decode cL_sound 43 = .ok (.istore 6, 2) := by decide +kernel
theorem dL_sound_45 : decode cL_sound 45 = .ok (.iconst 1, 1) := by decide +kernel
theorem dL_sound_46 : decode cL_sound 46 = .ok (.istore 7, 2) := by decide +kernel
theorem dL_sound_48 : decode cL_sound 48 = .ok (.iconst 0, 1) := by decide +kernel
theorem dL_sound_49 : decode cL_sound 49 = .ok (.istore 8, 2) := by decide +kernel
theorem dL_sound_51 : decode cL_sound 51 = .ok (.iload 8, 2) := by decide +kernel
theorem dL_sound_53 : decode cL_sound 53 = .ok (.iload_n 1, 1) := by decide +kernel
theorem dL_sound_54 : decode cL_sound 54 = .ok (.if_icmp .ge 398, 3) := by decide +kernel
theorem dL_sound_57 : decode cL_sound 57 = .ok (.aload_n 0, 1) := by decide +kernel
theorem dL_sound_58 : decode cL_sound 58 = .ok (.iload 8, 2) := by decide +kernel
theorem dL_sound_60 : decode cL_sound 60 = .ok (.iconst 0, 1) := by decide +kernel
theorem dL_sound_61 : decode cL_sound 61 = .ok (.invokestatic 110, 3) := by decide +kernel
theorem dL_sound_64 : decode cL_sound 64 = .ok (.istore 9, 2) := by decide +kernel
theorem dL_sound_66 : decode cL_sound 66 = .ok (.iconst 0, 1) := by decide +kernel
theorem dL_sound_67 : decode cL_sound 67 = .ok (.istore 10, 2) := by decide +kernel
theorem dL_sound_69 : decode cL_sound 69 = .ok (.iload 10, 2) := by decide +kernel
theorem dL_sound_71 : decode cL_sound 71 = .ok (.iconst 3, 1) := by decide +kernel
theorem dL_sound_72 : decode cL_sound 72 = .ok (.if_icmp .ge 57, 3) := by decide +kernel
theorem dL_sound_75 : decode cL_sound 75 = .ok (.aload_n 0, 1) := by decide +kernel
theorem dL_sound_76 : decode cL_sound 76 = .ok (.iload 8, 2) := by decide +kernel
theorem dL_sound_78 : decode cL_sound 78 = .ok (.iconst 4, 1) := by decide +kernel
theorem dL_sound_79 : decode cL_sound 79 = .ok (.iload 10, 2) := by decide +kernel
theorem dL_sound_81 : decode cL_sound 81 = .ok (.iadd, 1) := by decide +kernel
theorem dL_sound_82 : decode cL_sound 82 = .ok (.invokestatic 110, 3) := by decide +kernel
theorem dL_sound_85 : decode cL_sound 85 = .ok (.aload_n 0, 1) := by decide +kernel
theorem dL_sound_86 : decode cL_sound 86 = .ok (.iload 8, 2) := by decide +kernel
theorem dL_sound_88 : decode cL_sound 88 = .ok (.iconst 1, 1) := by decide +kernel
theorem dL_sound_89 : decode cL_sound 89 = .ok (.iload 10, 2) := by decide +kernel
theorem dL_sound_91 : decode cL_sound 91 = .ok (.iadd, 1) := by decide +kernel
theorem dL_sound_92 : decode cL_sound 92 = .ok (.invokestatic 110, 3) := by decide +kernel
theorem dL_sound_95 : decode cL_sound 95 = .ok (.iload 9, 2) := by decide +kernel
theorem dL_sound_97 : decode cL_sound 97 = .ok (.sipush (-1000), 3) := by decide +kernel
theorem dL_sound_100 : decode cL_sound 100 = .ok (.if_icmp .ne 7, 3) := by decide +kernel
theorem dL_sound_103 : decode cL_sound 103 = .ok (.iconst 0, 1) := by decide +kernel
theorem dL_sound_104 : decode cL_sound 104 = .ok (.goto 13, 3) := by decide +kernel
theorem dL_sound_107 : decode cL_sound 107 = .ok (.aload_n 0, 1) := by decide +kernel
theorem dL_sound_108 : decode cL_sound 108 = .ok (.iload 9, 2) := by decide +kernel
theorem dL_sound_110 : decode cL_sound 110 = .ok (.iconst 4, 1) := by decide +kernel
theorem dL_sound_111 : decode cL_sound 111 = .ok (.iload 10, 2) := by decide +kernel
theorem dL_sound_113 : decode cL_sound 113 = .ok (.iadd, 1) := by decide +kernel
theorem dL_sound_114 : decode cL_sound 114 = .ok (.invokestatic 110, 3) := by decide +kernel
theorem dL_sound_117 : decode cL_sound 117 = .ok (.iadd, 1) := by decide +kernel
theorem dL_sound_118 : decode cL_sound 118 = .ok (.if_icmp .eq 5, 3) := by decide +kernel
theorem dL_sound_121 : decode cL_sound 121 = .ok (.iconst 0, 1) := by decide +kernel
theorem dL_sound_122 : decode cL_sound 122 = .ok (.ireturn, 1) := by decide +kernel
theorem dL_sound_123 : decode cL_sound 123 = .ok (.iinc 10 1, 3) := by decide +kernel
theorem dL_sound_126 : decode cL_sound 126 = .ok (.goto (-57), 3) := by decide +kernel
theorem dL_sound_129 : decode cL_sound 129 = .ok (.iload 9, 2) := by decide +kernel
theorem dL_sound_131 : decode cL_sound 131 = .ok (.sipush (-1000), 3) := by decide +kernel
theorem dL_sound_134 : decode cL_sound 134 = .ok (.if_icmp .eq 29, 3) := by decide +kernel
theorem dL_sound_137 : decode cL_sound 137 = .ok (.iload 9, 2) := by decide +kernel
theorem dL_sound_139 : decode cL_sound 139 = .ok (.ifCond .lt 69, 3) := by decide +kernel
theorem dL_sound_142 : decode cL_sound 142 = .ok (.iload 9, 2) := by decide +kernel
theorem dL_sound_144 : decode cL_sound 144 = .ok (.iload 8, 2) := by decide +kernel
theorem dL_sound_146 : decode cL_sound 146 = .ok (.if_icmp .ge 62, 3) := by decide +kernel
theorem dL_sound_149 : decode cL_sound 149 = .ok (.aload_n 0, 1) := by decide +kernel
theorem dL_sound_150 : decode cL_sound 150 = .ok (.iload 9, 2) := by decide +kernel
theorem dL_sound_152 : decode cL_sound 152 = .ok (.bipush 9, 2) := by decide +kernel
theorem dL_sound_154 : decode cL_sound 154 = .ok (.invokestatic 110, 3) := by decide +kernel
theorem dL_sound_157 : decode cL_sound 157 = .ok (.sipush (-1000), 3) := by decide +kernel
theorem dL_sound_160 : decode cL_sound 160 = .ok (.if_icmp .ne 48, 3) := by decide +kernel
theorem dL_sound_163 : decode cL_sound 163 = .ok (.aload_n 0, 1) := by decide +kernel
theorem dL_sound_164 : decode cL_sound 164 = .ok (.iload 8, 2) := by decide +kernel
theorem dL_sound_166 : decode cL_sound 166 = .ok (.bipush 7, 2) := by decide +kernel
theorem dL_sound_168 : decode cL_sound 168 = .ok (.invokestatic 110, 3) := by decide +kernel
theorem dL_sound_171 : decode cL_sound 171 = .ok (.iload 9, 2) := by decide +kernel
theorem dL_sound_173 : decode cL_sound 173 = .ok (.sipush (-1000), 3) := by decide +kernel
theorem dL_sound_176 : decode cL_sound 176 = .ok (.if_icmp .ne 7, 3) := by decide +kernel
theorem dL_sound_179 : decode cL_sound 179 = .ok (.iconst 0, 1) := by decide +kernel
theorem dL_sound_180 : decode cL_sound 180 = .ok (.goto 13, 3) := by decide +kernel
theorem dL_sound_183 : decode cL_sound 183 = .ok (.aload_n 0, 1) := by decide +kernel
theorem dL_sound_184 : decode cL_sound 184 = .ok (.iload 9, 2) := by decide +kernel
theorem dL_sound_186 : decode cL_sound 186 = .ok (.bipush 7, 2) := by decide +kernel
theorem dL_sound_188 : decode cL_sound 188 = .ok (.invokestatic 110, 3) := by decide +kernel
theorem dL_sound_191 : decode cL_sound 191 = .ok (.iconst 1, 1) := by decide +kernel
theorem dL_sound_192 : decode cL_sound 192 = .ok (.iadd, 1) := by decide +kernel
theorem dL_sound_193 : decode cL_sound 193 = .ok (.if_icmp .ne 15, 3) := by decide +kernel
theorem dL_sound_196 : decode cL_sound 196 = .ok (.aload_n 0, 1) := by decide +kernel
theorem dL_sound_197 : decode cL_sound 197 = .ok (.iload 8, 2) := by decide +kernel
theorem dL_sound_199 : decode cL_sound 199 = .ok (.bipush 7, 2) := by decide +kernel
theorem dL_sound_201 : decode cL_sound 201 = .ok (.invokestatic 110, 3) := by decide +kernel
theorem dL_sound_204 : decode cL_sound 204 = .ok (.iconst 5, 1) := by decide +kernel
theorem dL_sound_205 : decode cL_sound 205 = .ok (.if_icmp .le 5, 3) := by decide +kernel
theorem dL_sound_208 : decode cL_sound 208 = .ok (.iconst 0, 1) := by decide +kernel
theorem dL_sound_209 : decode cL_sound 209 = .ok (.ireturn, 1) := by decide +kernel
theorem dL_sound_210 : decode cL_sound 210 = .ok (.aload_n 0, 1) := by decide +kernel
theorem dL_sound_211 : decode cL_sound 211 = .ok (.iload 8, 2) := by decide +kernel
theorem dL_sound_213 : decode cL_sound 213 = .ok (.bipush 9, 2) := by decide +kernel
theorem dL_sound_215 : decode cL_sound 215 = .ok (.invokestatic 110, 3) := by decide +kernel
theorem dL_sound_218 : decode cL_sound 218 = .ok (.sipush (-1000), 3) := by decide +kernel
theorem dL_sound_221 : decode cL_sound 221 = .ok (.if_icmp .ne 6, 3) := by decide +kernel
theorem dL_sound_224 : decode cL_sound 224 = .ok (.goto 222, 3) := by decide +kernel
theorem dL_sound_227 : decode cL_sound 227 = .ok (.iinc 2 1, 3) := by decide +kernel
theorem dL_sound_230 : decode cL_sound 230 = .ok (.aload_n 0, 1) := by decide +kernel
theorem dL_sound_231 : decode cL_sound 231 = .ok (.iload 8, 2) := by decide +kernel
theorem dL_sound_233 : decode cL_sound 233 = .ok (.bipush 12, 2) := by decide +kernel
theorem dL_sound_235 : decode cL_sound 235 = .ok (.invokestatic 110, 3) := by decide +kernel
theorem dL_sound_238 : decode cL_sound 238 = .ok (.istore 10, 2) := by decide +kernel
theorem dL_sound_240 : decode cL_sound 240 = .ok (.aload_n 0, 1) := by decide +kernel
theorem dL_sound_241 : decode cL_sound 241 = .ok (.iload 8, 2) := by decide +kernel
theorem dL_sound_243 : decode cL_sound 243 = .ok (.bipush 13, 2) := by decide +kernel
theorem dL_sound_245 : decode cL_sound 245 = .ok (.invokestatic 110, 3) := by decide +kernel
theorem dL_sound_248 : decode cL_sound 248 = .ok (.istore 11, 2) := by decide +kernel
theorem dL_sound_250 : decode cL_sound 250 = .ok (.iload 10, 2) := by decide +kernel
theorem dL_sound_252 : decode cL_sound 252 = .ok (.iload 5, 2) := by decide +kernel
theorem dL_sound_254 : decode cL_sound 254 = .ok (.iconst 1, 1) := by decide +kernel
theorem dL_sound_255 : decode cL_sound 255 = .ok (.iadd, 1) := by decide +kernel
theorem dL_sound_256 : decode cL_sound 256 = .ok (.imul, 1) := by decide +kernel
theorem dL_sound_257 : decode cL_sound 257 = .ok (.istore 12, 2) := by decide +kernel
theorem dL_sound_259 : decode cL_sound 259 = .ok (.iload 12, 2) := by decide +kernel
theorem dL_sound_261 : decode cL_sound 261 = .ok (.ifCond .lt 11, 3) := by decide +kernel
theorem dL_sound_264 : decode cL_sound 264 = .ok (.iload 12, 2) := by decide +kernel
theorem dL_sound_266 : decode cL_sound 266 = .ok (.bipush 100, 2) := by decide +kernel
theorem dL_sound_268 : decode cL_sound 268 = .ok (.idiv, 1) := by decide +kernel
theorem dL_sound_269 : decode cL_sound 269 = .ok (.goto 12, 3) := by decide +kernel
theorem dL_sound_272 : decode cL_sound 272 = .ok (.bipush 99, 2) := by decide +kernel
theorem dL_sound_274 : decode cL_sound 274 = .ok (.iload 12, 2) := by decide +kernel
theorem dL_sound_276 : decode cL_sound 276 = .ok (.isub, 1) := by decide +kernel
theorem dL_sound_277 : decode cL_sound 277 = .ok (.bipush 100, 2) := by decide +kernel
theorem dL_sound_279 : decode cL_sound 279 = .ok (.idiv, 1) := by decide +kernel
theorem dL_sound_280 : decode cL_sound 280 = .ok (.ineg, 1) := by decide +kernel
theorem dL_sound_281 : decode cL_sound 281 = .ok (.istore 12, 2) := by decide +kernel
theorem dL_sound_283 : decode cL_sound 283 = .ok (.iload 7, 2) := by decide +kernel
theorem dL_sound_285 : decode cL_sound 285 = .ok (.ifCond .eq 20, 3) := by decide +kernel
theorem dL_sound_288 : decode cL_sound 288 = .ok (.iload 12, 2) := by decide +kernel
theorem dL_sound_290 : decode cL_sound 290 = .ok (.iload_n 3, 1) := by decide +kernel
theorem dL_sound_291 : decode cL_sound 291 = .ok (.if_icmp .lt 14, 3) := by decide +kernel
theorem dL_sound_294 : decode cL_sound 294 = .ok (.iload 12, 2) := by decide +kernel
theorem dL_sound_296 : decode cL_sound 296 = .ok (.iload 4, 2) := by decide +kernel
theorem dL_sound_298 : decode cL_sound 298 = .ok (.if_icmp .gt 7, 3) := by decide +kernel
theorem dL_sound_301 : decode cL_sound 301 = .ok (.iconst 1, 1) := by decide +kernel
theorem dL_sound_302 : decode cL_sound 302 = .ok (.goto 4, 3) := by decide +kernel
theorem dL_sound_305 : decode cL_sound 305 = .ok (.iconst 0, 1) := by decide +kernel
theorem dL_sound_306 : decode cL_sound 306 = .ok (.istore 7, 2) := by decide +kernel
theorem dL_sound_308 : decode cL_sound 308 = .ok (.aload_n 0, 1) := by decide +kernel
theorem dL_sound_309 : decode cL_sound 309 = .ok (.iload 8, 2) := by decide +kernel
theorem dL_sound_311 : decode cL_sound 311 = .ok (.bipush 8, 2) := by decide +kernel
theorem dL_sound_313 : decode cL_sound 313 = .ok (.invokestatic 110, 3) := by decide +kernel
theorem dL_sound_316 : decode cL_sound 316 = .ok (.ifCond .ne 128, 3) := by decide +kernel
theorem dL_sound_319 : decode cL_sound 319 = .ok (.iload 11, 2) := by decide +kernel
theorem dL_sound_321 : decode cL_sound 321 = .ok (.iload_n 3, 1) := by decide +kernel
theorem dL_sound_322 : decode cL_sound 322 = .ok (.if_icmp .lt 122, 3) := by decide +kernel
theorem dL_sound_325 : decode cL_sound 325 = .ok (.iload 11, 2) := by decide +kernel
theorem dL_sound_327 : decode cL_sound 327 = .ok (.iload 4, 2) := by decide +kernel
theorem dL_sound_329 : decode cL_sound 329 = .ok (.if_icmp .gt 115, 3) := by decide +kernel
theorem dL_sound_332 : decode cL_sound 332 = .ok (.aload_n 0, 1) := by decide +kernel
theorem dL_sound_333 : decode cL_sound 333 = .ok (.iload 8, 2) := by decide +kernel
theorem dL_sound_335 : decode cL_sound 335 = .ok (.bipush 14, 2) := by decide +kernel
theorem dL_sound_337 : decode cL_sound 337 = .ok (.invokestatic 110, 3) := by decide +kernel
theorem dL_sound_340 : decode cL_sound 340 = .ok (.aload_n 0, 1) := by decide +kernel
theorem dL_sound_341 : decode cL_sound 341 = .ok (.iload 8, 2) := by decide +kernel
theorem dL_sound_343 : decode cL_sound 343 = .ok (.bipush 15, 2) := by decide +kernel
theorem dL_sound_345 : decode cL_sound 345 = .ok (.invokestatic 110, 3) := by decide +kernel
theorem dL_sound_348 : decode cL_sound 348 = .ok (.isub, 1) := by decide +kernel
theorem dL_sound_349 : decode cL_sound 349 = .ok (.iload 11, 2) := by decide +kernel
theorem dL_sound_351 : decode cL_sound 351 = .ok (.if_icmp .ne 93, 3) := by decide +kernel
theorem dL_sound_354 : decode cL_sound 354 = .ok (.iload 5, 2) := by decide +kernel
theorem dL_sound_356 : decode cL_sound 356 = .ok (.bipush 100, 2) := by decide +kernel
theorem dL_sound_358 : decode cL_sound 358 = .ok (.if_icmp .ne 10, 3) := by decide +kernel
theorem dL_sound_361 : decode cL_sound 361 = .ok (.iload 11, 2) := by decide +kernel
theorem dL_sound_363 : decode cL_sound 363 = .ok (.iload 10, 2) := by decide +kernel
theorem dL_sound_365 : decode cL_sound 365 = .ok (.if_icmp .ne 79, 3) := by decide +kernel
theorem dL_sound_368 : decode cL_sound 368 = .ok (.iload 10, 2) := by decide +kernel
theorem dL_sound_370 : decode cL_sound 370 = .ok (.ifCond .lt 15, 3) := by decide +kernel
theorem dL_sound_373 : decode cL_sound 373 = .ok (.iload 11, 2) := by decide +kernel
theorem dL_sound_375 : decode cL_sound 375 = .ok (.ifCond .lt 69, 3) := by decide +kernel
theorem dL_sound_378 : decode cL_sound 378 = .ok (.iload 11, 2) := by decide +kernel
theorem dL_sound_380 : decode cL_sound 380 = .ok (.iload 10, 2) := by decide +kernel
theorem dL_sound_382 : decode cL_sound 382 = .ok (.if_icmp .gt 62, 3) := by decide +kernel
theorem dL_sound_385 : decode cL_sound 385 = .ok (.iload 10, 2) := by decide +kernel
theorem dL_sound_387 : decode cL_sound 387 = .ok (.ifCond .ge 15, 3) := by decide +kernel
theorem dL_sound_390 : decode cL_sound 390 = .ok (.iload 11, 2) := by decide +kernel
theorem dL_sound_392 : decode cL_sound 392 = .ok (.ifCond .gt 52, 3) := by decide +kernel
theorem dL_sound_395 : decode cL_sound 395 = .ok (.iload 11, 2) := by decide +kernel
theorem dL_sound_397 : decode cL_sound 397 = .ok (.iload 10, 2) := by decide +kernel
theorem dL_sound_399 : decode cL_sound 399 = .ok (.if_icmp .lt 45, 3) := by decide +kernel
theorem dL_sound_402 : decode cL_sound 402 = .ok (.aload_n 0, 1) := by decide +kernel
theorem dL_sound_403 : decode cL_sound 403 = .ok (.iload 8, 2) := by decide +kernel
theorem dL_sound_405 : decode cL_sound 405 = .ok (.bipush 14, 2) := by decide +kernel
theorem dL_sound_407 : decode cL_sound 407 = .ok (.invokestatic 110, 3) := by decide +kernel
theorem dL_sound_410 : decode cL_sound 410 = .ok (.aload_n 0, 1) := by decide +kernel
theorem dL_sound_411 : decode cL_sound 411 = .ok (.iload 8, 2) := by decide +kernel
theorem dL_sound_413 : decode cL_sound 413 = .ok (.iconst 4, 1) := by decide +kernel
theorem dL_sound_414 : decode cL_sound 414 = .ok (.invokestatic 110, 3) := by decide +kernel
theorem dL_sound_417 : decode cL_sound 417 = .ok (.bipush 20, 2) := by decide +kernel
theorem dL_sound_419 : decode cL_sound 419 = .ok (.isub, 1) := by decide +kernel
theorem dL_sound_420 : decode cL_sound 420 = .ok (.if_icmp .lt 24, 3) := by decide +kernel
theorem dL_sound_423 : decode cL_sound 423 = .ok (.aload_n 0, 1) := by decide +kernel
theorem dL_sound_424 : decode cL_sound 424 = .ok (.iload 8, 2) := by decide +kernel
theorem dL_sound_426 : decode cL_sound 426 = .ok (.bipush 14, 2) := by decide +kernel
theorem dL_sound_428 : decode cL_sound 428 = .ok (.invokestatic 110, 3) := by decide +kernel
theorem dL_sound_431 : decode cL_sound 431 = .ok (.aload_n 0, 1) := by decide +kernel
theorem dL_sound_432 : decode cL_sound 432 = .ok (.iload 8, 2) := by decide +kernel
theorem dL_sound_434 : decode cL_sound 434 = .ok (.iconst 4, 1) := by decide +kernel
theorem dL_sound_435 : decode cL_sound 435 = .ok (.invokestatic 110, 3) := by decide +kernel
theorem dL_sound_438 : decode cL_sound 438 = .ok (.bipush 20, 2) := by decide +kernel
theorem dL_sound_440 : decode cL_sound 440 = .ok (.iadd, 1) := by decide +kernel
theorem dL_sound_441 : decode cL_sound 441 = .ok (.if_icmp .le 5, 3) := by decide +kernel
theorem dL_sound_444 : decode cL_sound 444 = .ok (.iconst 0, 1) := by decide +kernel
theorem dL_sound_445 : decode cL_sound 445 = .ok (.ireturn, 1) := by decide +kernel
theorem dL_sound_446 : decode cL_sound 446 = .ok (.iinc 8 1, 3) := by decide +kernel
theorem dL_sound_449 : decode cL_sound 449 = .ok (.goto (-398), 3) := by decide +kernel
theorem dL_sound_452 : decode cL_sound 452 = .ok (.iconst 0, 1) := by decide +kernel
theorem dL_sound_453 : decode cL_sound 453 = .ok (.istore 8, 2) := by decide +kernel
theorem dL_sound_455 : decode cL_sound 455 = .ok (.bipush (-100), 2) := by decide +kernel
theorem dL_sound_457 : decode cL_sound 457 = .ok (.istore 9, 2) := by decide +kernel
theorem dL_sound_459 : decode cL_sound 459 = .ok (.iconst (-1), 1) := by decide +kernel
theorem dL_sound_460 : decode cL_sound 460 = .ok (.istore 10, 2) := by decide +kernel
theorem dL_sound_462 : decode cL_sound 462 = .ok (.iconst 0, 1) := by decide +kernel
theorem dL_sound_463 : decode cL_sound 463 = .ok (.istore 11, 2) := by decide +kernel
theorem dL_sound_465 : decode cL_sound 465 = .ok (.iload 11, 2) := by decide +kernel
theorem dL_sound_467 : decode cL_sound 467 = .ok (.iload_n 2, 1) := by decide +kernel
theorem dL_sound_468 : decode cL_sound 468 = .ok (.if_icmp .ge 97, 3) := by decide +kernel
theorem dL_sound_471 : decode cL_sound 471 = .ok (.aload_n 0, 1) := by decide +kernel
theorem dL_sound_472 : decode cL_sound 472 = .ok (.iload 11, 2) := by decide +kernel
theorem dL_sound_474 : decode cL_sound 474 = .ok (.invokestatic 113, 3) := by decide +kernel
theorem dL_sound_477 : decode cL_sound 477 = .ok (.istore 12, 2) := by decide +kernel
theorem dL_sound_479 : decode cL_sound 479 = .ok (.iload 12, 2) := by decide +kernel
theorem dL_sound_481 : decode cL_sound 481 = .ok (.ifCond .lt 53, 3) := by decide +kernel
theorem dL_sound_484 : decode cL_sound 484 = .ok (.iload 12, 2) := by decide +kernel
theorem dL_sound_486 : decode cL_sound 486 = .ok (.iload_n 1, 1) := by decide +kernel
theorem dL_sound_487 : decode cL_sound 487 = .ok (.if_icmp .ge 47, 3) := by decide +kernel
theorem dL_sound_490 : decode cL_sound 490 = .ok (.iload 8, 2) := by decide +kernel
theorem dL_sound_492 : decode cL_sound 492 = .ok (.iload 12, 2) := by decide +kernel
theorem dL_sound_494 : decode cL_sound 494 = .ok (.ishr, 1) := by decide +kernel
theorem dL_sound_495 : decode cL_sound 495 = .ok (.iconst 1, 1) := by decide +kernel
theorem dL_sound_496 : decode cL_sound 496 = .ok (.iand, 1) := by decide +kernel
theorem dL_sound_497 : decode cL_sound 497 = .ok (.iconst 1, 1) := by decide +kernel
theorem dL_sound_498 : decode cL_sound 498 = .ok (.if_icmp .eq 36, 3) := by decide +kernel
theorem dL_sound_501 : decode cL_sound 501 = .ok (.aload_n 0, 1) := by decide +kernel
theorem dL_sound_502 : decode cL_sound 502 = .ok (.iload 12, 2) := by decide +kernel
theorem dL_sound_504 : decode cL_sound 504 = .ok (.bipush 13, 2) := by decide +kernel
theorem dL_sound_506 : decode cL_sound 506 = .ok (.invokestatic 110, 3) := by decide +kernel
theorem dL_sound_509 : decode cL_sound 509 = .ok (.iload 9, 2) := by decide +kernel
theorem dL_sound_511 : decode cL_sound 511 = .ok (.if_icmp .lt 23, 3) := by decide +kernel
theorem dL_sound_514 : decode cL_sound 514 = .ok (.aload_n 0, 1) := by decide +kernel
theorem dL_sound_515 : decode cL_sound 515 = .ok (.iload 12, 2) := by decide +kernel
theorem dL_sound_517 : decode cL_sound 517 = .ok (.bipush 13, 2) := by decide +kernel
theorem dL_sound_519 : decode cL_sound 519 = .ok (.invokestatic 110, 3) := by decide +kernel
theorem dL_sound_522 : decode cL_sound 522 = .ok (.iload 9, 2) := by decide +kernel
theorem dL_sound_524 : decode cL_sound 524 = .ok (.if_icmp .ne 12, 3) := by decide +kernel
theorem dL_sound_527 : decode cL_sound 527 = .ok (.iload 12, 2) := by decide +kernel
theorem dL_sound_529 : decode cL_sound 529 = .ok (.iload 10, 2) := by decide +kernel
theorem dL_sound_531 : decode cL_sound 531 = .ok (.if_icmp .ge 5, 3) := by decide +kernel
theorem dL_sound_534 : decode cL_sound 534 = .ok (.iconst 0, 1) := by decide +kernel
theorem dL_sound_535 : decode cL_sound 535 = .ok (.ireturn, 1) := by decide +kernel
theorem dL_sound_536 : decode cL_sound 536 = .ok (.iload 8, 2) := by decide +kernel
theorem dL_sound_538 : decode cL_sound 538 = .ok (.iconst 1, 1) := by decide +kernel
theorem dL_sound_539 : decode cL_sound 539 = .ok (.iload 12, 2) := by decide +kernel
theorem dL_sound_541 : decode cL_sound 541 = .ok (.ishl, 1) := by decide +kernel
theorem dL_sound_542 : decode cL_sound 542 = .ok (.ior, 1) := by decide +kernel
theorem dL_sound_543 : decode cL_sound 543 = .ok (.istore 8, 2) := by decide +kernel
theorem dL_sound_545 : decode cL_sound 545 = .ok (.aload_n 0, 1) := by decide +kernel
theorem dL_sound_546 : decode cL_sound 546 = .ok (.iload 12, 2) := by decide +kernel
theorem dL_sound_548 : decode cL_sound 548 = .ok (.bipush 13, 2) := by decide +kernel
theorem dL_sound_550 : decode cL_sound 550 = .ok (.invokestatic 110, 3) := by decide +kernel
theorem dL_sound_553 : decode cL_sound 553 = .ok (.istore 9, 2) := by decide +kernel
theorem dL_sound_555 : decode cL_sound 555 = .ok (.iload 12, 2) := by decide +kernel
theorem dL_sound_557 : decode cL_sound 557 = .ok (.istore 10, 2) := by decide +kernel
theorem dL_sound_559 : decode cL_sound 559 = .ok (.iinc 11 1, 3) := by decide +kernel
theorem dL_sound_562 : decode cL_sound 562 = .ok (.goto (-97), 3) := by decide +kernel
theorem dL_sound_565 : decode cL_sound 565 = .ok (.aload_n 0, 1) := by decide +kernel
theorem dL_sound_566 : decode cL_sound 566 = .ok (.iconst 3, 1) := by decide +kernel
theorem dL_sound_567 : decode cL_sound 567 = .ok (.invokestatic 105, 3) := by decide +kernel
theorem dL_sound_570 : decode cL_sound 570 = .ok (.iload_n 2, 1) := by decide +kernel
theorem dL_sound_571 : decode cL_sound 571 = .ok (.if_icmp .ne 80, 3) := by decide +kernel
theorem dL_sound_574 : decode cL_sound 574 = .ok (.aload_n 0, 1) := by decide +kernel
theorem dL_sound_575 : decode cL_sound 575 = .ok (.iload_n 2, 1) := by decide +kernel
theorem dL_sound_576 : decode cL_sound 576 = .ok (.invokestatic 113, 3) := by decide +kernel
theorem dL_sound_579 : decode cL_sound 579 = .ok (.sipush (-1000), 3) := by decide +kernel
theorem dL_sound_582 : decode cL_sound 582 = .ok (.if_icmp .ne 69, 3) := by decide +kernel
theorem dL_sound_585 : decode cL_sound 585 = .ok (.iload 5, 2) := by decide +kernel
theorem dL_sound_587 : decode cL_sound 587 = .ok (.ifCond .lt 64, 3) := by decide +kernel
theorem dL_sound_590 : decode cL_sound 590 = .ok (.iload 5, 2) := by decide +kernel
theorem dL_sound_592 : decode cL_sound 592 = .ok (.bipush 100, 2) := by decide +kernel
theorem dL_sound_594 : decode cL_sound 594 = .ok (.if_icmp .gt 57, 3) := by decide +kernel
theorem dL_sound_597 : decode cL_sound 597 = .ok (.iload 6, 2) := by decide +kernel
theorem dL_sound_599 : decode cL_sound 599 = .ok (.ifCond .eq 8, 3) := by decide +kernel
theorem dL_sound_602 : decode cL_sound 602 = .ok (.iload 7, 2) := by decide +kernel
theorem dL_sound_604 : decode cL_sound 604 = .ok (.ifCond .ne 47, 3) := by decide +kernel
theorem dL_sound_607 : decode cL_sound 607 = .ok (.aload_n 0, 1) := by decide +kernel
theorem dL_sound_608 : decode cL_sound 608 = .ok (.iload_n 3, 1) := by decide +kernel
theorem dL_sound_609 : decode cL_sound 609 = .ok (.iload 4, 2) := by decide +kernel
theorem dL_sound_611 : decode cL_sound 611 = .ok (.invokestatic 115, 3) := by decide +kernel
theorem dL_sound_614 : decode cL_sound 614 = .ok (.iload 5, 2) := by decide +kernel
theorem dL_sound_616 : decode cL_sound 616 = .ok (.if_icmp .ne 35, 3) := by decide +kernel
theorem dL_sound_619 : decode cL_sound 619 = .ok (.aload_n 0, 1) := by decide +kernel
theorem dL_sound_620 : decode cL_sound 620 = .ok (.iconst 0, 1) := by decide +kernel
theorem dL_sound_621 : decode cL_sound 621 = .ok (.invokestatic 117, 3) := by decide +kernel
theorem dL_sound_624 : decode cL_sound 624 = .ok (.ifCond .ne 7, 3) := by decide +kernel
theorem dL_sound_627 : decode cL_sound 627 = .ok (.iconst 1, 1) := by decide +kernel
theorem dL_sound_628 : decode cL_sound 628 = .ok (.goto 4, 3) := by decide +kernel
theorem dL_sound_631 : decode cL_sound 631 = .ok (.iconst 0, 1) := by decide +kernel
theorem dL_sound_632 : decode cL_sound 632 = .ok (.iload 5, 2) := by decide +kernel
theorem dL_sound_634 : decode cL_sound 634 = .ok (.bipush 100, 2) := by decide +kernel
theorem dL_sound_636 : decode cL_sound 636 = .ok (.if_icmp .ne 7, 3) := by decide +kernel
theorem dL_sound_639 : decode cL_sound 639 = .ok (.iconst 1, 1) := by decide +kernel
theorem dL_sound_640 : decode cL_sound 640 = .ok (.goto 4, 3) := by decide +kernel
theorem dL_sound_643 : decode cL_sound 643 = .ok (.iconst 0, 1) := by decide +kernel
theorem dL_sound_644 : decode cL_sound 644 = .ok (.if_icmp .ne 7, 3) := by decide +kernel
theorem dL_sound_647 : decode cL_sound 647 = .ok (.iconst 1, 1) := by decide +kernel
theorem dL_sound_648 : decode cL_sound 648 = .ok (.goto 4, 3) := by decide +kernel
theorem dL_sound_651 : decode cL_sound 651 = .ok (.iconst 0, 1) := by decide +kernel
theorem dL_sound_652 : decode cL_sound 652 = .ok (.ireturn, 1) := by decide +kernel
theorem dL_edges_0 : decode cL_edges 0 = .ok (.aload_n 0, 1) := by decide +kernel
theorem dL_edges_1 : decode cL_edges 1 = .ok (.iconst 0, 1) := by decide +kernel
theorem dL_edges_2 : decode cL_edges 2 = .ok (.invokestatic 105, 3) := by decide +kernel
theorem dL_edges_5 : decode cL_edges 5 = .ok (.istore_n 1, 1) := by decide +kernel
theorem dL_edges_6 : decode cL_edges 6 = .ok (.aload_n 0, 1) := by decide +kernel
theorem dL_edges_7 : decode cL_edges 7 = .ok (.bipush 10, 2) := by decide +kernel
theorem dL_edges_9 : decode cL_edges 9 = .ok (.invokestatic 105, 3) := by decide +kernel
theorem dL_edges_12 : decode cL_edges 12 = .ok (.istore_n 2, 1) := by decide +kernel
theorem dL_edges_13 : decode cL_edges 13 = .ok (.aload_n 0, 1) := by decide +kernel
theorem dL_edges_14 : decode cL_edges 14 = .ok (.bipush 11, 2) := by decide +kernel
theorem dL_edges_16 : decode cL_edges 16 = .ok (.invokestatic 105, 3) := by decide +kernel
theorem dL_edges_19 : decode cL_edges 19 = .ok (.istore_n 3, 1) := by decide +kernel
theorem dL_edges_20 : decode cL_edges 20 = .ok (.iload_n 2, 1) := by decide +kernel
theorem dL_edges_21 : decode cL_edges 21 = .ok (.ifCond .lt 27, 3) := by decide +kernel
theorem dL_edges_24 : decode cL_edges 24 = .ok (.iload_n 2, 1) := by decide +kernel
theorem dL_edges_25 : decode cL_edges 25 = .ok (.aload_n 0, 1) := by decide +kernel
theorem dL_edges_26 : decode cL_edges 26 = .ok (.bipush 8, 2) := by decide +kernel
theorem dL_edges_28 : decode cL_edges 28 = .ok (.invokestatic 105, 3) := by decide +kernel
theorem dL_edges_31 : decode cL_edges 31 = .ok (.if_icmp .gt 17, 3) := by decide +kernel
theorem dL_edges_34 : decode cL_edges 34 = .ok (.iload_n 3, 1) := by decide +kernel
theorem dL_edges_35 : decode cL_edges 35 = .ok (.ifCond .lt 13, 3) := by decide +kernel
theorem dL_edges_38 : decode cL_edges 38 = .ok (.iload_n 3, 1) := by decide +kernel
theorem dL_edges_39 : decode cL_edges 39 = .ok (.aload_n 0, 1) := by decide +kernel
theorem dL_edges_40 : decode cL_edges 40 = .ok (.bipush 8, 2) := by decide +kernel
theorem dL_edges_42 : decode cL_edges 42 = .ok (.invokestatic 105, 3) := by decide +kernel
theorem dL_edges_45 : decode cL_edges 45 = .ok (.if_icmp .le 5, 3) := by decide +kernel
theorem dL_edges_48 : decode cL_edges 48 = .ok (.iconst 0, 1) := by decide +kernel
theorem dL_edges_49 : decode cL_edges 49 = .ok (.ireturn, 1) := by decide +kernel
theorem dL_edges_50 : decode cL_edges 50 = .ok (.aload_n 0, 1) := by decide +kernel
theorem dL_edges_51 : decode cL_edges 51 = .ok (.iconst 3, 1) := by decide +kernel
theorem dL_edges_52 : decode cL_edges 52 = .ok (.invokestatic 119, 3) := by decide +kernel
theorem dL_edges_55 : decode cL_edges 55 = .ok (.istore 4, 2) := by decide +kernel
theorem dL_edges_57 : decode cL_edges 57 = .ok (.aload_n 0, 1) := by decide +kernel
theorem dL_edges_58 : decode cL_edges 58 = .ok (.iconst 4, 1) := by decide +kernel
theorem dL_edges_59 : decode cL_edges 59 = .ok (.invokestatic 119, 3) := by decide +kernel
theorem dL_edges_62 : decode cL_edges 62 = .ok (.istore 5, 2) := by decide +kernel
theorem dL_edges_64 : decode cL_edges 64 = .ok (.iload 4, 2) := by decide +kernel
theorem dL_edges_66 : decode cL_edges 66 = .ok (.sipush (-1000), 3) := by decide +kernel
theorem dL_edges_69 : decode cL_edges 69 = .ok (.if_icmp .ne 25, 3) := by decide +kernel
theorem dL_edges_72 : decode cL_edges 72 = .ok (.iload 5, 2) := by decide +kernel
theorem dL_edges_74 : decode cL_edges 74 = .ok (.sipush (-1000), 3) := by decide +kernel
theorem dL_edges_77 : decode cL_edges 77 = .ok (.if_icmp .ne 111, 3) := by decide +kernel
theorem dL_edges_80 : decode cL_edges 80 = .ok (.aload_n 0, 1) := by decide +kernel
theorem dL_edges_81 : decode cL_edges 81 = .ok (.iconst 5, 1) := by decide +kernel
theorem dL_edges_82 : decode cL_edges 82 = .ok (.invokestatic 119, 3) := by decide +kernel
theorem dL_edges_85 : decode cL_edges 85 = .ok (.sipush (-1000), 3) := by decide +kernel
theorem dL_edges_88 : decode cL_edges 88 = .ok (.if_icmp .eq 102, 3) := by decide +kernel
theorem dL_edges_91 : decode cL_edges 91 = .ok (.goto 97, 3) := by decide +kernel
theorem dL_edges_94 : decode cL_edges 94 = .ok (.iload 5, 2) := by decide +kernel
theorem dL_edges_96 : decode cL_edges 96 = .ok (.ifCond .lt 92, 3) := by decide +kernel
theorem dL_edges_99 : decode cL_edges 99 = .ok (.iload 5, 2) := by decide +kernel
theorem dL_edges_101 : decode cL_edges 101 = .ok (.aload_n 0, 1) := by decide +kernel
theorem dL_edges_102 : decode cL_edges 102 = .ok (.bipush 8, 2) := by decide +kernel
theorem dL_edges_104 : decode cL_edges 104 = .ok (.invokestatic 105, 3) := by decide +kernel
theorem dL_edges_107 : decode cL_edges 107 = .ok (.if_icmp .gt 81, 3) := by decide +kernel
theorem dL_edges_110 : decode cL_edges 110 = .ok (.iload 4, 2) := by decide +kernel
theorem dL_edges_112 : decode cL_edges 112 = .ok (.aload_n 0, 1) := by decide +kernel
theorem dL_edges_113 : decode cL_edges 113 = .ok (.iconst 1, 1) := by decide +kernel
theorem dL_edges_114 : decode cL_edges 114 = .ok (.invokestatic 119, 3) := by decide +kernel
theorem dL_edges_117 : decode cL_edges 117 = .ok (.if_icmp .gt 71, 3) := by decide +kernel
theorem dL_edges_120 : decode cL_edges 120 = .ok (.aload_n 0, 1) := by decide +kernel
theorem dL_edges_121 : decode cL_edges 121 = .ok (.iconst 5, 1) := by decide +kernel
theorem dL_edges_122 : decode cL_edges 122 = .ok (.invokestatic 119, 3) := by decide +kernel
theorem dL_edges_125 : decode cL_edges 125 = .ok (.aload_n 0, 1) := by decide +kernel
theorem dL_edges_126 : decode cL_edges 126 = .ok (.bipush 6, 2) := by decide +kernel
theorem dL_edges_128 : decode cL_edges 128 = .ok (.invokestatic 119, 3) := by decide +kernel
theorem dL_edges_131 : decode cL_edges 131 = .ok (.isub, 1) := by decide +kernel
theorem dL_edges_132 : decode cL_edges 132 = .ok (.iload 5, 2) := by decide +kernel
theorem dL_edges_134 : decode cL_edges 134 = .ok (.if_icmp .ne 54, 3) := by decide +kernel
theorem dL_edges_137 : decode cL_edges 137 = .ok (.aload_n 0, 1) := by decide +kernel
theorem dL_edges_138 : decode cL_edges 138 = .ok (.iconst 5, 1) := by decide +kernel
theorem dL_edges_139 : decode cL_edges 139 = .ok (.invokestatic 119, 3) := by decide +kernel
theorem dL_edges_142 : decode cL_edges 142 = .ok (.iload_n 2, 1) := by decide +kernel
theorem dL_edges_143 : decode cL_edges 143 = .ok (.if_icmp .lt 45, 3) := by decide +kernel
theorem dL_edges_146 : decode cL_edges 146 = .ok (.aload_n 0, 1) := by decide +kernel
theorem dL_edges_147 : decode cL_edges 147 = .ok (.bipush 6, 2) := by decide +kernel
theorem dL_edges_149 : decode cL_edges 149 = .ok (.invokestatic 119, 3) := by decide +kernel
theorem dL_edges_152 : decode cL_edges 152 = .ok (.ifCond .lt 36, 3) := by decide +kernel
theorem dL_edges_155 : decode cL_edges 155 = .ok (.aload_n 0, 1) := by decide +kernel
theorem dL_edges_156 : decode cL_edges 156 = .ok (.iconst 5, 1) := by decide +kernel
theorem dL_edges_157 : decode cL_edges 157 = .ok (.invokestatic 119, 3) := by decide +kernel
theorem dL_edges_160 : decode cL_edges 160 = .ok (.aload_n 0, 1) := by decide +kernel
theorem dL_edges_161 : decode cL_edges 161 = .ok (.iconst 2, 1) := by decide +kernel
theorem dL_edges_162 : decode cL_edges 162 = .ok (.invokestatic 119, 3) := by decide +kernel
theorem dL_edges_165 : decode cL_edges 165 = .ok (.iadd, 1) := by decide +kernel
theorem dL_edges_166 : decode cL_edges 166 = .ok (.iload_n 1, 1) := by decide +kernel
theorem dL_edges_167 : decode cL_edges 167 = .ok (.if_icmp .gt 21, 3) := by decide +kernel
theorem dL_edges_170 : decode cL_edges 170 = .ok (.aload_n 0, 1) := by decide +kernel
theorem dL_edges_171 : decode cL_edges 171 = .ok (.bipush 6, 2) := by decide +kernel
theorem dL_edges_173 : decode cL_edges 173 = .ok (.invokestatic 119, 3) := by decide +kernel
theorem dL_edges_176 : decode cL_edges 176 = .ok (.aload_n 0, 1) := by decide +kernel
theorem dL_edges_177 : decode cL_edges 177 = .ok (.iconst 2, 1) := by decide +kernel
theorem dL_edges_178 : decode cL_edges 178 = .ok (.invokestatic 119, 3) := by decide +kernel
theorem dL_edges_181 : decode cL_edges 181 = .ok (.iadd, 1) := by decide +kernel
theorem dL_edges_182 : decode cL_edges 182 = .ok (.iload_n 1, 1) := by decide +kernel
theorem dL_edges_183 : decode cL_edges 183 = .ok (.iload_n 3, 1) := by decide +kernel
theorem dL_edges_184 : decode cL_edges 184 = .ok (.isub, 1) := by decide +kernel
theorem dL_edges_185 : decode cL_edges 185 = .ok (.if_icmp .le 5, 3) := by decide +kernel
theorem dL_edges_188 : decode cL_edges 188 = .ok (.iconst 0, 1) := by decide +kernel
theorem dL_edges_189 : decode cL_edges 189 = .ok (.ireturn, 1) := by decide +kernel
theorem dL_edges_190 : decode cL_edges 190 = .ok (.iconst 0, 1) := by decide +kernel
theorem dL_edges_191 : decode cL_edges 191 = .ok (.istore 6, 2) := by decide +kernel
theorem dL_edges_193 : decode cL_edges 193 = .ok (.iload 6, 2) := by decide +kernel
theorem dL_edges_195 : decode cL_edges 195 = .ok (.aload_n 0, 1) := by decide +kernel
theorem dL_edges_196 : decode cL_edges 196 = .ok (.iconst 2, 1) := by decide +kernel
theorem dL_edges_197 : decode cL_edges 197 = .ok (.invokestatic 105, 3) := by decide +kernel
theorem dL_edges_200 : decode cL_edges 200 = .ok (.if_icmp .ge 276, 3) := by decide +kernel
theorem dL_edges_203 : decode cL_edges 203 = .ok (.aload_n 0, 1) := by decide +kernel
theorem dL_edges_204 : decode cL_edges 204 = .ok (.iload 6, 2) := by decide +kernel
theorem dL_edges_206 : decode cL_edges 206 = .ok (.bipush 9, 2) := by decide +kernel
theorem dL_edges_208 : decode cL_edges 208 = .ok (.invokestatic 110, 3) := by decide +kernel
theorem dL_edges_211 : decode cL_edges 211 = .ok (.istore 7, 2) := by decide +kernel
theorem dL_edges_213 : decode cL_edges 213 = .ok (.aload_n 0, 1) := by decide +kernel
theorem dL_edges_214 : decode cL_edges 214 = .ok (.iload 6, 2) := by decide +kernel
theorem dL_edges_216 : decode cL_edges 216 = .ok (.iconst 5, 1) := by decide +kernel
theorem dL_edges_217 : decode cL_edges 217 = .ok (.invokestatic 110, 3) := by decide +kernel
theorem dL_edges_220 : decode cL_edges 220 = .ok (.istore 8, 2) := by decide +kernel
theorem dL_edges_222 : decode cL_edges 222 = .ok (.aload_n 0, 1) := by decide +kernel
theorem dL_edges_223 : decode cL_edges 223 = .ok (.iload 6, 2) := by decide +kernel
theorem dL_edges_225 : decode cL_edges 225 = .ok (.bipush 13, 2) := by decide +kernel
theorem dL_edges_227 : decode cL_edges 227 = .ok (.invokestatic 110, 3) := by decide +kernel
theorem dL_edges_230 : decode cL_edges 230 = .ok (.istore 9, 2) := by decide +kernel
theorem dL_edges_232 : decode cL_edges 232 = .ok (.iconst 0, 1) := by decide +kernel
theorem dL_edges_233 : decode cL_edges 233 = .ok (.istore 10, 2) := by decide +kernel
theorem dL_edges_235 : decode cL_edges 235 = .ok (.iload 10, 2) := by decide +kernel
theorem dL_edges_237 : decode cL_edges 237 = .ok (.iconst 2, 1) := by decide +kernel
theorem dL_edges_238 : decode cL_edges 238 = .ok (.if_icmp .ge 232, 3) := by decide +kernel
theorem dL_edges_241 : decode cL_edges 241 = .ok (.iload 7, 2) := by decide +kernel
theorem dL_edges_243 : decode cL_edges 243 = .ok (.sipush (-1000), 3) := by decide +kernel
theorem dL_edges_246 : decode cL_edges 246 = .ok (.if_icmp .eq 224, 3) := by decide +kernel
theorem dL_edges_249 : decode cL_edges 249 = .ok (.aload_n 0, 1) := by decide +kernel
theorem dL_edges_250 : decode cL_edges 250 = .ok (.iload 6, 2) := by decide +kernel
theorem dL_edges_252 : decode cL_edges 252 = .ok (.bipush 14, 2) := by decide +kernel
theorem dL_edges_254 : decode cL_edges 254 = .ok (.iload 10, 2) := by decide +kernel
theorem dL_edges_256 : decode cL_edges 256 = .ok (.iadd, 1) := by decide +kernel
theorem dL_edges_257 : decode cL_edges 257 = .ok (.invokestatic 110, 3) := by decide +kernel
theorem dL_edges_260 : decode cL_edges 260 = .ok (.istore 11, 2) := by decide +kernel
theorem dL_edges_262 : decode cL_edges 262 = .ok (.iload 10, 2) := by decide +kernel
theorem dL_edges_264 : decode cL_edges 264 = .ok (.ifCond .ne 7, 3) := by decide +kernel
theorem dL_edges_267 : decode cL_edges 267 = .ok (.iload_n 2, 1) := by decide +kernel
theorem dL_edges_268 : decode cL_edges 268 = .ok (.goto 4, 3) := by decide +kernel
theorem dL_edges_271 : decode cL_edges 271 = .ok (.iconst 0, 1) := by decide +kernel
theorem dL_edges_272 : decode cL_edges 272 = .ok (.istore 12, 2) := by decide +kernel
theorem dL_edges_274 : decode cL_edges 274 = .ok (.iload 10, 2) := by decide +kernel
theorem dL_edges_276 : decode cL_edges 276 = .ok (.ifCond .ne 7, 3) := by decide +kernel
theorem dL_edges_279 : decode cL_edges 279 = .ok (.iload_n 1, 1) := by decide +kernel
theorem dL_edges_280 : decode cL_edges 280 = .ok (.goto 6, 3) := by decide +kernel
theorem dL_edges_283 : decode cL_edges 283 = .ok (.iload_n 1, 1) := by decide +kernel
theorem dL_edges_284 : decode cL_edges 284 = .ok (.iload_n 3, 1) := by decide +kernel
theorem dL_edges_285 : decode cL_edges 285 = .ok (.isub, 1) := by decide +kernel
theorem dL_edges_286 : decode cL_edges 286 = .ok (.istore 13, 2) := by decide +kernel
theorem dL_edges_288 : decode cL_edges 288 = .ok (.iload 8, 2) := by decide +kernel
theorem dL_edges_290 : decode cL_edges 290 = .ok (.aload_n 0, 1) := by decide +kernel
theorem dL_edges_291 : decode cL_edges 291 = .ok (.iconst 1, 1) := by decide +kernel
theorem dL_edges_292 : decode cL_edges 292 = .ok (.invokestatic 105, 3) := by decide +kernel
theorem dL_edges_295 : decode cL_edges 295 = .ok (.if_icmp .ge 21, 3) := by decide +kernel
theorem dL_edges_298 : decode cL_edges 298 = .ok (.iload 8, 2) := by decide +kernel
theorem dL_edges_300 : decode cL_edges 300 = .ok (.aload_n 0, 1) := by decide +kernel
theorem dL_edges_301 : decode cL_edges 301 = .ok (.iload 6, 2) := by decide +kernel
theorem dL_edges_303 : decode cL_edges 303 = .ok (.bipush 10, 2) := by decide +kernel
theorem dL_edges_305 : decode cL_edges 305 = .ok (.invokestatic 110, 3) := by decide +kernel
theorem dL_edges_308 : decode cL_edges 308 = .ok (.iadd, 1) := by decide +kernel
theorem dL_edges_309 : decode cL_edges 309 = .ok (.ifCond .le 7, 3) := by decide +kernel
theorem dL_edges_312 : decode cL_edges 312 = .ok (.iconst 1, 1) := by decide +kernel
theorem dL_edges_313 : decode cL_edges 313 = .ok (.goto 4, 3) := by decide +kernel
theorem dL_edges_316 : decode cL_edges 316 = .ok (.iconst 0, 1) := by decide +kernel
theorem dL_edges_317 : decode cL_edges 317 = .ok (.istore 14, 2) := by decide +kernel
theorem dL_edges_319 : decode cL_edges 319 = .ok (.iload 14, 2) := by decide +kernel
theorem dL_edges_321 : decode cL_edges 321 = .ok (.ifCond .eq 26, 3) := by decide +kernel
theorem dL_edges_324 : decode cL_edges 324 = .ok (.iload 11, 2) := by decide +kernel
theorem dL_edges_326 : decode cL_edges 326 = .ok (.iload 12, 2) := by decide +kernel
theorem dL_edges_328 : decode cL_edges 328 = .ok (.if_icmp .ge 19, 3) := by decide +kernel
theorem dL_edges_331 : decode cL_edges 331 = .ok (.iload 11, 2) := by decide +kernel
theorem dL_edges_333 : decode cL_edges 333 = .ok (.iload 7, 2) := by decide +kernel
theorem dL_edges_335 : decode cL_edges 335 = .ok (.iadd, 1) := by decide +kernel
theorem dL_edges_336 : decode cL_edges 336 = .ok (.iload 12, 2) := by decide +kernel
theorem dL_edges_338 : decode cL_edges 338 = .ok (.if_icmp .le 9, 3) := by decide +kernel
theorem dL_edges_341 : decode cL_edges 341 = .ok (.iload 9, 2) := by decide +kernel
theorem dL_edges_343 : decode cL_edges 343 = .ok (.iload_n 2, 1) := by decide +kernel
theorem dL_edges_344 : decode cL_edges 344 = .ok (.if_icmp .gt 31, 3) := by decide +kernel
theorem dL_edges_347 : decode cL_edges 347 = .ok (.iload 14, 2) := by decide +kernel
theorem dL_edges_349 : decode cL_edges 349 = .ok (.ifCond .eq 28, 3) := by decide +kernel
theorem dL_edges_352 : decode cL_edges 352 = .ok (.iload 11, 2) := by decide +kernel
theorem dL_edges_354 : decode cL_edges 354 = .ok (.iload 13, 2) := by decide +kernel
theorem dL_edges_356 : decode cL_edges 356 = .ok (.if_icmp .ge 21, 3) := by decide +kernel
theorem dL_edges_359 : decode cL_edges 359 = .ok (.iload 11, 2) := by decide +kernel
theorem dL_edges_361 : decode cL_edges 361 = .ok (.iload 7, 2) := by decide +kernel
theorem dL_edges_363 : decode cL_edges 363 = .ok (.iadd, 1) := by decide +kernel
theorem dL_edges_364 : decode cL_edges 364 = .ok (.iload 13, 2) := by decide +kernel
theorem dL_edges_366 : decode cL_edges 366 = .ok (.if_icmp .le 11, 3) := by decide +kernel
theorem dL_edges_369 : decode cL_edges 369 = .ok (.iload 9, 2) := by decide +kernel
theorem dL_edges_371 : decode cL_edges 371 = .ok (.iload_n 3, 1) := by decide +kernel
theorem dL_edges_372 : decode cL_edges 372 = .ok (.if_icmp .le 5, 3) := by decide +kernel
theorem dL_edges_375 : decode cL_edges 375 = .ok (.iconst 0, 1) := by decide +kernel
theorem dL_edges_376 : decode cL_edges 376 = .ok (.ireturn, 1) := by decide +kernel
theorem dL_edges_377 : decode cL_edges 377 = .ok (.iload 4, 2) := by decide +kernel
theorem dL_edges_379 : decode cL_edges 379 = .ok (.sipush (-1000), 3) := by decide +kernel
theorem dL_edges_382 : decode cL_edges 382 = .ok (.if_icmp .eq 65, 3) := by decide +kernel
theorem dL_edges_385 : decode cL_edges 385 = .ok (.iload 4, 2) := by decide +kernel
theorem dL_edges_387 : decode cL_edges 387 = .ok (.iload 8, 2) := by decide +kernel
theorem dL_edges_389 : decode cL_edges 389 = .ok (.if_icmp .lt 58, 3) := by decide +kernel
theorem dL_edges_392 : decode cL_edges 392 = .ok (.iload 4, 2) := by decide +kernel
theorem dL_edges_394 : decode cL_edges 394 = .ok (.iload 8, 2) := by decide +kernel
theorem dL_edges_396 : decode cL_edges 396 = .ok (.aload_n 0, 1) := by decide +kernel
theorem dL_edges_397 : decode cL_edges 397 = .ok (.iload 6, 2) := by decide +kernel
theorem dL_edges_399 : decode cL_edges 399 = .ok (.bipush 10, 2) := by decide +kernel
theorem dL_edges_401 : decode cL_edges 401 = .ok (.invokestatic 110, 3) := by decide +kernel
theorem dL_edges_404 : decode cL_edges 404 = .ok (.iadd, 1) := by decide +kernel
theorem dL_edges_405 : decode cL_edges 405 = .ok (.if_icmp .ge 42, 3) := by decide +kernel
theorem dL_edges_408 : decode cL_edges 408 = .ok (.iload 11, 2) := by decide +kernel
theorem dL_edges_410 : decode cL_edges 410 = .ok (.aload_n 0, 1) := by decide +kernel
theorem dL_edges_411 : decode cL_edges 411 = .ok (.iconst 5, 1) := by decide +kernel
theorem dL_edges_412 : decode cL_edges 412 = .ok (.iload 10, 2) := by decide +kernel
theorem dL_edges_414 : decode cL_edges 414 = .ok (.iadd, 1) := by decide +kernel
theorem dL_edges_415 : decode cL_edges 415 = .ok (.invokestatic 119, 3) := by decide +kernel
theorem dL_edges_418 : decode cL_edges 418 = .ok (.aload_n 0, 1) := by decide +kernel
theorem dL_edges_419 : decode cL_edges 419 = .ok (.iconst 2, 1) := by decide +kernel
theorem dL_edges_420 : decode cL_edges 420 = .ok (.invokestatic 119, 3) := by decide +kernel
theorem dL_edges_423 : decode cL_edges 423 = .ok (.iadd, 1) := by decide +kernel
theorem dL_edges_424 : decode cL_edges 424 = .ok (.if_icmp .ge 23, 3) := by decide +kernel
theorem dL_edges_427 : decode cL_edges 427 = .ok (.iload 11, 2) := by decide +kernel
theorem dL_edges_429 : decode cL_edges 429 = .ok (.iload 7, 2) := by decide +kernel
theorem dL_edges_431 : decode cL_edges 431 = .ok (.iadd, 1) := by decide +kernel
theorem dL_edges_432 : decode cL_edges 432 = .ok (.aload_n 0, 1) := by decide +kernel
theorem dL_edges_433 : decode cL_edges 433 = .ok (.iconst 5, 1) := by decide +kernel
theorem dL_edges_434 : decode cL_edges 434 = .ok (.iload 10, 2) := by decide +kernel
theorem dL_edges_436 : decode cL_edges 436 = .ok (.iadd, 1) := by decide +kernel
theorem dL_edges_437 : decode cL_edges 437 = .ok (.invokestatic 119, 3) := by decide +kernel
theorem dL_edges_440 : decode cL_edges 440 = .ok (.if_icmp .le 7, 3) := by decide +kernel
theorem dL_edges_443 : decode cL_edges 443 = .ok (.iconst 1, 1) := by decide +kernel
theorem dL_edges_444 : decode cL_edges 444 = .ok (.goto 4, 3) := by decide +kernel
theorem dL_edges_447 : decode cL_edges 447 = .ok (.iconst 0, 1) := by decide +kernel
theorem dL_edges_448 : decode cL_edges 448 = .ok (.istore 15, 2) := by decide +kernel
theorem dL_edges_450 : decode cL_edges 450 = .ok (.iload 15, 2) := by decide +kernel
theorem dL_edges_452 : decode cL_edges 452 = .ok (.ifCond .eq 12, 3) := by decide +kernel
theorem dL_edges_455 : decode cL_edges 455 = .ok (.iload 9, 2) := by decide +kernel
theorem dL_edges_457 : decode cL_edges 457 = .ok (.iload 5, 2) := by decide +kernel
theorem dL_edges_459 : decode cL_edges 459 = .ok (.if_icmp .lt 5, 3) := by decide +kernel
theorem dL_edges_462 : decode cL_edges 462 = .ok (.iconst 0, 1) := by decide +kernel
theorem dL_edges_463 : decode cL_edges 463 = .ok (.ireturn, 1) := by decide +kernel
theorem dL_edges_464 : decode cL_edges 464 = .ok (.iinc 10 1, 3) := by decide +kernel
theorem dL_edges_467 : decode cL_edges 467 = .ok (.goto (-232), 3) := by decide +kernel
theorem dL_edges_470 : decode cL_edges 470 = .ok (.iinc 6 1, 3) := by decide +kernel
theorem dL_edges_473 : decode cL_edges 473 = .ok (.goto (-280), 3) := by decide +kernel
theorem dL_edges_476 : decode cL_edges 476 = .ok (.iconst 1, 1) := by decide +kernel
theorem dL_edges_477 : decode cL_edges 477 = .ok (.ireturn, 1) := by decide +kernel
theorem dL_images_0 : decode cL_images 0 = .ok (.aload_n 0, 1) := by decide +kernel
theorem dL_images_1 : decode cL_images 1 = .ok (.iconst 0, 1) := by decide +kernel
theorem dL_images_2 : decode cL_images 2 = .ok (.invokestatic 105, 3) := by decide +kernel
theorem dL_images_5 : decode cL_images 5 = .ok (.istore_n 2, 1) := by decide +kernel
theorem dL_images_6 : decode cL_images 6 = .ok (.aload_n 0, 1) := by decide +kernel
theorem dL_images_7 : decode cL_images 7 = .ok (.iconst 1, 1) := by decide +kernel
theorem dL_images_8 : decode cL_images 8 = .ok (.invokestatic 105, 3) := by decide +kernel
theorem dL_images_11 : decode cL_images 11 = .ok (.istore_n 3, 1) := by decide +kernel
theorem dL_images_12 : decode cL_images 12 = .ok (.iload_n 1, 1) := by decide +kernel
theorem dL_images_13 : decode cL_images 13 = .ok (.iload_n 3, 1) := by decide +kernel
theorem dL_images_14 : decode cL_images 14 = .ok (.invokestatic 121, 3) := by decide +kernel
theorem dL_images_17 : decode cL_images 17 = .ok (.istore 4, 2) := by decide +kernel
theorem dL_images_19 : decode cL_images 19 = .ok (.iconst 0, 1) := by decide +kernel
theorem dL_images_20 : decode cL_images 20 = .ok (.istore 5, 2) := by decide +kernel
theorem dL_images_22 : decode cL_images 22 = .ok (.iconst 0, 1) := by decide +kernel
theorem dL_images_23 : decode cL_images 23 = .ok (.istore 6, 2) := by decide +kernel
theorem dL_images_25 : decode cL_images 25 = .ok (.iload 6, 2) := by decide +kernel
theorem dL_images_27 : decode cL_images 27 = .ok (.iload_n 2, 1) := by decide +kernel
theorem dL_images_28 : decode cL_images 28 = .ok (.if_icmp .ge 372, 3) := by decide +kernel
theorem dL_images_31 : decode cL_images 31 = .ok (.aload_n 0, 1) := by decide +kernel
theorem dL_images_32 : decode cL_images 32 = .ok (.iconst 1, 1) := by decide +kernel
theorem dL_images_33 : decode cL_images 33 = .ok (.iload 6, 2) := by decide +kernel
theorem dL_images_35 : decode cL_images 35 = .ok (.iload 4, 2) := by decide +kernel
theorem dL_images_37 : decode cL_images 37 = .ok (.invokestatic 124, 3) := by decide +kernel
theorem dL_images_40 : decode cL_images 40 = .ok (.istore 7, 2) := by decide +kernel
theorem dL_images_42 : decode cL_images 42 = .ok (.aload_n 0, 1) := by decide +kernel
theorem dL_images_43 : decode cL_images 43 = .ok (.iconst 0, 1) := by decide +kernel
theorem dL_images_44 : decode cL_images 44 = .ok (.iload 6, 2) := by decide +kernel
theorem dL_images_46 : decode cL_images 46 = .ok (.iload 4, 2) := by decide +kernel
theorem dL_images_48 : decode cL_images 48 = .ok (.invokestatic 124, 3) := by decide +kernel
theorem dL_images_51 : decode cL_images 51 = .ok (.istore 8, 2) := by decide +kernel
theorem dL_images_53 : decode cL_images 53 = .ok (.iload 7, 2) := by decide +kernel
theorem dL_images_55 : decode cL_images 55 = .ok (.iload 8, 2) := by decide +kernel
theorem dL_images_57 : decode cL_images 57 = .ok (.if_icmp .le 11, 3) := by decide +kernel
theorem dL_images_60 : decode cL_images 60 = .ok (.iload 7, 2) := by decide +kernel
theorem dL_images_62 : decode cL_images 62 = .ok (.iload 8, 2) := by decide +kernel
theorem dL_images_64 : decode cL_images 64 = .ok (.isub, 1) := by decide +kernel
theorem dL_images_65 : decode cL_images 65 = .ok (.goto 8, 3) := by decide +kernel
theorem dL_images_68 : decode cL_images 68 = .ok (.iload 8, 2) := by decide +kernel
theorem dL_images_70 : decode cL_images 70 = .ok (.iload 7, 2) := by decide +kernel
theorem dL_images_72 : decode cL_images 72 = .ok (.isub, 1) := by decide +kernel
theorem dL_images_73 : decode cL_images 73 = .ok (.istore 9, 2) := by decide +kernel
theorem dL_images_75 : decode cL_images 75 = .ok (.aload_n 0, 1) := by decide +kernel
theorem dL_images_76 : decode cL_images 76 = .ok (.iload 6, 2) := by decide +kernel
theorem dL_images_78 : decode cL_images 78 = .ok (.iload 4, 2) := by decide +kernel
theorem dL_images_80 : decode cL_images 80 = .ok (.invokestatic 127, 3) := by decide +kernel
theorem dL_images_83 : decode cL_images 83 = .ok (.istore 10, 2) := by decide +kernel
theorem dL_images_85 : decode cL_images 85 = .ok (.iload 5, 2) := by decide +kernel
theorem dL_images_87 : decode cL_images 87 = .ok (.iload 10, 2) := by decide +kernel
theorem dL_images_89 : decode cL_images 89 = .ok (.iadd, 1) := by decide +kernel
theorem dL_images_90 : decode cL_images 90 = .ok (.istore 5, 2) := by decide +kernel
theorem dL_images_92 : decode cL_images 92 = .ok (.aload_n 0, 1) := by decide +kernel
theorem dL_images_93 : decode cL_images 93 = .ok (.iload 6, 2) := by decide +kernel
theorem dL_images_95 : decode cL_images 95 = .ok (.iconst 2, 1) := by decide +kernel
theorem dL_images_96 : decode cL_images 96 = .ok (.irem, 1) := by decide +kernel
theorem dL_images_97 : decode cL_images 97 = .ok (.ifCond .ne 7, 3) := by decide +kernel
theorem dL_images_100 : decode cL_images 100 = .ok (.iconst 1, 1) := by decide +kernel
theorem dL_images_101 : decode cL_images 101 = .ok (.goto 4, 3) := by decide +kernel
theorem dL_images_104 : decode cL_images 104 = .ok (.iconst 0, 1) := by decide +kernel
theorem dL_images_105 : decode cL_images 105 = .ok (.iload 6, 2) := by decide +kernel
theorem dL_images_107 : decode cL_images 107 = .ok (.iload 4, 2) := by decide +kernel
theorem dL_images_109 : decode cL_images 109 = .ok (.invokestatic 129, 3) := by decide +kernel
theorem dL_images_112 : decode cL_images 112 = .ok (.istore 11, 2) := by decide +kernel
theorem dL_images_114 : decode cL_images 114 = .ok (.iload 6, 2) := by decide +kernel
theorem dL_images_116 : decode cL_images 116 = .ok (.iconst 2, 1) := by decide +kernel
theorem dL_images_117 : decode cL_images 117 = .ok (.irem, 1) := by decide +kernel
theorem dL_images_118 : decode cL_images 118 = .ok (.ifCond .ne 8, 3) := by decide +kernel
theorem dL_images_121 : decode cL_images 121 = .ok (.bipush 14, 2) := by decide +kernel
theorem dL_images_123 : decode cL_images 123 = .ok (.goto 5, 3) := by decide +kernel
theorem dL_images_126 : decode cL_images 126 = .ok (.bipush 15, 2) := by decide +kernel
theorem dL_images_128 : decode cL_images 128 = .ok (.istore 12, 2) := by decide +kernel
theorem dL_images_130 : decode cL_images 130 = .ok (.aload_n 0, 1) := by decide +kernel
theorem dL_images_131 : decode cL_images 131 = .ok (.iconst 3, 1) := by decide +kernel
theorem dL_images_132 : decode cL_images 132 = .ok (.invokestatic 119, 3) := by decide +kernel
theorem dL_images_135 : decode cL_images 135 = .ok (.iload 4, 2) := by decide +kernel
theorem dL_images_137 : decode cL_images 137 = .ok (.if_icmp .ne 41, 3) := by decide +kernel
theorem dL_images_140 : decode cL_images 140 = .ok (.iload 6, 2) := by decide +kernel
theorem dL_images_142 : decode cL_images 142 = .ok (.aload_n 0, 1) := by decide +kernel
theorem dL_images_143 : decode cL_images 143 = .ok (.iload 12, 2) := by decide +kernel
theorem dL_images_145 : decode cL_images 145 = .ok (.bipush 9, 2) := by decide +kernel
theorem dL_images_147 : decode cL_images 147 = .ok (.isub, 1) := by decide +kernel
theorem dL_images_148 : decode cL_images 148 = .ok (.invokestatic 119, 3) := by decide +kernel
theorem dL_images_151 : decode cL_images 151 = .ok (.if_icmp .lt 27, 3) := by decide +kernel
theorem dL_images_154 : decode cL_images 154 = .ok (.iload 6, 2) := by decide +kernel
theorem dL_images_156 : decode cL_images 156 = .ok (.aload_n 0, 1) := by decide +kernel
theorem dL_images_157 : decode cL_images 157 = .ok (.iload 12, 2) := by decide +kernel
theorem dL_images_159 : decode cL_images 159 = .ok (.bipush 9, 2) := by decide +kernel
theorem dL_images_161 : decode cL_images 161 = .ok (.isub, 1) := by decide +kernel
theorem dL_images_162 : decode cL_images 162 = .ok (.invokestatic 119, 3) := by decide +kernel
theorem dL_images_165 : decode cL_images 165 = .ok (.aload_n 0, 1) := by decide +kernel
theorem dL_images_166 : decode cL_images 166 = .ok (.iconst 2, 1) := by decide +kernel
theorem dL_images_167 : decode cL_images 167 = .ok (.invokestatic 119, 3) := by decide +kernel
theorem dL_images_170 : decode cL_images 170 = .ok (.iadd, 1) := by decide +kernel
theorem dL_images_171 : decode cL_images 171 = .ok (.if_icmp .ge 7, 3) := by decide +kernel
theorem dL_images_174 : decode cL_images 174 = .ok (.iconst 1, 1) := by decide +kernel
theorem dL_images_175 : decode cL_images 175 = .ok (.goto 4, 3) := by decide +kernel
theorem dL_images_178 : decode cL_images 178 = .ok (.iconst 0, 1) := by decide +kernel
theorem dL_images_179 : decode cL_images 179 = .ok (.istore 13, 2) := by decide +kernel
theorem dL_images_181 : decode cL_images 181 = .ok (.iload 12, 2) := by decide +kernel
theorem dL_images_183 : decode cL_images 183 = .ok (.bipush 14, 2) := by decide +kernel
theorem dL_images_185 : decode cL_images 185 = .ok (.if_icmp .ne 22, 3) := by decide +kernel
theorem dL_images_188 : decode cL_images 188 = .ok (.iload 6, 2) := by decide +kernel
theorem dL_images_190 : decode cL_images 190 = .ok (.aload_n 0, 1) := by decide +kernel
theorem dL_images_191 : decode cL_images 191 = .ok (.bipush 10, 2) := by decide +kernel
theorem dL_images_193 : decode cL_images 193 = .ok (.invokestatic 105, 3) := by decide +kernel
theorem dL_images_196 : decode cL_images 196 = .ok (.if_icmp .ge 7, 3) := by decide +kernel
theorem dL_images_199 : decode cL_images 199 = .ok (.iconst 1, 1) := by decide +kernel
theorem dL_images_200 : decode cL_images 200 = .ok (.goto 25, 3) := by decide +kernel
theorem dL_images_203 : decode cL_images 203 = .ok (.iconst 0, 1) := by decide +kernel
theorem dL_images_204 : decode cL_images 204 = .ok (.goto 21, 3) := by decide +kernel
theorem dL_images_207 : decode cL_images 207 = .ok (.iload 6, 2) := by decide +kernel
theorem dL_images_209 : decode cL_images 209 = .ok (.iload_n 2, 1) := by decide +kernel
theorem dL_images_210 : decode cL_images 210 = .ok (.aload_n 0, 1) := by decide +kernel
theorem dL_images_211 : decode cL_images 211 = .ok (.bipush 11, 2) := by decide +kernel
theorem dL_images_213 : decode cL_images 213 = .ok (.invokestatic 105, 3) := by decide +kernel
theorem dL_images_216 : decode cL_images 216 = .ok (.isub, 1) := by decide +kernel
theorem dL_images_217 : decode cL_images 217 = .ok (.if_icmp .lt 7, 3) := by decide +kernel
theorem dL_images_220 : decode cL_images 220 = .ok (.iconst 1, 1) := by decide +kernel
theorem dL_images_221 : decode cL_images 221 = .ok (.goto 4, 3) := by decide +kernel
theorem dL_images_224 : decode cL_images 224 = .ok (.iconst 0, 1) := by decide +kernel
theorem dL_images_225 : decode cL_images 225 = .ok (.istore 14, 2) := by decide +kernel
theorem dL_images_227 : decode cL_images 227 = .ok (.iload 14, 2) := by decide +kernel
theorem dL_images_229 : decode cL_images 229 = .ok (.ifCond .eq 7, 3) := by decide +kernel
theorem dL_images_232 : decode cL_images 232 = .ok (.iconst 0, 1) := by decide +kernel
theorem dL_images_233 : decode cL_images 233 = .ok (.goto 38, 3) := by decide +kernel
theorem dL_images_236 : decode cL_images 236 = .ok (.iload 13, 2) := by decide +kernel
theorem dL_images_238 : decode cL_images 238 = .ok (.ifCond .eq 8, 3) := by decide +kernel
theorem dL_images_241 : decode cL_images 241 = .ok (.bipush 15, 2) := by decide +kernel
theorem dL_images_243 : decode cL_images 243 = .ok (.goto 28, 3) := by decide +kernel
theorem dL_images_246 : decode cL_images 246 = .ok (.iload 11, 2) := by decide +kernel
theorem dL_images_248 : decode cL_images 248 = .ok (.sipush (-1000), 3) := by decide +kernel
theorem dL_images_251 : decode cL_images 251 = .ok (.if_icmp .ne 12, 3) := by decide +kernel
theorem dL_images_254 : decode cL_images 254 = .ok (.aload_n 0, 1) := by decide +kernel
theorem dL_images_255 : decode cL_images 255 = .ok (.bipush 14, 2) := by decide +kernel
theorem dL_images_257 : decode cL_images 257 = .ok (.invokestatic 105, 3) := by decide +kernel
theorem dL_images_260 : decode cL_images 260 = .ok (.goto 11, 3) := by decide +kernel
theorem dL_images_263 : decode cL_images 263 = .ok (.aload_n 0, 1) := by decide +kernel
theorem dL_images_264 : decode cL_images 264 = .ok (.iload 11, 2) := by decide +kernel
theorem dL_images_266 : decode cL_images 266 = .ok (.bipush 11, 2) := by decide +kernel
theorem dL_images_268 : decode cL_images 268 = .ok (.invokestatic 110, 3) := by decide +kernel
theorem dL_images_271 : decode cL_images 271 = .ok (.istore 15, 2) := by decide +kernel
theorem dL_images_273 : decode cL_images 273 = .ok (.iload 10, 2) := by decide +kernel
theorem dL_images_275 : decode cL_images 275 = .ok (.aload_n 0, 1) := by decide +kernel
theorem dL_images_276 : decode cL_images 276 = .ok (.bipush 15, 2) := by decide +kernel
theorem dL_images_278 : decode cL_images 278 = .ok (.invokestatic 105, 3) := by decide +kernel
theorem dL_images_281 : decode cL_images 281 = .ok (.iload 9, 2) := by decide +kernel
theorem dL_images_283 : decode cL_images 283 = .ok (.imul, 1) := by decide +kernel
theorem dL_images_284 : decode cL_images 284 = .ok (.bipush 100, 2) := by decide +kernel
theorem dL_images_286 : decode cL_images 286 = .ok (.idiv, 1) := by decide +kernel
theorem dL_images_287 : decode cL_images 287 = .ok (.if_icmp .ne 105, 3) := by decide +kernel
theorem dL_images_290 : decode cL_images 290 = .ok (.iload 10, 2) := by decide +kernel
theorem dL_images_292 : decode cL_images 292 = .ok (.bipush 15, 2) := by decide +kernel
theorem dL_images_294 : decode cL_images 294 = .ok (.if_icmp .gt 98, 3) := by decide +kernel
theorem dL_images_297 : decode cL_images 297 = .ok (.iload 12, 2) := by decide +kernel
theorem dL_images_299 : decode cL_images 299 = .ok (.bipush 14, 2) := by decide +kernel
theorem dL_images_301 : decode cL_images 301 = .ok (.if_icmp .ne 8, 3) := by decide +kernel
theorem dL_images_304 : decode cL_images 304 = .ok (.iload 7, 2) := by decide +kernel
theorem dL_images_306 : decode cL_images 306 = .ok (.goto 5, 3) := by decide +kernel
theorem dL_images_309 : decode cL_images 309 = .ok (.iload 8, 2) := by decide +kernel
theorem dL_images_311 : decode cL_images 311 = .ok (.iload 15, 2) := by decide +kernel
theorem dL_images_313 : decode cL_images 313 = .ok (.if_icmp .ne 79, 3) := by decide +kernel
theorem dL_images_316 : decode cL_images 316 = .ok (.iload 11, 2) := by decide +kernel
theorem dL_images_318 : decode cL_images 318 = .ok (.sipush (-1000), 3) := by decide +kernel
theorem dL_images_321 : decode cL_images 321 = .ok (.if_icmp .eq 73, 3) := by decide +kernel
theorem dL_images_324 : decode cL_images 324 = .ok (.iload 6, 2) := by decide +kernel
theorem dL_images_326 : decode cL_images 326 = .ok (.aload_n 0, 1) := by decide +kernel
theorem dL_images_327 : decode cL_images 327 = .ok (.iload 11, 2) := by decide +kernel
theorem dL_images_329 : decode cL_images 329 = .ok (.iload 12, 2) := by decide +kernel
theorem dL_images_331 : decode cL_images 331 = .ok (.invokestatic 110, 3) := by decide +kernel
theorem dL_images_334 : decode cL_images 334 = .ok (.if_icmp .lt 58, 3) := by decide +kernel
theorem dL_images_337 : decode cL_images 337 = .ok (.iload 6, 2) := by decide +kernel
theorem dL_images_339 : decode cL_images 339 = .ok (.aload_n 0, 1) := by decide +kernel
theorem dL_images_340 : decode cL_images 340 = .ok (.iload 11, 2) := by decide +kernel
theorem dL_images_342 : decode cL_images 342 = .ok (.iload 12, 2) := by decide +kernel
theorem dL_images_344 : decode cL_images 344 = .ok (.invokestatic 110, 3) := by decide +kernel
theorem dL_images_347 : decode cL_images 347 = .ok (.aload_n 0, 1) := by decide +kernel
theorem dL_images_348 : decode cL_images 348 = .ok (.iload 11, 2) := by decide +kernel
theorem dL_images_350 : decode cL_images 350 = .ok (.bipush 9, 2) := by decide +kernel
theorem dL_images_352 : decode cL_images 352 = .ok (.invokestatic 110, 3) := by decide +kernel
theorem dL_images_355 : decode cL_images 355 = .ok (.iadd, 1) := by decide +kernel
theorem dL_images_356 : decode cL_images 356 = .ok (.if_icmp .ge 36, 3) := by decide +kernel
theorem dL_images_359 : decode cL_images 359 = .ok (.iload 4, 2) := by decide +kernel
theorem dL_images_361 : decode cL_images 361 = .ok (.aload_n 0, 1) := by decide +kernel
theorem dL_images_362 : decode cL_images 362 = .ok (.iload 11, 2) := by decide +kernel
theorem dL_images_364 : decode cL_images 364 = .ok (.iconst 5, 1) := by decide +kernel
theorem dL_images_365 : decode cL_images 365 = .ok (.invokestatic 110, 3) := by decide +kernel
theorem dL_images_368 : decode cL_images 368 = .ok (.if_icmp .lt 24, 3) := by decide +kernel
theorem dL_images_371 : decode cL_images 371 = .ok (.iload 4, 2) := by decide +kernel
theorem dL_images_373 : decode cL_images 373 = .ok (.aload_n 0, 1) := by decide +kernel
theorem dL_images_374 : decode cL_images 374 = .ok (.iload 11, 2) := by decide +kernel
theorem dL_images_376 : decode cL_images 376 = .ok (.iconst 5, 1) := by decide +kernel
theorem dL_images_377 : decode cL_images 377 = .ok (.invokestatic 110, 3) := by decide +kernel
theorem dL_images_380 : decode cL_images 380 = .ok (.aload_n 0, 1) := by decide +kernel
theorem dL_images_381 : decode cL_images 381 = .ok (.iload 11, 2) := by decide +kernel
theorem dL_images_383 : decode cL_images 383 = .ok (.bipush 10, 2) := by decide +kernel
theorem dL_images_385 : decode cL_images 385 = .ok (.invokestatic 110, 3) := by decide +kernel
theorem dL_images_388 : decode cL_images 388 = .ok (.iadd, 1) := by decide +kernel
theorem dL_images_389 : decode cL_images 389 = .ok (.if_icmp .lt 5, 3) := by decide +kernel
theorem dL_images_392 : decode cL_images 392 = .ok (.iconst 0, 1) := by decide +kernel
theorem dL_images_393 : decode cL_images 393 = .ok (.ireturn, 1) := by decide +kernel
theorem dL_images_394 : decode cL_images 394 = .ok (.iinc 6 1, 3) := by decide +kernel
theorem dL_images_397 : decode cL_images 397 = .ok (.goto (-372), 3) := by decide +kernel
theorem dL_images_400 : decode cL_images 400 = .ok (.aload_n 0, 1) := by decide +kernel
theorem dL_images_401 : decode cL_images 401 = .ok (.iconst 3, 1) := by decide +kernel
theorem dL_images_402 : decode cL_images 402 = .ok (.invokestatic 131, 3) := by decide +kernel
theorem dL_images_405 : decode cL_images 405 = .ok (.istore 6, 2) := by decide +kernel
theorem dL_images_407 : decode cL_images 407 = .ok (.aload_n 0, 1) := by decide +kernel
theorem dL_images_408 : decode cL_images 408 = .ok (.iload 4, 2) := by decide +kernel
theorem dL_images_410 : decode cL_images 410 = .ok (.invokestatic 133, 3) := by decide +kernel
theorem dL_images_413 : decode cL_images 413 = .ok (.iload 5, 2) := by decide +kernel
theorem dL_images_415 : decode cL_images 415 = .ok (.i2d, 1) := by decide +kernel
theorem dL_images_416 : decode cL_images 416 = .ok (.iload_n 2, 1) := by decide +kernel
theorem dL_images_417 : decode cL_images 417 = .ok (.i2d, 1) := by decide +kernel
theorem dL_images_418 : decode cL_images 418 = .ok (.ddiv, 1) := by decide +kernel
theorem dL_images_419 : decode cL_images 419 = .ok (.dcmp .l, 1) := by decide +kernel
theorem dL_images_420 : decode cL_images 420 = .ok (.ifCond .ne 51, 3) := by decide +kernel
theorem dL_images_423 : decode cL_images 423 = .ok (.iload 6, 2) := by decide +kernel
theorem dL_images_425 : decode cL_images 425 = .ok (.aload_n 0, 1) := by decide +kernel
theorem dL_images_426 : decode cL_images 426 = .ok (.iconst 1, 1) := by decide +kernel
theorem dL_images_427 : decode cL_images 427 = .ok (.invokestatic 131, 3) := by decide +kernel
theorem dL_images_430 : decode cL_images 430 = .ok (.if_icmp .gt 41, 3) := by decide +kernel
theorem dL_images_433 : decode cL_images 433 = .ok (.aload_n 0, 1) := by decide +kernel
theorem dL_images_434 : decode cL_images 434 = .ok (.bipush 15, 2) := by decide +kernel
theorem dL_images_436 : decode cL_images 436 = .ok (.invokestatic 131, 3) := by decide +kernel
theorem dL_images_439 : decode cL_images 439 = .ok (.iload 6, 2) := by decide +kernel
theorem dL_images_441 : decode cL_images 441 = .ok (.if_icmp .gt 30, 3) := by decide +kernel
theorem dL_images_444 : decode cL_images 444 = .ok (.aload_n 0, 1) := by decide +kernel
theorem dL_images_445 : decode cL_images 445 = .ok (.iconst 1, 1) := by decide +kernel
theorem dL_images_446 : decode cL_images 446 = .ok (.invokestatic 131, 3) := by decide +kernel
theorem dL_images_449 : decode cL_images 449 = .ok (.iload_n 2, 1) := by decide +kernel
theorem dL_images_450 : decode cL_images 450 = .ok (.iload_n 3, 1) := by decide +kernel
theorem dL_images_451 : decode cL_images 451 = .ok (.imul, 1) := by decide +kernel
theorem dL_images_452 : decode cL_images 452 = .ok (.if_icmp .gt 19, 3) := by decide +kernel
theorem dL_images_455 : decode cL_images 455 = .ok (.aload_n 0, 1) := by decide +kernel
theorem dL_images_456 : decode cL_images 456 = .ok (.iload_n 3, 1) := by decide +kernel
theorem dL_images_457 : decode cL_images 457 = .ok (.invokestatic 133, 3) := by decide +kernel
theorem dL_images_460 : decode cL_images 460 = .ok (.ldc2_w 87, 3) := by decide +kernel
theorem dL_images_463 : decode cL_images 463 = .ok (.dcmp .l, 1) := by decide +kernel
theorem dL_images_464 : decode cL_images 464 = .ok (.ifCond .ne 7, 3) := by decide +kernel
theorem dL_images_467 : decode cL_images 467 = .ok (.iconst 1, 1) := by decide +kernel
theorem dL_images_468 : decode cL_images 468 = .ok (.goto 4, 3) := by decide +kernel
theorem dL_images_471 : decode cL_images 471 = .ok (.iconst 0, 1) := by decide +kernel
theorem dL_images_472 : decode cL_images 472 = .ok (.ireturn, 1) := by decide +kernel
theorem dL_refuses_0 : decode cL_refuses 0 = .ok (.aload_n 0, 1) := by decide +kernel
theorem dL_refuses_1 : decode cL_refuses 1 = .ok (.iconst 2, 1) := by decide +kernel
theorem dL_refuses_2 : decode cL_refuses 2 = .ok (.invokestatic 105, 3) := by decide +kernel
theorem dL_refuses_5 : decode cL_refuses 5 = .ok (.istore_n 1, 1) := by decide +kernel
theorem dL_refuses_6 : decode cL_refuses 6 = .ok (.aload_n 0, 1) := by decide +kernel
theorem dL_refuses_7 : decode cL_refuses 7 = .ok (.iconst 5, 1) := by decide +kernel
theorem dL_refuses_8 : decode cL_refuses 8 = .ok (.invokestatic 105, 3) := by decide +kernel
theorem dL_refuses_11 : decode cL_refuses 11 = .ok (.istore_n 2, 1) := by decide +kernel
theorem dL_refuses_12 : decode cL_refuses 12 = .ok (.aload_n 0, 1) := by decide +kernel
theorem dL_refuses_13 : decode cL_refuses 13 = .ok (.sipush 201, 3) := by decide +kernel
theorem dL_refuses_16 : decode cL_refuses 16 = .ok (.bipush 10, 2) := by decide +kernel
theorem dL_refuses_18 : decode cL_refuses 18 = .ok (.invokestatic 136, 3) := by decide +kernel
theorem dL_refuses_21 : decode cL_refuses 21 = .ok (.ldc 17, 2) := by decide +kernel
theorem dL_refuses_23 : decode cL_refuses 23 = .ok (.if_icmp .ne 211, 3) := by decide +kernel
theorem dL_refuses_26 : decode cL_refuses 26 = .ok (.aload_n 0, 1) := by decide +kernel
theorem dL_refuses_27 : decode cL_refuses 27 = .ok (.bipush 20, 2) := by decide +kernel
theorem dL_refuses_29 : decode cL_refuses 29 = .ok (.bipush 9, 2) := by decide +kernel
theorem dL_refuses_31 : decode cL_refuses 31 = .ok (.invokestatic 136, 3) := by decide +kernel
theorem dL_refuses_34 : decode cL_refuses 34 = .ok (.ldc 17, 2) := by decide +kernel
theorem dL_refuses_36 : decode cL_refuses 36 = .ok (.if_icmp .ne 198, 3) := by decide +kernel
theorem dL_refuses_39 : decode cL_refuses 39 = .ok (.aload_n 0, 1) := by decide +kernel
theorem dL_refuses_40 : decode cL_refuses 40 = .ok (.iload_n 1, 1) := by decide +kernel
theorem dL_refuses_41 : decode cL_refuses 41 = .ok (.sipush 999, 3) := by decide +kernel
theorem dL_refuses_44 : decode cL_refuses 44 = .ok (.iconst 0, 1) := by decide +kernel
theorem dL_refuses_45 : decode cL_refuses 45 = .ok (.iconst 0, 1) := by decide +kernel
theorem dL_refuses_46 : decode cL_refuses 46 = .ok (.invokestatic 138, 3) := by decide +kernel
theorem dL_refuses_49 : decode cL_refuses 49 = .ok (.ldc 24, 2) := by decide +kernel
theorem dL_refuses_51 : decode cL_refuses 51 = .ok (.if_icmp .ne 183, 3) := by decide +kernel
theorem dL_refuses_54 : decode cL_refuses 54 = .ok (.aload_n 0, 1) := by decide +kernel
theorem dL_refuses_55 : decode cL_refuses 55 = .ok (.sipush (-1000), 3) := by decide +kernel
theorem dL_refuses_58 : decode cL_refuses 58 = .ok (.sipush 201, 3) := by decide +kernel
theorem dL_refuses_61 : decode cL_refuses 61 = .ok (.iconst 0, 1) := by decide +kernel
theorem dL_refuses_62 : decode cL_refuses 62 = .ok (.iconst 0, 1) := by decide +kernel
theorem dL_refuses_63 : decode cL_refuses 63 = .ok (.invokestatic 138, 3) := by decide +kernel
theorem dL_refuses_66 : decode cL_refuses 66 = .ok (.ldc 17, 2) := by decide +kernel
theorem dL_refuses_68 : decode cL_refuses 68 = .ok (.if_icmp .ne 166, 3) := by decide +kernel
theorem dL_refuses_71 : decode cL_refuses 71 = .ok (.aload_n 0, 1) := by decide +kernel
theorem dL_refuses_72 : decode cL_refuses 72 = .ok (.iconst (-1), 1) := by decide +kernel
theorem dL_refuses_73 : decode cL_refuses 73 = .ok (.iconst 0, 1) := by decide +kernel
theorem dL_refuses_74 : decode cL_refuses 74 = .ok (.iconst 0, 1) := by decide +kernel
theorem dL_refuses_75 : decode cL_refuses 75 = .ok (.iconst 0, 1) := by decide +kernel
theorem dL_refuses_76 : decode cL_refuses 76 = .ok (.iconst 0, 1) := by decide +kernel
theorem dL_refuses_77 : decode cL_refuses 77 = .ok (.iconst 0, 1) := by decide +kernel
theorem dL_refuses_78 : decode cL_refuses 78 = .ok (.invokestatic 141, 3) := by decide +kernel
theorem dL_refuses_81 : decode cL_refuses 81 = .ok (.ldc 24, 2) := by decide +kernel
theorem dL_refuses_83 : decode cL_refuses 83 = .ok (.if_icmp .ne 151, 3) := by decide +kernel
theorem dL_refuses_86 : decode cL_refuses 86 = .ok (.aload_n 0, 1) := by decide +kernel
theorem dL_refuses_87 : decode cL_refuses 87 = .ok (.sipush (-1000), 3) := by decide +kernel
theorem dL_refuses_90 : decode cL_refuses 90 = .ok (.iconst 0, 1) := by decide +kernel
theorem dL_refuses_91 : decode cL_refuses 91 = .ok (.iconst 0, 1) := by decide +kernel
theorem dL_refuses_92 : decode cL_refuses 92 = .ok (.iconst 0, 1) := by decide +kernel
theorem dL_refuses_93 : decode cL_refuses 93 = .ok (.iconst 1, 1) := by decide +kernel
theorem dL_refuses_94 : decode cL_refuses 94 = .ok (.bipush 101, 2) := by decide +kernel
theorem dL_refuses_96 : decode cL_refuses 96 = .ok (.invokestatic 141, 3) := by decide +kernel
theorem dL_refuses_99 : decode cL_refuses 99 = .ok (.ldc 17, 2) := by decide +kernel
theorem dL_refuses_101 : decode cL_refuses 101 = .ok (.if_icmp .ne 133, 3) := by decide +kernel
theorem dL_refuses_104 : decode cL_refuses 104 = .ok (.aload_n 0, 1) := by decide +kernel
theorem dL_refuses_105 : decode cL_refuses 105 = .ok (.sipush (-1000), 3) := by decide +kernel
theorem dL_refuses_108 : decode cL_refuses 108 = .ok (.iconst 0, 1) := by decide +kernel
theorem dL_refuses_109 : decode cL_refuses 109 = .ok (.iconst 0, 1) := by decide +kernel
theorem dL_refuses_110 : decode cL_refuses 110 = .ok (.sipush (-201), 3) := by decide +kernel
theorem dL_refuses_113 : decode cL_refuses 113 = .ok (.iconst 1, 1) := by decide +kernel
theorem dL_refuses_114 : decode cL_refuses 114 = .ok (.iconst 1, 1) := by decide +kernel
theorem dL_refuses_115 : decode cL_refuses 115 = .ok (.invokestatic 141, 3) := by decide +kernel
theorem dL_refuses_118 : decode cL_refuses 118 = .ok (.ldc 17, 2) := by decide +kernel
theorem dL_refuses_120 : decode cL_refuses 120 = .ok (.if_icmp .ne 114, 3) := by decide +kernel
theorem dL_refuses_123 : decode cL_refuses 123 = .ok (.aload_n 0, 1) := by decide +kernel
theorem dL_refuses_124 : decode cL_refuses 124 = .ok (.iload_n 1, 1) := by decide +kernel
theorem dL_refuses_125 : decode cL_refuses 125 = .ok (.sipush 999, 3) := by decide +kernel
theorem dL_refuses_128 : decode cL_refuses 128 = .ok (.iconst 0, 1) := by decide +kernel
theorem dL_refuses_129 : decode cL_refuses 129 = .ok (.iconst 0, 1) := by decide +kernel
theorem dL_refuses_130 : decode cL_refuses 130 = .ok (.invokestatic 144, 3) := by decide +kernel
theorem dL_refuses_133 : decode cL_refuses 133 = .ok (.ldc 24, 2) := by decide +kernel
theorem dL_refuses_135 : decode cL_refuses 135 = .ok (.if_icmp .ne 99, 3) := by decide +kernel
theorem dL_refuses_138 : decode cL_refuses 138 = .ok (.aload_n 0, 1) := by decide +kernel
theorem dL_refuses_139 : decode cL_refuses 139 = .ok (.iload_n 1, 1) := by decide +kernel
theorem dL_refuses_140 : decode cL_refuses 140 = .ok (.bipush 99, 2) := by decide +kernel
theorem dL_refuses_142 : decode cL_refuses 142 = .ok (.invokestatic 146, 3) := by decide +kernel
theorem dL_refuses_145 : decode cL_refuses 145 = .ok (.ldc 24, 2) := by decide +kernel
theorem dL_refuses_147 : decode cL_refuses 147 = .ok (.if_icmp .ne 87, 3) := by decide +kernel
theorem dL_refuses_150 : decode cL_refuses 150 = .ok (.aload_n 0, 1) := by decide +kernel
theorem dL_refuses_151 : decode cL_refuses 151 = .ok (.iconst (-1), 1) := by decide +kernel
theorem dL_refuses_152 : decode cL_refuses 152 = .ok (.invokestatic 148, 3) := by decide +kernel
theorem dL_refuses_155 : decode cL_refuses 155 = .ok (.ldc 24, 2) := by decide +kernel
theorem dL_refuses_157 : decode cL_refuses 157 = .ok (.if_icmp .ne 77, 3) := by decide +kernel
theorem dL_refuses_160 : decode cL_refuses 160 = .ok (.aload_n 0, 1) := by decide +kernel
theorem dL_refuses_161 : decode cL_refuses 161 = .ok (.bipush (-21), 2) := by decide +kernel
theorem dL_refuses_163 : decode cL_refuses 163 = .ok (.iconst 0, 1) := by decide +kernel
theorem dL_refuses_164 : decode cL_refuses 164 = .ok (.iconst 1, 1) := by decide +kernel
theorem dL_refuses_165 : decode cL_refuses 165 = .ok (.invokestatic 150, 3) := by decide +kernel
theorem dL_refuses_168 : decode cL_refuses 168 = .ok (.ldc 17, 2) := by decide +kernel
theorem dL_refuses_170 : decode cL_refuses 170 = .ok (.if_icmp .ne 64, 3) := by decide +kernel
theorem dL_refuses_173 : decode cL_refuses 173 = .ok (.aload_n 0, 1) := by decide +kernel
theorem dL_refuses_174 : decode cL_refuses 174 = .ok (.iconst (-1), 1) := by decide +kernel
theorem dL_refuses_175 : decode cL_refuses 175 = .ok (.iconst 0, 1) := by decide +kernel
theorem dL_refuses_176 : decode cL_refuses 176 = .ok (.invokestatic 153, 3) := by decide +kernel
theorem dL_refuses_179 : decode cL_refuses 179 = .ok (.ldc 17, 2) := by decide +kernel
theorem dL_refuses_181 : decode cL_refuses 181 = .ok (.if_icmp .ne 53, 3) := by decide +kernel
theorem dL_refuses_184 : decode cL_refuses 184 = .ok (.aload_n 0, 1) := by decide +kernel
theorem dL_refuses_185 : decode cL_refuses 185 = .ok (.iconst 3, 1) := by decide +kernel
theorem dL_refuses_186 : decode cL_refuses 186 = .ok (.bipush 101, 2) := by decide +kernel
theorem dL_refuses_188 : decode cL_refuses 188 = .ok (.invokestatic 153, 3) := by decide +kernel
theorem dL_refuses_191 : decode cL_refuses 191 = .ok (.ldc 17, 2) := by decide +kernel
theorem dL_refuses_193 : decode cL_refuses 193 = .ok (.if_icmp .ne 41, 3) := by decide +kernel
theorem dL_refuses_196 : decode cL_refuses 196 = .ok (.aload_n 0, 1) := by decide +kernel
theorem dL_refuses_197 : decode cL_refuses 197 = .ok (.iconst (-1), 1) := by decide +kernel
theorem dL_refuses_198 : decode cL_refuses 198 = .ok (.iconst 0, 1) := by decide +kernel
theorem dL_refuses_199 : decode cL_refuses 199 = .ok (.iconst 1, 1) := by decide +kernel
theorem dL_refuses_200 : decode cL_refuses 200 = .ok (.invokestatic 155, 3) := by decide +kernel
theorem dL_refuses_203 : decode cL_refuses 203 = .ok (.ldc 17, 2) := by decide +kernel
theorem dL_refuses_205 : decode cL_refuses 205 = .ok (.if_icmp .ne 29, 3) := by decide +kernel
theorem dL_refuses_208 : decode cL_refuses 208 = .ok (.aload_n 0, 1) := by decide +kernel
theorem dL_refuses_209 : decode cL_refuses 209 = .ok (.iconst 0, 1) := by decide +kernel
theorem dL_refuses_210 : decode cL_refuses 210 = .ok (.iconst 0, 1) := by decide +kernel
theorem dL_refuses_211 : decode cL_refuses 211 = .ok (.iconst 0, 1) := by decide +kernel
theorem dL_refuses_212 : decode cL_refuses 212 = .ok (.invokestatic 155, 3) := by decide +kernel
theorem dL_refuses_215 : decode cL_refuses 215 = .ok (.ldc 17, 2) := by decide +kernel
theorem dL_refuses_217 : decode cL_refuses 217 = .ok (.if_icmp .ne 17, 3) := by decide +kernel
theorem dL_refuses_220 : decode cL_refuses 220 = .ok (.aload_n 0, 1) := by decide +kernel
theorem dL_refuses_221 : decode cL_refuses 221 = .ok (.iconst 0, 1) := by decide +kernel
theorem dL_refuses_222 : decode cL_refuses 222 = .ok (.invokestatic 157, 3) := by decide +kernel
theorem dL_refuses_225 : decode cL_refuses 225 = .ok (.ldc 17, 2) := by decide +kernel
theorem dL_refuses_227 : decode cL_refuses 227 = .ok (.if_icmp .ne 7, 3) := by decide +kernel
theorem dL_refuses_230 : decode cL_refuses 230 = .ok (.iconst 1, 1) := by decide +kernel
theorem dL_refuses_231 : decode cL_refuses 231 = .ok (.goto 4, 3) := by decide +kernel
theorem dL_refuses_234 : decode cL_refuses 234 = .ok (.iconst 0, 1) := by decide +kernel
theorem dL_refuses_235 : decode cL_refuses 235 = .ok (.istore_n 3, 1) := by decide +kernel
theorem dL_refuses_236 : decode cL_refuses 236 = .ok (.iload_n 3, 1) := by decide +kernel
theorem dL_refuses_237 : decode cL_refuses 237 = .ok (.ifCond .eq 164, 3) := by decide +kernel
theorem dL_refuses_240 : decode cL_refuses 240 = .ok (.aload_n 0, 1) := by decide +kernel
theorem dL_refuses_241 : decode cL_refuses 241 = .ok (.iload_n 1, 1) := by decide +kernel
theorem dL_refuses_242 : decode cL_refuses 242 = .ok (.bipush 99, 2) := by decide +kernel
theorem dL_refuses_244 : decode cL_refuses 244 = .ok (.invokestatic 110, 3) := by decide +kernel
theorem dL_refuses_247 : decode cL_refuses 247 = .ok (.ldc 24, 2) := by decide +kernel
theorem dL_refuses_249 : decode cL_refuses 249 = .ok (.if_icmp .ne 152, 3) := by decide +kernel
theorem dL_refuses_252 : decode cL_refuses 252 = .ok (.aload_n 0, 1) := by decide +kernel
theorem dL_refuses_253 : decode cL_refuses 253 = .ok (.iconst (-1), 1) := by decide +kernel
theorem dL_refuses_254 : decode cL_refuses 254 = .ok (.invokestatic 113, 3) := by decide +kernel
theorem dL_refuses_257 : decode cL_refuses 257 = .ok (.ldc 17, 2) := by decide +kernel
theorem dL_refuses_259 : decode cL_refuses 259 = .ok (.if_icmp .ne 142, 3) := by decide +kernel
theorem dL_refuses_262 : decode cL_refuses 262 = .ok (.aload_n 0, 1) := by decide +kernel
theorem dL_refuses_263 : decode cL_refuses 263 = .ok (.aload_n 0, 1) := by decide +kernel
theorem dL_refuses_264 : decode cL_refuses 264 = .ok (.iconst 4, 1) := by decide +kernel
theorem dL_refuses_265 : decode cL_refuses 265 = .ok (.invokestatic 105, 3) := by decide +kernel
theorem dL_refuses_268 : decode cL_refuses 268 = .ok (.bipush 99, 2) := by decide +kernel
theorem dL_refuses_270 : decode cL_refuses 270 = .ok (.invokestatic 159, 3) := by decide +kernel
theorem dL_refuses_273 : decode cL_refuses 273 = .ok (.ldc 24, 2) := by decide +kernel
theorem dL_refuses_275 : decode cL_refuses 275 = .ok (.if_icmp .ne 126, 3) := by decide +kernel
theorem dL_refuses_278 : decode cL_refuses 278 = .ok (.aload_n 0, 1) := by decide +kernel
theorem dL_refuses_279 : decode cL_refuses 279 = .ok (.bipush 7, 2) := by decide +kernel
theorem dL_refuses_281 : decode cL_refuses 281 = .ok (.invokestatic 119, 3) := by decide +kernel
theorem dL_refuses_284 : decode cL_refuses 284 = .ok (.ldc 17, 2) := by decide +kernel
theorem dL_refuses_286 : decode cL_refuses 286 = .ok (.if_icmp .ne 115, 3) := by decide +kernel
theorem dL_refuses_289 : decode cL_refuses 289 = .ok (.aload_n 0, 1) := by decide +kernel
theorem dL_refuses_290 : decode cL_refuses 290 = .ok (.bipush 16, 2) := by decide +kernel
theorem dL_refuses_292 : decode cL_refuses 292 = .ok (.invokestatic 105, 3) := by decide +kernel
theorem dL_refuses_295 : decode cL_refuses 295 = .ok (.ldc 17, 2) := by decide +kernel
theorem dL_refuses_297 : decode cL_refuses 297 = .ok (.if_icmp .ne 104, 3) := by decide +kernel
theorem dL_refuses_300 : decode cL_refuses 300 = .ok (.aload_n 0, 1) := by decide +kernel
theorem dL_refuses_301 : decode cL_refuses 301 = .ok (.iconst 1, 1) := by decide +kernel
theorem dL_refuses_302 : decode cL_refuses 302 = .ok (.iconst (-1), 1) := by decide +kernel
theorem dL_refuses_303 : decode cL_refuses 303 = .ok (.iconst 0, 1) := by decide +kernel
theorem dL_refuses_304 : decode cL_refuses 304 = .ok (.invokestatic 124, 3) := by decide +kernel
theorem dL_refuses_307 : decode cL_refuses 307 = .ok (.ldc 24, 2) := by decide +kernel
theorem dL_refuses_309 : decode cL_refuses 309 = .ok (.if_icmp .ne 92, 3) := by decide +kernel
theorem dL_refuses_312 : decode cL_refuses 312 = .ok (.aload_n 0, 1) := by decide +kernel
theorem dL_refuses_313 : decode cL_refuses 313 = .ok (.iconst 0, 1) := by decide +kernel
theorem dL_refuses_314 : decode cL_refuses 314 = .ok (.aload_n 0, 1) := by decide +kernel
theorem dL_refuses_315 : decode cL_refuses 315 = .ok (.iconst 0, 1) := by decide +kernel
theorem dL_refuses_316 : decode cL_refuses 316 = .ok (.invokestatic 105, 3) := by decide +kernel
theorem dL_refuses_319 : decode cL_refuses 319 = .ok (.iconst 0, 1) := by decide +kernel
theorem dL_refuses_320 : decode cL_refuses 320 = .ok (.invokestatic 129, 3) := by decide +kernel
theorem dL_refuses_323 : decode cL_refuses 323 = .ok (.ldc 24, 2) := by decide +kernel
theorem dL_refuses_325 : decode cL_refuses 325 = .ok (.if_icmp .ne 76, 3) := by decide +kernel
theorem dL_refuses_328 : decode cL_refuses 328 = .ok (.aload_n 0, 1) := by decide +kernel
theorem dL_refuses_329 : decode cL_refuses 329 = .ok (.iconst 0, 1) := by decide +kernel
theorem dL_refuses_330 : decode cL_refuses 330 = .ok (.iconst (-1), 1) := by decide +kernel
theorem dL_refuses_331 : decode cL_refuses 331 = .ok (.invokestatic 127, 3) := by decide +kernel
theorem dL_refuses_334 : decode cL_refuses 334 = .ok (.ldc 24, 2) := by decide +kernel
theorem dL_refuses_336 : decode cL_refuses 336 = .ok (.if_icmp .ne 65, 3) := by decide +kernel
theorem dL_refuses_339 : decode cL_refuses 339 = .ok (.aload_n 0, 1) := by decide +kernel
theorem dL_refuses_340 : decode cL_refuses 340 = .ok (.bipush 16, 2) := by decide +kernel
theorem dL_refuses_342 : decode cL_refuses 342 = .ok (.invokestatic 131, 3) := by decide +kernel
theorem dL_refuses_345 : decode cL_refuses 345 = .ok (.ldc 17, 2) := by decide +kernel
theorem dL_refuses_347 : decode cL_refuses 347 = .ok (.if_icmp .ne 54, 3) := by decide +kernel
theorem dL_refuses_350 : decode cL_refuses 350 = .ok (.aload_n 0, 1) := by decide +kernel
theorem dL_refuses_351 : decode cL_refuses 351 = .ok (.bipush (-21), 2) := by decide +kernel
theorem dL_refuses_353 : decode cL_refuses 353 = .ok (.iconst 0, 1) := by decide +kernel
theorem dL_refuses_354 : decode cL_refuses 354 = .ok (.invokestatic 115, 3) := by decide +kernel
theorem dL_refuses_357 : decode cL_refuses 357 = .ok (.ldc 17, 2) := by decide +kernel
theorem dL_refuses_359 : decode cL_refuses 359 = .ok (.if_icmp .ne 42, 3) := by decide +kernel
theorem dL_refuses_362 : decode cL_refuses 362 = .ok (.aload_n 0, 1) := by decide +kernel
theorem dL_refuses_363 : decode cL_refuses 363 = .ok (.sipush 201, 3) := by decide +kernel
theorem dL_refuses_366 : decode cL_refuses 366 = .ok (.invokestatic 117, 3) := by decide +kernel
theorem dL_refuses_369 : decode cL_refuses 369 = .ok (.ldc 17, 2) := by decide +kernel
theorem dL_refuses_371 : decode cL_refuses 371 = .ok (.if_icmp .ne 30, 3) := by decide +kernel
theorem dL_refuses_374 : decode cL_refuses 374 = .ok (.aload_n 0, 1) := by decide +kernel
theorem dL_refuses_375 : decode cL_refuses 375 = .ok (.iload_n 1, 1) := by decide +kernel
theorem dL_refuses_376 : decode cL_refuses 376 = .ok (.iconst 0, 1) := by decide +kernel
theorem dL_refuses_377 : decode cL_refuses 377 = .ok (.invokestatic 161, 3) := by decide +kernel
theorem dL_refuses_380 : decode cL_refuses 380 = .ok (.ldc 24, 2) := by decide +kernel
theorem dL_refuses_382 : decode cL_refuses 382 = .ok (.if_icmp .ne 19, 3) := by decide +kernel
theorem dL_refuses_385 : decode cL_refuses 385 = .ok (.aload_n 0, 1) := by decide +kernel
theorem dL_refuses_386 : decode cL_refuses 386 = .ok (.sipush 128, 3) := by decide +kernel
theorem dL_refuses_389 : decode cL_refuses 389 = .ok (.invokestatic 163, 3) := by decide +kernel
theorem dL_refuses_392 : decode cL_refuses 392 = .ok (.ldc 17, 2) := by decide +kernel
theorem dL_refuses_394 : decode cL_refuses 394 = .ok (.if_icmp .ne 7, 3) := by decide +kernel
theorem dL_refuses_397 : decode cL_refuses 397 = .ok (.iconst 1, 1) := by decide +kernel
theorem dL_refuses_398 : decode cL_refuses 398 = .ok (.goto 4, 3) := by decide +kernel
theorem dL_refuses_401 : decode cL_refuses 401 = .ok (.iconst 0, 1) := by decide +kernel
theorem dL_refuses_402 : decode cL_refuses 402 = .ok (.istore_n 3, 1) := by decide +kernel
theorem dL_refuses_403 : decode cL_refuses 403 = .ok (.iload_n 3, 1) := by decide +kernel
theorem dL_refuses_404 : decode cL_refuses 404 = .ok (.ifCond .eq 25, 3) := by decide +kernel
theorem dL_refuses_407 : decode cL_refuses 407 = .ok (.aload_n 0, 1) := by decide +kernel
theorem dL_refuses_408 : decode cL_refuses 408 = .ok (.iconst 2, 1) := by decide +kernel
theorem dL_refuses_409 : decode cL_refuses 409 = .ok (.invokestatic 105, 3) := by decide +kernel
theorem dL_refuses_412 : decode cL_refuses 412 = .ok (.iload_n 1, 1) := by decide +kernel
theorem dL_refuses_413 : decode cL_refuses 413 = .ok (.if_icmp .ne 16, 3) := by decide +kernel
theorem dL_refuses_416 : decode cL_refuses 416 = .ok (.aload_n 0, 1) := by decide +kernel
theorem dL_refuses_417 : decode cL_refuses 417 = .ok (.iconst 5, 1) := by decide +kernel
theorem dL_refuses_418 : decode cL_refuses 418 = .ok (.invokestatic 105, 3) := by decide +kernel
theorem dL_refuses_421 : decode cL_refuses 421 = .ok (.iload_n 2, 1) := by decide +kernel
theorem dL_refuses_422 : decode cL_refuses 422 = .ok (.if_icmp .ne 7, 3) := by decide +kernel
theorem dL_refuses_425 : decode cL_refuses 425 = .ok (.iconst 1, 1) := by decide +kernel
theorem dL_refuses_426 : decode cL_refuses 426 = .ok (.goto 4, 3) := by decide +kernel
theorem dL_refuses_429 : decode cL_refuses 429 = .ok (.iconst 0, 1) := by decide +kernel
theorem dL_refuses_430 : decode cL_refuses 430 = .ok (.ireturn, 1) := by decide +kernel
theorem dL_law_0 : decode cL_law 0 = .ok (.new 10, 3) := by decide +kernel
theorem dL_law_3 : decode cL_law 3 = .ok (.dup, 1) := by decide +kernel
theorem dL_law_4 : decode cL_law 4 = .ok (.invokespecial 165, 3) := by decide +kernel
theorem dL_law_7 : decode cL_law 7 = .ok (.astore_n 1, 1) := by decide +kernel
theorem dL_law_8 : decode cL_law 8 = .ok (.aload_n 1, 1) := by decide +kernel
theorem dL_law_9 : decode cL_law 9 = .ok (.invokestatic 166, 3) := by decide +kernel
theorem dL_law_12 : decode cL_law 12 = .ok (.ifCond .eq 40, 3) := by decide +kernel
theorem dL_law_15 : decode cL_law 15 = .ok (.aload_n 1, 1) := by decide +kernel
theorem dL_law_16 : decode cL_law 16 = .ok (.invokestatic 170, 3) := by decide +kernel
theorem dL_law_19 : decode cL_law 19 = .ok (.ldc 27, 2) := by decide +kernel
theorem dL_law_21 : decode cL_law 21 = .ok (.if_icmp .ne 31, 3) := by decide +kernel
theorem dL_law_24 : decode cL_law 24 = .ok (.aload_n 1, 1) := by decide +kernel
theorem dL_law_25 : decode cL_law 25 = .ok (.invokestatic 173, 3) := by decide +kernel
theorem dL_law_28 : decode cL_law 28 = .ok (.ifCond .eq 24, 3) := by decide +kernel
theorem dL_law_31 : decode cL_law 31 = .ok (.aload_n 1, 1) := by decide +kernel
theorem dL_law_32 : decode cL_law 32 = .ok (.invokestatic 176, 3) := by decide +kernel
theorem dL_law_35 : decode cL_law 35 = .ok (.ifCond .eq 17, 3) := by decide +kernel
theorem dL_law_38 : decode cL_law 38 = .ok (.aload_n 1, 1) := by decide +kernel
theorem dL_law_39 : decode cL_law 39 = .ok (.invokevirtual 179, 3) := by decide +kernel
theorem dL_law_42 : decode cL_law 42 = .ok (.ifCond .ne 10, 3) := by decide +kernel
theorem dL_law_45 : decode cL_law 45 = .ok (.aload_n 1, 1) := by decide +kernel
theorem dL_law_46 : decode cL_law 46 = .ok (.invokestatic 170, 3) := by decide +kernel
theorem dL_law_49 : decode cL_law 49 = .ok (.ifCond .eq 5, 3) := by decide +kernel
theorem dL_law_52 : decode cL_law 52 = .ok (.iconst 0, 1) := by decide +kernel
theorem dL_law_53 : decode cL_law 53 = .ok (.ireturn, 1) := by decide +kernel
theorem dL_law_54 : decode cL_law 54 = .ok (.aload_n 0, 1) := by decide +kernel
theorem dL_law_55 : decode cL_law 55 = .ok (.iconst 0, 1) := by decide +kernel
theorem dL_law_56 : decode cL_law 56 = .ok (.invokestatic 182, 3) := by decide +kernel
theorem dL_law_59 : decode cL_law 59 = .ok (.istore_n 2, 1) := by decide +kernel
theorem dL_law_60 : decode cL_law 60 = .ok (.aload_n 1, 1) := by decide +kernel
theorem dL_law_61 : decode cL_law 61 = .ok (.bipush 20, 2) := by decide +kernel
theorem dL_law_63 : decode cL_law 63 = .ok (.iload_n 2, 1) := by decide +kernel
theorem dL_law_64 : decode cL_law 64 = .ok (.bipush 40, 2) := by decide +kernel
theorem dL_law_66 : decode cL_law 66 = .ok (.invokestatic 121, 3) := by decide +kernel
theorem dL_law_69 : decode cL_law 69 = .ok (.iadd, 1) := by decide +kernel
theorem dL_law_70 : decode cL_law 70 = .ok (.bipush 10, 2) := by decide +kernel
theorem dL_law_72 : decode cL_law 72 = .ok (.iload_n 2, 1) := by decide +kernel
theorem dL_law_73 : decode cL_law 73 = .ok (.bipush 6, 2) := by decide +kernel
theorem dL_law_75 : decode cL_law 75 = .ok (.ishr, 1) := by decide +kernel
theorem dL_law_76 : decode cL_law 76 = .ok (.bipush 12, 2) := by decide +kernel
theorem dL_law_78 : decode cL_law 78 = .ok (.invokestatic 121, 3) := by decide +kernel
theorem dL_law_81 : decode cL_law 81 = .ok (.iadd, 1) := by decide +kernel
theorem dL_law_82 : decode cL_law 82 = .ok (.invokestatic 136, 3) := by decide +kernel
theorem dL_law_85 : decode cL_law 85 = .ok (.ifCond .eq 5, 3) := by decide +kernel
theorem dL_law_88 : decode cL_law 88 = .ok (.iconst 0, 1) := by decide +kernel
theorem dL_law_89 : decode cL_law 89 = .ok (.ireturn, 1) := by decide +kernel
theorem dL_law_90 : decode cL_law 90 = .ok (.iconst 0, 1) := by decide +kernel
theorem dL_law_91 : decode cL_law 91 = .ok (.istore_n 3, 1) := by decide +kernel
theorem dL_law_92 : decode cL_law 92 = .ok (.iload_n 3, 1) := by decide +kernel
theorem dL_law_93 : decode cL_law 93 = .ok (.bipush 40, 2) := by decide +kernel
theorem dL_law_95 : decode cL_law 95 = .ok (.if_icmp .ge 1326, 3) := by decide +kernel
theorem dL_law_98 : decode cL_law 98 = .ok (.aload_n 0, 1) := by decide +kernel
theorem dL_law_99 : decode cL_law 99 = .ok (.iconst 1, 1) := by decide +kernel
theorem dL_law_100 : decode cL_law 100 = .ok (.iconst 2, 1) := by decide +kernel
theorem dL_law_101 : decode cL_law 101 = .ok (.iload_n 3, 1) := by decide +kernel
theorem dL_law_102 : decode cL_law 102 = .ok (.imul, 1) := by decide +kernel
theorem dL_law_103 : decode cL_law 103 = .ok (.iadd, 1) := by decide +kernel
theorem dL_law_104 : decode cL_law 104 = .ok (.invokestatic 182, 3) := by decide +kernel
theorem dL_law_107 : decode cL_law 107 = .ok (.istore 4, 2) := by decide +kernel
theorem dL_law_109 : decode cL_law 109 = .ok (.aload_n 0, 1) := by decide +kernel
theorem dL_law_110 : decode cL_law 110 = .ok (.iconst 2, 1) := by decide +kernel
theorem dL_law_111 : decode cL_law 111 = .ok (.iconst 2, 1) := by decide +kernel
theorem dL_law_112 : decode cL_law 112 = .ok (.iload_n 3, 1) := by decide +kernel
theorem dL_law_113 : decode cL_law 113 = .ok (.imul, 1) := by decide +kernel
theorem dL_law_114 : decode cL_law 114 = .ok (.iadd, 1) := by decide +kernel
theorem dL_law_115 : decode cL_law 115 = .ok (.invokestatic 182, 3) := by decide +kernel
theorem dL_law_118 : decode cL_law 118 = .ok (.istore 5, 2) := by decide +kernel
theorem dL_law_120 : decode cL_law 120 = .ok (.aload_n 1, 1) := by decide +kernel
theorem dL_law_121 : decode cL_law 121 = .ok (.iconst 2, 1) := by decide +kernel
theorem dL_law_122 : decode cL_law 122 = .ok (.invokestatic 105, 3) := by decide +kernel
theorem dL_law_125 : decode cL_law 125 = .ok (.istore 6, 2) := by decide +kernel
theorem dL_law_127 : decode cL_law 127 = .ok (.iload_n 3, 1) := by decide +kernel
theorem dL_law_128 : decode cL_law 128 = .ok (.bipush 6, 2) := by decide +kernel
theorem dL_law_130 : decode cL_law 130 = .ok (.if_icmp .ge 7, 3) := by decide +kernel
theorem dL_law_133 : decode cL_law 133 = .ok (.iconst 0, 1) := by decide +kernel
theorem dL_law_134 : decode cL_law 134 = .ok (.goto 10, 3) := by decide +kernel
theorem dL_law_137 : decode cL_law 137 = .ok (.iload 4, 2) := by decide +kernel
theorem dL_law_139 : decode cL_law 139 = .ok (.bipush 16, 2) := by decide +kernel
theorem dL_law_141 : decode cL_law 141 = .ok (.invokestatic 121, 3) := by decide +kernel
theorem dL_law_144 : decode cL_law 144 = .ok (.istore 7, 2) := by decide +kernel
theorem dL_law_146 : decode cL_law 146 = .ok (.iload 6, 2) := by decide +kernel
theorem dL_law_148 : decode cL_law 148 = .ok (.ifCond .ne 7, 3) := by decide +kernel
theorem dL_law_151 : decode cL_law 151 = .ok (.iconst 0, 1) := by decide +kernel
theorem dL_law_152 : decode cL_law 152 = .ok (.goto 12, 3) := by decide +kernel
theorem dL_law_155 : decode cL_law 155 = .ok (.iload 4, 2) := by decide +kernel
theorem dL_law_157 : decode cL_law 157 = .ok (.iconst 5, 1) := by decide +kernel
theorem dL_law_158 : decode cL_law 158 = .ok (.ishr, 1) := by decide +kernel
theorem dL_law_159 : decode cL_law 159 = .ok (.iload 6, 2) := by decide +kernel
theorem dL_law_161 : decode cL_law 161 = .ok (.invokestatic 121, 3) := by decide +kernel
theorem dL_law_164 : decode cL_law 164 = .ok (.istore 8, 2) := by decide +kernel
theorem dL_law_166 : decode cL_law 166 = .ok (.iload 7, 2) := by decide +kernel
theorem dL_law_168 : decode cL_law 168 = .ok (.iconst 3, 1) := by decide +kernel
theorem dL_law_169 : decode cL_law 169 = .ok (.if_icmp .ge 303, 3) := by decide +kernel
theorem dL_law_172 : decode cL_law 172 = .ok (.iload 6, 2) := by decide +kernel
theorem dL_law_174 : decode cL_law 174 = .ok (.ifCond .eq 15, 3) := by decide +kernel
theorem dL_law_177 : decode cL_law 177 = .ok (.iload 4, 2) := by decide +kernel
theorem dL_law_179 : decode cL_law 179 = .ok (.bipush 11, 2) := by decide +kernel
theorem dL_law_181 : decode cL_law 181 = .ok (.ishr, 1) := by decide +kernel
theorem dL_law_182 : decode cL_law 182 = .ok (.iconst 2, 1) := by decide +kernel
theorem dL_law_183 : decode cL_law 183 = .ok (.invokestatic 121, 3) := by decide +kernel
theorem dL_law_186 : decode cL_law 186 = .ok (.ifCond .ne 9, 3) := by decide +kernel
theorem dL_law_189 : decode cL_law 189 = .ok (.sipush (-1000), 3) := by decide +kernel
theorem dL_law_192 : decode cL_law 192 = .ok (.goto 5, 3) := by decide +kernel
theorem dL_law_195 : decode cL_law 195 = .ok (.iload 8, 2) := by decide +kernel
theorem dL_law_197 : decode cL_law 197 = .ok (.istore 9, 2) := by decide +kernel
theorem dL_law_199 : decode cL_law 199 = .ok (.iload 4, 2) := by decide +kernel
theorem dL_law_201 : decode cL_law 201 = .ok (.bipush 12, 2) := by decide +kernel
theorem dL_law_203 : decode cL_law 203 = .ok (.ishr, 1) := by decide +kernel
theorem dL_law_204 : decode cL_law 204 = .ok (.iconst 4, 1) := by decide +kernel
theorem dL_law_205 : decode cL_law 205 = .ok (.invokestatic 121, 3) := by decide +kernel
theorem dL_law_208 : decode cL_law 208 = .ok (.ifCond .le 7, 3) := by decide +kernel
theorem dL_law_211 : decode cL_law 211 = .ok (.iconst 1, 1) := by decide +kernel
theorem dL_law_212 : decode cL_law 212 = .ok (.goto 4, 3) := by decide +kernel
theorem dL_law_215 : decode cL_law 215 = .ok (.iconst 0, 1) := by decide +kernel
theorem dL_law_216 : decode cL_law 216 = .ok (.istore 10, 2) := by decide +kernel
theorem dL_law_218 : decode cL_law 218 = .ok (.iload 9, 2) := by decide +kernel
theorem dL_law_220 : decode cL_law 220 = .ok (.sipush (-1000), 3) := by decide +kernel
theorem dL_law_223 : decode cL_law 223 = .ok (.if_icmp .eq 21, 3) := by decide +kernel
theorem dL_law_226 : decode cL_law 226 = .ok (.aload_n 1, 1) := by decide +kernel
theorem dL_law_227 : decode cL_law 227 = .ok (.iload 9, 2) := by decide +kernel
theorem dL_law_229 : decode cL_law 229 = .ok (.bipush 9, 2) := by decide +kernel
theorem dL_law_231 : decode cL_law 231 = .ok (.invokestatic 110, 3) := by decide +kernel
theorem dL_law_234 : decode cL_law 234 = .ok (.sipush (-1000), 3) := by decide +kernel
theorem dL_law_237 : decode cL_law 237 = .ok (.if_icmp .eq 7, 3) := by decide +kernel
theorem dL_law_240 : decode cL_law 240 = .ok (.iconst 1, 1) := by decide +kernel
theorem dL_law_241 : decode cL_law 241 = .ok (.goto 4, 3) := by decide +kernel
theorem dL_law_244 : decode cL_law 244 = .ok (.iconst 0, 1) := by decide +kernel
theorem dL_law_245 : decode cL_law 245 = .ok (.istore 11, 2) := by decide +kernel
theorem dL_law_247 : decode cL_law 247 = .ok (.iload 6, 2) := by decide +kernel
theorem dL_law_249 : decode cL_law 249 = .ok (.bipush 20, 2) := by decide +kernel
theorem dL_law_251 : decode cL_law 251 = .ok (.if_icmp .eq 23, 3) := by decide +kernel
theorem dL_law_254 : decode cL_law 254 = .ok (.iload 9, 2) := by decide +kernel
theorem dL_law_256 : decode cL_law 256 = .ok (.sipush (-1000), 3) := by decide +kernel
theorem dL_law_259 : decode cL_law 259 = .ok (.if_icmp .eq 19, 3) := by decide +kernel
theorem dL_law_262 : decode cL_law 262 = .ok (.aload_n 1, 1) := by decide +kernel
theorem dL_law_263 : decode cL_law 263 = .ok (.iload 9, 2) := by decide +kernel
theorem dL_law_265 : decode cL_law 265 = .ok (.bipush 7, 2) := by decide +kernel
theorem dL_law_267 : decode cL_law 267 = .ok (.invokestatic 110, 3) := by decide +kernel
theorem dL_law_270 : decode cL_law 270 = .ok (.iconst 5, 1) := by decide +kernel
theorem dL_law_271 : decode cL_law 271 = .ok (.if_icmp .lt 7, 3) := by decide +kernel
theorem dL_law_274 : decode cL_law 274 = .ok (.iconst 1, 1) := by decide +kernel
theorem dL_law_275 : decode cL_law 275 = .ok (.goto 4, 3) := by decide +kernel
theorem dL_law_278 : decode cL_law 278 = .ok (.iconst 0, 1) := by decide +kernel
theorem dL_law_279 : decode cL_law 279 = .ok (.istore 12, 2) := by decide +kernel
theorem dL_law_281 : decode cL_law 281 = .ok (.iload 5, 2) := by decide +kernel
theorem dL_law_283 : decode cL_law 283 = .ok (.bipush 50, 2) := by decide +kernel
theorem dL_law_285 : decode cL_law 285 = .ok (.invokestatic 121, 3) := by decide +kernel
theorem dL_law_288 : decode cL_law 288 = .ok (.bipush 8, 2) := by decide +kernel
theorem dL_law_290 : decode cL_law 290 = .ok (.isub, 1) := by decide +kernel
theorem dL_law_291 : decode cL_law 291 = .ok (.istore 13, 2) := by decide +kernel
theorem dL_law_293 : decode cL_law 293 = .ok (.iload 5, 2) := by decide +kernel
theorem dL_law_295 : decode cL_law 295 = .ok (.bipush 6, 2) := by decide +kernel
theorem dL_law_297 : decode cL_law 297 = .ok (.ishr, 1) := by decide +kernel
theorem dL_law_298 : decode cL_law 298 = .ok (.bipush 16, 2) := by decide +kernel
theorem dL_law_300 : decode cL_law 300 = .ok (.invokestatic 121, 3) := by decide +kernel
theorem dL_law_303 : decode cL_law 303 = .ok (.iconst 4, 1) := by decide +kernel
theorem dL_law_304 : decode cL_law 304 = .ok (.isub, 1) := by decide +kernel
theorem dL_law_305 : decode cL_law 305 = .ok (.istore 14, 2) := by decide +kernel
theorem dL_law_307 : decode cL_law 307 = .ok (.iload 5, 2) := by decide +kernel
theorem dL_law_309 : decode cL_law 309 = .ok (.bipush 10, 2) := by decide +kernel
theorem dL_law_311 : decode cL_law 311 = .ok (.ishr, 1) := by decide +kernel
theorem dL_law_312 : decode cL_law 312 = .ok (.sipush 141, 3) := by decide +kernel
theorem dL_law_315 : decode cL_law 315 = .ok (.invokestatic 121, 3) := by decide +kernel
theorem dL_law_318 : decode cL_law 318 = .ok (.bipush 70, 2) := by decide +kernel
theorem dL_law_320 : decode cL_law 320 = .ok (.isub, 1) := by decide +kernel
theorem dL_law_321 : decode cL_law 321 = .ok (.istore 15, 2) := by decide +kernel
theorem dL_law_323 : decode cL_law 323 = .ok (.iload 10, 2) := by decide +kernel
theorem dL_law_325 : decode cL_law 325 = .ok (.ifCond .eq 42, 3) := by decide +kernel
theorem dL_law_328 : decode cL_law 328 = .ok (.aload_n 1, 1) := by decide +kernel
theorem dL_law_329 : decode cL_law 329 = .ok (.iload 9, 2) := by decide +kernel
theorem dL_law_331 : decode cL_law 331 = .ok (.iload 13, 2) := by decide +kernel
theorem dL_law_333 : decode cL_law 333 = .ok (.iload 14, 2) := by decide +kernel
theorem dL_law_335 : decode cL_law 335 = .ok (.iload 15, 2) := by decide +kernel
theorem dL_law_337 : decode cL_law 337 = .ok (.iconst 1, 1) := by decide +kernel
theorem dL_law_338 : decode cL_law 338 = .ok (.iload 5, 2) := by decide +kernel
theorem dL_law_340 : decode cL_law 340 = .ok (.bipush 18, 2) := by decide +kernel
theorem dL_law_342 : decode cL_law 342 = .ok (.ishr, 1) := by decide +kernel
theorem dL_law_343 : decode cL_law 343 = .ok (.bipush 20, 2) := by decide +kernel
theorem dL_law_345 : decode cL_law 345 = .ok (.invokestatic 121, 3) := by decide +kernel
theorem dL_law_348 : decode cL_law 348 = .ok (.iadd, 1) := by decide +kernel
theorem dL_law_349 : decode cL_law 349 = .ok (.iconst 1, 1) := by decide +kernel
theorem dL_law_350 : decode cL_law 350 = .ok (.iload 5, 2) := by decide +kernel
theorem dL_law_352 : decode cL_law 352 = .ok (.bipush 23, 2) := by decide +kernel
theorem dL_law_354 : decode cL_law 354 = .ok (.ishr, 1) := by decide +kernel
theorem dL_law_355 : decode cL_law 355 = .ok (.bipush 8, 2) := by decide +kernel
theorem dL_law_357 : decode cL_law 357 = .ok (.invokestatic 121, 3) := by decide +kernel
theorem dL_law_360 : decode cL_law 360 = .ok (.iadd, 1) := by decide +kernel
theorem dL_law_361 : decode cL_law 361 = .ok (.invokestatic 141, 3) := by decide +kernel
theorem dL_law_364 : decode cL_law 364 = .ok (.goto 15, 3) := by decide +kernel
theorem dL_law_367 : decode cL_law 367 = .ok (.aload_n 1, 1) := by decide +kernel
theorem dL_law_368 : decode cL_law 368 = .ok (.iload 9, 2) := by decide +kernel
theorem dL_law_370 : decode cL_law 370 = .ok (.iload 13, 2) := by decide +kernel
theorem dL_law_372 : decode cL_law 372 = .ok (.iload 14, 2) := by decide +kernel
theorem dL_law_374 : decode cL_law 374 = .ok (.iload 15, 2) := by decide +kernel
theorem dL_law_376 : decode cL_law 376 = .ok (.invokestatic 138, 3) := by decide +kernel
theorem dL_law_379 : decode cL_law 379 = .ok (.istore 16, 2) := by decide +kernel
theorem dL_law_381 : decode cL_law 381 = .ok (.iload 16, 2) := by decide +kernel
theorem dL_law_383 : decode cL_law 383 = .ok (.iload 11, 2) := by decide +kernel
theorem dL_law_385 : decode cL_law 385 = .ok (.ifCond .eq 8, 3) := by decide +kernel
theorem dL_law_388 : decode cL_law 388 = .ok (.ldc 17, 2) := by decide +kernel
theorem dL_law_390 : decode cL_law 390 = .ok (.goto 15, 3) := by decide +kernel
theorem dL_law_393 : decode cL_law 393 = .ok (.iload 12, 2) := by decide +kernel
theorem dL_law_395 : decode cL_law 395 = .ok (.ifCond .eq 8, 3) := by decide +kernel
theorem dL_law_398 : decode cL_law 398 = .ok (.ldc 27, 2) := by decide +kernel
theorem dL_law_400 : decode cL_law 400 = .ok (.goto 5, 3) := by decide +kernel
theorem dL_law_403 : decode cL_law 403 = .ok (.iload 6, 2) := by decide +kernel
theorem dL_law_405 : decode cL_law 405 = .ok (.if_icmp .ne 62, 3) := by decide +kernel
theorem dL_law_408 : decode cL_law 408 = .ok (.iload 16, 2) := by decide +kernel
theorem dL_law_410 : decode cL_law 410 = .ok (.ifCond .lt 59, 3) := by decide +kernel
theorem dL_law_413 : decode cL_law 413 = .ok (.aload_n 1, 1) := by decide +kernel
theorem dL_law_414 : decode cL_law 414 = .ok (.iload 16, 2) := by decide +kernel
theorem dL_law_416 : decode cL_law 416 = .ok (.iconst 0, 1) := by decide +kernel
theorem dL_law_417 : decode cL_law 417 = .ok (.invokestatic 110, 3) := by decide +kernel
theorem dL_law_420 : decode cL_law 420 = .ok (.iload 9, 2) := by decide +kernel
theorem dL_law_422 : decode cL_law 422 = .ok (.if_icmp .ne 45, 3) := by decide +kernel
theorem dL_law_425 : decode cL_law 425 = .ok (.aload_n 1, 1) := by decide +kernel
theorem dL_law_426 : decode cL_law 426 = .ok (.iload 16, 2) := by decide +kernel
theorem dL_law_428 : decode cL_law 428 = .ok (.iconst 1, 1) := by decide +kernel
theorem dL_law_429 : decode cL_law 429 = .ok (.invokestatic 110, 3) := by decide +kernel
theorem dL_law_432 : decode cL_law 432 = .ok (.iload 13, 2) := by decide +kernel
theorem dL_law_434 : decode cL_law 434 = .ok (.if_icmp .ne 33, 3) := by decide +kernel
theorem dL_law_437 : decode cL_law 437 = .ok (.aload_n 1, 1) := by decide +kernel
theorem dL_law_438 : decode cL_law 438 = .ok (.iload 16, 2) := by decide +kernel
theorem dL_law_440 : decode cL_law 440 = .ok (.iconst 3, 1) := by decide +kernel
theorem dL_law_441 : decode cL_law 441 = .ok (.invokestatic 110, 3) := by decide +kernel
theorem dL_law_444 : decode cL_law 444 = .ok (.iload 15, 2) := by decide +kernel
theorem dL_law_446 : decode cL_law 446 = .ok (.if_icmp .ne 21, 3) := by decide +kernel
theorem dL_law_449 : decode cL_law 449 = .ok (.iload 10, 2) := by decide +kernel
theorem dL_law_451 : decode cL_law 451 = .ok (.ifCond .eq 18, 3) := by decide +kernel
theorem dL_law_454 : decode cL_law 454 = .ok (.aload_n 1, 1) := by decide +kernel
theorem dL_law_455 : decode cL_law 455 = .ok (.iload 16, 2) := by decide +kernel
theorem dL_law_457 : decode cL_law 457 = .ok (.bipush 11, 2) := by decide +kernel
theorem dL_law_459 : decode cL_law 459 = .ok (.invokestatic 110, 3) := by decide +kernel
theorem dL_law_462 : decode cL_law 462 = .ok (.bipush 8, 2) := by decide +kernel
theorem dL_law_464 : decode cL_law 464 = .ok (.if_icmp .eq 5, 3) := by decide +kernel
theorem dL_law_467 : decode cL_law 467 = .ok (.iconst 0, 1) := by decide +kernel
theorem dL_law_468 : decode cL_law 468 = .ok (.ireturn, 1) := by decide +kernel
theorem dL_law_469 : decode cL_law 469 = .ok (.goto 912, 3) := by decide +kernel
theorem dL_law_472 : decode cL_law 472 = .ok (.iload 7, 2) := by decide +kernel
theorem dL_law_474 : decode cL_law 474 = .ok (.bipush 6, 2) := by decide +kernel
theorem dL_law_476 : decode cL_law 476 = .ok (.if_icmp .ge 116, 3) := by decide +kernel
theorem dL_law_479 : decode cL_law 479 = .ok (.iload 6, 2) := by decide +kernel
theorem dL_law_481 : decode cL_law 481 = .ok (.ifCond .le 111, 3) := by decide +kernel
theorem dL_law_484 : decode cL_law 484 = .ok (.aload_n 1, 1) := by decide +kernel
theorem dL_law_485 : decode cL_law 485 = .ok (.iload 8, 2) := by decide +kernel
theorem dL_law_487 : decode cL_law 487 = .ok (.iconst 3, 1) := by decide +kernel
theorem dL_law_488 : decode cL_law 488 = .ok (.invokestatic 110, 3) := by decide +kernel
theorem dL_law_491 : decode cL_law 491 = .ok (.istore 9, 2) := by decide +kernel
theorem dL_law_493 : decode cL_law 493 = .ok (.iload 5, 2) := by decide +kernel
theorem dL_law_495 : decode cL_law 495 = .ok (.sipush 201, 3) := by decide +kernel
theorem dL_law_498 : decode cL_law 498 = .ok (.invokestatic 121, 3) := by decide +kernel
theorem dL_law_501 : decode cL_law 501 = .ok (.bipush 100, 2) := by decide +kernel
theorem dL_law_503 : decode cL_law 503 = .ok (.isub, 1) := by decide +kernel
theorem dL_law_504 : decode cL_law 504 = .ok (.istore 10, 2) := by decide +kernel
theorem dL_law_506 : decode cL_law 506 = .ok (.aload_n 1, 1) := by decide +kernel
theorem dL_law_507 : decode cL_law 507 = .ok (.iload 8, 2) := by decide +kernel
theorem dL_law_509 : decode cL_law 509 = .ok (.iload 5, 2) := by decide +kernel
theorem dL_law_511 : decode cL_law 511 = .ok (.bipush 8, 2) := by decide +kernel
theorem dL_law_513 : decode cL_law 513 = .ok (.ishr, 1) := by decide +kernel
theorem dL_law_514 : decode cL_law 514 = .ok (.bipush 60, 2) := by decide +kernel
theorem dL_law_516 : decode cL_law 516 = .ok (.invokestatic 121, 3) := by decide +kernel
theorem dL_law_519 : decode cL_law 519 = .ok (.bipush 10, 2) := by decide +kernel
theorem dL_law_521 : decode cL_law 521 = .ok (.isub, 1) := by decide +kernel
theorem dL_law_522 : decode cL_law 522 = .ok (.iload 5, 2) := by decide +kernel
theorem dL_law_524 : decode cL_law 524 = .ok (.bipush 14, 2) := by decide +kernel
theorem dL_law_526 : decode cL_law 526 = .ok (.ishr, 1) := by decide +kernel
theorem dL_law_527 : decode cL_law 527 = .ok (.bipush 20, 2) := by decide +kernel
theorem dL_law_529 : decode cL_law 529 = .ok (.invokestatic 121, 3) := by decide +kernel
theorem dL_law_532 : decode cL_law 532 = .ok (.iconst 5, 1) := by decide +kernel
theorem dL_law_533 : decode cL_law 533 = .ok (.isub, 1) := by decide +kernel
theorem dL_law_534 : decode cL_law 534 = .ok (.iload 10, 2) := by decide +kernel
theorem dL_law_536 : decode cL_law 536 = .ok (.invokestatic 144, 3) := by decide +kernel
theorem dL_law_539 : decode cL_law 539 = .ok (.iload 9, 2) := by decide +kernel
theorem dL_law_541 : decode cL_law 541 = .ok (.if_icmp .ne 46, 3) := by decide +kernel
theorem dL_law_544 : decode cL_law 544 = .ok (.aload_n 1, 1) := by decide +kernel
theorem dL_law_545 : decode cL_law 545 = .ok (.iload 8, 2) := by decide +kernel
theorem dL_law_547 : decode cL_law 547 = .ok (.iconst 3, 1) := by decide +kernel
theorem dL_law_548 : decode cL_law 548 = .ok (.invokestatic 110, 3) := by decide +kernel
theorem dL_law_551 : decode cL_law 551 = .ok (.iload 10, 2) := by decide +kernel
theorem dL_law_553 : decode cL_law 553 = .ok (.if_icmp .ne 34, 3) := by decide +kernel
theorem dL_law_556 : decode cL_law 556 = .ok (.iload 5, 2) := by decide +kernel
theorem dL_law_558 : decode cL_law 558 = .ok (.bipush 20, 2) := by decide +kernel
theorem dL_law_560 : decode cL_law 560 = .ok (.ishr, 1) := by decide +kernel
theorem dL_law_561 : decode cL_law 561 = .ok (.iconst 4, 1) := by decide +kernel
theorem dL_law_562 : decode cL_law 562 = .ok (.invokestatic 121, 3) := by decide +kernel
theorem dL_law_565 : decode cL_law 565 = .ok (.ifCond .ne 24, 3) := by decide +kernel
theorem dL_law_568 : decode cL_law 568 = .ok (.aload_n 1, 1) := by decide +kernel
theorem dL_law_569 : decode cL_law 569 = .ok (.invokestatic 170, 3) := by decide +kernel
theorem dL_law_572 : decode cL_law 572 = .ok (.ifCond .lt 15, 3) := by decide +kernel
theorem dL_law_575 : decode cL_law 575 = .ok (.aload_n 1, 1) := by decide +kernel
theorem dL_law_576 : decode cL_law 576 = .ok (.iload 8, 2) := by decide +kernel
theorem dL_law_578 : decode cL_law 578 = .ok (.iconst 3, 1) := by decide +kernel
theorem dL_law_579 : decode cL_law 579 = .ok (.invokestatic 110, 3) := by decide +kernel
theorem dL_law_582 : decode cL_law 582 = .ok (.iload 9, 2) := by decide +kernel
theorem dL_law_584 : decode cL_law 584 = .ok (.if_icmp .eq 5, 3) := by decide +kernel
theorem dL_law_587 : decode cL_law 587 = .ok (.iconst 0, 1) := by decide +kernel
theorem dL_law_588 : decode cL_law 588 = .ok (.ireturn, 1) := by decide +kernel
theorem dL_law_589 : decode cL_law 589 = .ok (.goto 792, 3) := by decide +kernel
theorem dL_law_592 : decode cL_law 592 = .ok (.iload 7, 2) := by decide +kernel
theorem dL_law_594 : decode cL_law 594 = .ok (.bipush 6, 2) := by decide +kernel
theorem dL_law_596 : decode cL_law 596 = .ok (.if_icmp .ne 84, 3) := by decide +kernel
theorem dL_law_599 : decode cL_law 599 = .ok (.iload 6, 2) := by decide +kernel
theorem dL_law_601 : decode cL_law 601 = .ok (.ifCond .le 79, 3) := by decide +kernel
theorem dL_law_604 : decode cL_law 604 = .ok (.aload_n 1, 1) := by decide +kernel
theorem dL_law_605 : decode cL_law 605 = .ok (.iload 8, 2) := by decide +kernel
theorem dL_law_607 : decode cL_law 607 = .ok (.bipush 11, 2) := by decide +kernel
theorem dL_law_609 : decode cL_law 609 = .ok (.invokestatic 110, 3) := by decide +kernel
theorem dL_law_612 : decode cL_law 612 = .ok (.istore 9, 2) := by decide +kernel
theorem dL_law_614 : decode cL_law 614 = .ok (.aload_n 1, 1) := by decide +kernel
theorem dL_law_615 : decode cL_law 615 = .ok (.iload 8, 2) := by decide +kernel
theorem dL_law_617 : decode cL_law 617 = .ok (.iload 5, 2) := by decide +kernel
theorem dL_law_619 : decode cL_law 619 = .ok (.bipush 16, 2) := by decide +kernel
theorem dL_law_621 : decode cL_law 621 = .ok (.invokestatic 121, 3) := by decide +kernel
theorem dL_law_624 : decode cL_law 624 = .ok (.invokestatic 146, 3) := by decide +kernel
theorem dL_law_627 : decode cL_law 627 = .ok (.istore 10, 2) := by decide +kernel
theorem dL_law_629 : decode cL_law 629 = .ok (.iload 10, 2) := by decide +kernel
theorem dL_law_631 : decode cL_law 631 = .ok (.iload 9, 2) := by decide +kernel
theorem dL_law_633 : decode cL_law 633 = .ok (.sipush (-1000), 3) := by decide +kernel
theorem dL_law_636 : decode cL_law 636 = .ok (.if_icmp .ne 8, 3) := by decide +kernel
theorem dL_law_639 : decode cL_law 639 = .ok (.ldc 17, 2) := by decide +kernel
theorem dL_law_641 : decode cL_law 641 = .ok (.goto 5, 3) := by decide +kernel
theorem dL_law_644 : decode cL_law 644 = .ok (.iload 9, 2) := by decide +kernel
theorem dL_law_646 : decode cL_law 646 = .ok (.if_icmp .ne 29, 3) := by decide +kernel
theorem dL_law_649 : decode cL_law 649 = .ok (.iload 9, 2) := by decide +kernel
theorem dL_law_651 : decode cL_law 651 = .ok (.sipush (-1000), 3) := by decide +kernel
theorem dL_law_654 : decode cL_law 654 = .ok (.if_icmp .eq 23, 3) := by decide +kernel
theorem dL_law_657 : decode cL_law 657 = .ok (.aload_n 1, 1) := by decide +kernel
theorem dL_law_658 : decode cL_law 658 = .ok (.iload 8, 2) := by decide +kernel
theorem dL_law_660 : decode cL_law 660 = .ok (.bipush 11, 2) := by decide +kernel
theorem dL_law_662 : decode cL_law 662 = .ok (.invokestatic 110, 3) := by decide +kernel
theorem dL_law_665 : decode cL_law 665 = .ok (.iload 5, 2) := by decide +kernel
theorem dL_law_667 : decode cL_law 667 = .ok (.bipush 16, 2) := by decide +kernel
theorem dL_law_669 : decode cL_law 669 = .ok (.invokestatic 121, 3) := by decide +kernel
theorem dL_law_672 : decode cL_law 672 = .ok (.if_icmp .eq 5, 3) := by decide +kernel
theorem dL_law_675 : decode cL_law 675 = .ok (.iconst 0, 1) := by decide +kernel
theorem dL_law_676 : decode cL_law 676 = .ok (.ireturn, 1) := by decide +kernel
theorem dL_law_677 : decode cL_law 677 = .ok (.goto 704, 3) := by decide +kernel
theorem dL_law_680 : decode cL_law 680 = .ok (.iload 7, 2) := by decide +kernel
theorem dL_law_682 : decode cL_law 682 = .ok (.bipush 7, 2) := by decide +kernel
theorem dL_law_684 : decode cL_law 684 = .ok (.if_icmp .ne 95, 3) := by decide +kernel
theorem dL_law_687 : decode cL_law 687 = .ok (.iload 6, 2) := by decide +kernel
theorem dL_law_689 : decode cL_law 689 = .ok (.ifCond .le 90, 3) := by decide +kernel
theorem dL_law_692 : decode cL_law 692 = .ok (.iload 5, 2) := by decide +kernel
theorem dL_law_694 : decode cL_law 694 = .ok (.iconst 3, 1) := by decide +kernel
theorem dL_law_695 : decode cL_law 695 = .ok (.invokestatic 121, 3) := by decide +kernel
theorem dL_law_698 : decode cL_law 698 = .ok (.ifCond .ne 81, 3) := by decide +kernel
theorem dL_law_701 : decode cL_law 701 = .ok (.aload_n 1, 1) := by decide +kernel
theorem dL_law_702 : decode cL_law 702 = .ok (.iload 8, 2) := by decide +kernel
theorem dL_law_704 : decode cL_law 704 = .ok (.bipush 8, 2) := by decide +kernel
theorem dL_law_706 : decode cL_law 706 = .ok (.invokestatic 110, 3) := by decide +kernel
theorem dL_law_709 : decode cL_law 709 = .ok (.istore 9, 2) := by decide +kernel
theorem dL_law_711 : decode cL_law 711 = .ok (.aload_n 1, 1) := by decide +kernel
theorem dL_law_712 : decode cL_law 712 = .ok (.iload 8, 2) := by decide +kernel
theorem dL_law_714 : decode cL_law 714 = .ok (.invokestatic 148, 3) := by decide +kernel
theorem dL_law_717 : decode cL_law 717 = .ok (.istore 10, 2) := by decide +kernel
theorem dL_law_719 : decode cL_law 719 = .ok (.iload 10, 2) := by decide +kernel
theorem dL_law_721 : decode cL_law 721 = .ok (.iload 6, 2) := by decide +kernel
theorem dL_law_723 : decode cL_law 723 = .ok (.iconst 1, 1) := by decide +kernel
theorem dL_law_724 : decode cL_law 724 = .ok (.isub, 1) := by decide +kernel
theorem dL_law_725 : decode cL_law 725 = .ok (.iload 9, 2) := by decide +kernel
theorem dL_law_727 : decode cL_law 727 = .ok (.isub, 1) := by decide +kernel
theorem dL_law_728 : decode cL_law 728 = .ok (.if_icmp .gt 46, 3) := by decide +kernel
theorem dL_law_731 : decode cL_law 731 = .ok (.iload 10, 2) := by decide +kernel
theorem dL_law_733 : decode cL_law 733 = .ok (.ifCond .lt 41, 3) := by decide +kernel
theorem dL_law_736 : decode cL_law 736 = .ok (.aload_n 1, 1) := by decide +kernel
theorem dL_law_737 : decode cL_law 737 = .ok (.iconst 2, 1) := by decide +kernel
theorem dL_law_738 : decode cL_law 738 = .ok (.invokestatic 105, 3) := by decide +kernel
theorem dL_law_741 : decode cL_law 741 = .ok (.iload 10, 2) := by decide +kernel
theorem dL_law_743 : decode cL_law 743 = .ok (.if_icmp .ne 31, 3) := by decide +kernel
theorem dL_law_746 : decode cL_law 746 = .ok (.iload 5, 2) := by decide +kernel
theorem dL_law_748 : decode cL_law 748 = .ok (.iconst 2, 1) := by decide +kernel
theorem dL_law_749 : decode cL_law 749 = .ok (.ishr, 1) := by decide +kernel
theorem dL_law_750 : decode cL_law 750 = .ok (.iconst 2, 1) := by decide +kernel
theorem dL_law_751 : decode cL_law 751 = .ok (.invokestatic 121, 3) := by decide +kernel
theorem dL_law_754 : decode cL_law 754 = .ok (.ifCond .ne 22, 3) := by decide +kernel
theorem dL_law_757 : decode cL_law 757 = .ok (.aload_n 1, 1) := by decide +kernel
theorem dL_law_758 : decode cL_law 758 = .ok (.invokestatic 170, 3) := by decide +kernel
theorem dL_law_761 : decode cL_law 761 = .ok (.ifCond .lt 13, 3) := by decide +kernel
theorem dL_law_764 : decode cL_law 764 = .ok (.aload_n 1, 1) := by decide +kernel
theorem dL_law_765 : decode cL_law 765 = .ok (.iconst 2, 1) := by decide +kernel
theorem dL_law_766 : decode cL_law 766 = .ok (.invokestatic 105, 3) := by decide +kernel
theorem dL_law_769 : decode cL_law 769 = .ok (.iload 6, 2) := by decide +kernel
theorem dL_law_771 : decode cL_law 771 = .ok (.if_icmp .eq 5, 3) := by decide +kernel
theorem dL_law_774 : decode cL_law 774 = .ok (.iconst 0, 1) := by decide +kernel
theorem dL_law_775 : decode cL_law 775 = .ok (.ireturn, 1) := by decide +kernel
theorem dL_law_776 : decode cL_law 776 = .ok (.goto 605, 3) := by decide +kernel
theorem dL_law_779 : decode cL_law 779 = .ok (.iload 7, 2) := by decide +kernel
theorem dL_law_781 : decode cL_law 781 = .ok (.bipush 8, 2) := by decide +kernel
theorem dL_law_783 : decode cL_law 783 = .ok (.if_icmp .ne 126, 3) := by decide +kernel
theorem dL_law_786 : decode cL_law 786 = .ok (.aload_n 1, 1) := by decide +kernel
theorem dL_law_787 : decode cL_law 787 = .ok (.iconst 4, 1) := by decide +kernel
theorem dL_law_788 : decode cL_law 788 = .ok (.invokestatic 105, 3) := by decide +kernel
theorem dL_law_791 : decode cL_law 791 = .ok (.istore 9, 2) := by decide +kernel
theorem dL_law_793 : decode cL_law 793 = .ok (.aload_n 1, 1) := by decide +kernel
theorem dL_law_794 : decode cL_law 794 = .ok (.iload 5, 2) := by decide +kernel
theorem dL_law_796 : decode cL_law 796 = .ok (.bipush 21, 2) := by decide +kernel
theorem dL_law_798 : decode cL_law 798 = .ok (.invokestatic 121, 3) := by decide +kernel
theorem dL_law_801 : decode cL_law 801 = .ok (.ineg, 1) := by decide +kernel
theorem dL_law_802 : decode cL_law 802 = .ok (.iload 5, 2) := by decide +kernel
theorem dL_law_804 : decode cL_law 804 = .ok (.iconst 5, 1) := by decide +kernel
theorem dL_law_805 : decode cL_law 805 = .ok (.ishr, 1) := by decide +kernel
theorem dL_law_806 : decode cL_law 806 = .ok (.bipush 21, 2) := by decide +kernel
theorem dL_law_808 : decode cL_law 808 = .ok (.invokestatic 121, 3) := by decide +kernel
theorem dL_law_811 : decode cL_law 811 = .ok (.iconst 1, 1) := by decide +kernel
theorem dL_law_812 : decode cL_law 812 = .ok (.iload 5, 2) := by decide +kernel
theorem dL_law_814 : decode cL_law 814 = .ok (.bipush 10, 2) := by decide +kernel
theorem dL_law_816 : decode cL_law 816 = .ok (.ishr, 1) := by decide +kernel
theorem dL_law_817 : decode cL_law 817 = .ok (.bipush 12, 2) := by decide +kernel
theorem dL_law_819 : decode cL_law 819 = .ok (.invokestatic 121, 3) := by decide +kernel
theorem dL_law_822 : decode cL_law 822 = .ok (.iadd, 1) := by decide +kernel
theorem dL_law_823 : decode cL_law 823 = .ok (.invokestatic 150, 3) := by decide +kernel
theorem dL_law_826 : decode cL_law 826 = .ok (.istore 10, 2) := by decide +kernel
theorem dL_law_828 : decode cL_law 828 = .ok (.iload 10, 2) := by decide +kernel
theorem dL_law_830 : decode cL_law 830 = .ok (.iload 9, 2) := by decide +kernel
theorem dL_law_832 : decode cL_law 832 = .ok (.bipush 8, 2) := by decide +kernel
theorem dL_law_834 : decode cL_law 834 = .ok (.if_icmp .ne 8, 3) := by decide +kernel
theorem dL_law_837 : decode cL_law 837 = .ok (.ldc 27, 2) := by decide +kernel
theorem dL_law_839 : decode cL_law 839 = .ok (.goto 5, 3) := by decide +kernel
theorem dL_law_842 : decode cL_law 842 = .ok (.iload 9, 2) := by decide +kernel
theorem dL_law_844 : decode cL_law 844 = .ok (.if_icmp .ne 60, 3) := by decide +kernel
theorem dL_law_847 : decode cL_law 847 = .ok (.iload 10, 2) := by decide +kernel
theorem dL_law_849 : decode cL_law 849 = .ok (.ifCond .lt 57, 3) := by decide +kernel
theorem dL_law_852 : decode cL_law 852 = .ok (.aload_n 1, 1) := by decide +kernel
theorem dL_law_853 : decode cL_law 853 = .ok (.iload 10, 2) := by decide +kernel
theorem dL_law_855 : decode cL_law 855 = .ok (.iconst 0, 1) := by decide +kernel
theorem dL_law_856 : decode cL_law 856 = .ok (.invokestatic 159, 3) := by decide +kernel
theorem dL_law_859 : decode cL_law 859 = .ok (.iload 5, 2) := by decide +kernel
theorem dL_law_861 : decode cL_law 861 = .ok (.bipush 21, 2) := by decide +kernel
theorem dL_law_863 : decode cL_law 863 = .ok (.invokestatic 121, 3) := by decide +kernel
theorem dL_law_866 : decode cL_law 866 = .ok (.ineg, 1) := by decide +kernel
theorem dL_law_867 : decode cL_law 867 = .ok (.if_icmp .ne 37, 3) := by decide +kernel
theorem dL_law_870 : decode cL_law 870 = .ok (.iload 10, 2) := by decide +kernel
theorem dL_law_872 : decode cL_law 872 = .ok (.ifCond .le 34, 3) := by decide +kernel
theorem dL_law_875 : decode cL_law 875 = .ok (.aload_n 1, 1) := by decide +kernel
theorem dL_law_876 : decode cL_law 876 = .ok (.iload 10, 2) := by decide +kernel
theorem dL_law_878 : decode cL_law 878 = .ok (.iconst 3, 1) := by decide +kernel
theorem dL_law_879 : decode cL_law 879 = .ok (.invokestatic 159, 3) := by decide +kernel
theorem dL_law_882 : decode cL_law 882 = .ok (.aload_n 1, 1) := by decide +kernel
theorem dL_law_883 : decode cL_law 883 = .ok (.iload 10, 2) := by decide +kernel
theorem dL_law_885 : decode cL_law 885 = .ok (.iconst 1, 1) := by decide +kernel
theorem dL_law_886 : decode cL_law 886 = .ok (.isub, 1) := by decide +kernel
theorem dL_law_887 : decode cL_law 887 = .ok (.iconst 3, 1) := by decide +kernel
theorem dL_law_888 : decode cL_law 888 = .ok (.invokestatic 159, 3) := by decide +kernel
theorem dL_law_891 : decode cL_law 891 = .ok (.aload_n 1, 1) := by decide +kernel
theorem dL_law_892 : decode cL_law 892 = .ok (.iload 10, 2) := by decide +kernel
theorem dL_law_894 : decode cL_law 894 = .ok (.iconst 1, 1) := by decide +kernel
theorem dL_law_895 : decode cL_law 895 = .ok (.isub, 1) := by decide +kernel
theorem dL_law_896 : decode cL_law 896 = .ok (.iconst 2, 1) := by decide +kernel
theorem dL_law_897 : decode cL_law 897 = .ok (.invokestatic 159, 3) := by decide +kernel
theorem dL_law_900 : decode cL_law 900 = .ok (.iadd, 1) := by decide +kernel
theorem dL_law_901 : decode cL_law 901 = .ok (.if_icmp .eq 5, 3) := by decide +kernel
theorem dL_law_904 : decode cL_law 904 = .ok (.iconst 0, 1) := by decide +kernel
theorem dL_law_905 : decode cL_law 905 = .ok (.ireturn, 1) := by decide +kernel
theorem dL_law_906 : decode cL_law 906 = .ok (.goto 475, 3) := by decide +kernel
theorem dL_law_909 : decode cL_law 909 = .ok (.iload 7, 2) := by decide +kernel
theorem dL_law_911 : decode cL_law 911 = .ok (.bipush 9, 2) := by decide +kernel
theorem dL_law_913 : decode cL_law 913 = .ok (.if_icmp .ne 130, 3) := by decide +kernel
theorem dL_law_916 : decode cL_law 916 = .ok (.iload 5, 2) := by decide +kernel
theorem dL_law_918 : decode cL_law 918 = .ok (.iconst 4, 1) := by decide +kernel
theorem dL_law_919 : decode cL_law 919 = .ok (.invokestatic 121, 3) := by decide +kernel
theorem dL_law_922 : decode cL_law 922 = .ok (.istore 9, 2) := by decide +kernel
theorem dL_law_924 : decode cL_law 924 = .ok (.iload 9, 2) := by decide +kernel
theorem dL_law_926 : decode cL_law 926 = .ok (.iconst 1, 1) := by decide +kernel
theorem dL_law_927 : decode cL_law 927 = .ok (.if_icmp .ne 16, 3) := by decide +kernel
theorem dL_law_930 : decode cL_law 930 = .ok (.iconst 1, 1) := by decide +kernel
theorem dL_law_931 : decode cL_law 931 = .ok (.iload 5, 2) := by decide +kernel
theorem dL_law_933 : decode cL_law 933 = .ok (.iconst 2, 1) := by decide +kernel
theorem dL_law_934 : decode cL_law 934 = .ok (.ishr, 1) := by decide +kernel
theorem dL_law_935 : decode cL_law 935 = .ok (.iconst 5, 1) := by decide +kernel
theorem dL_law_936 : decode cL_law 936 = .ok (.invokestatic 121, 3) := by decide +kernel
theorem dL_law_939 : decode cL_law 939 = .ok (.iadd, 1) := by decide +kernel
theorem dL_law_940 : decode cL_law 940 = .ok (.goto 30, 3) := by decide +kernel
theorem dL_law_943 : decode cL_law 943 = .ok (.iload 9, 2) := by decide +kernel
theorem dL_law_945 : decode cL_law 945 = .ok (.iconst 2, 1) := by decide +kernel
theorem dL_law_946 : decode cL_law 946 = .ok (.if_icmp .ne 15, 3) := by decide +kernel
theorem dL_law_949 : decode cL_law 949 = .ok (.iload 5, 2) := by decide +kernel
theorem dL_law_951 : decode cL_law 951 = .ok (.iconst 2, 1) := by decide +kernel
theorem dL_law_952 : decode cL_law 952 = .ok (.ishr, 1) := by decide +kernel
theorem dL_law_953 : decode cL_law 953 = .ok (.bipush 16, 2) := by decide +kernel
theorem dL_law_955 : decode cL_law 955 = .ok (.invokestatic 121, 3) := by decide +kernel
theorem dL_law_958 : decode cL_law 958 = .ok (.goto 12, 3) := by decide +kernel
theorem dL_law_961 : decode cL_law 961 = .ok (.iload 5, 2) := by decide +kernel
theorem dL_law_963 : decode cL_law 963 = .ok (.iconst 2, 1) := by decide +kernel
theorem dL_law_964 : decode cL_law 964 = .ok (.ishr, 1) := by decide +kernel
theorem dL_law_965 : decode cL_law 965 = .ok (.bipush 101, 2) := by decide +kernel
theorem dL_law_967 : decode cL_law 967 = .ok (.invokestatic 121, 3) := by decide +kernel
theorem dL_law_970 : decode cL_law 970 = .ok (.istore 10, 2) := by decide +kernel
theorem dL_law_972 : decode cL_law 972 = .ok (.aload_n 1, 1) := by decide +kernel
theorem dL_law_973 : decode cL_law 973 = .ok (.bipush 12, 2) := by decide +kernel
theorem dL_law_975 : decode cL_law 975 = .ok (.iload 9, 2) := by decide +kernel
theorem dL_law_977 : decode cL_law 977 = .ok (.iadd, 1) := by decide +kernel
theorem dL_law_978 : decode cL_law 978 = .ok (.invokestatic 105, 3) := by decide +kernel
theorem dL_law_981 : decode cL_law 981 = .ok (.istore 11, 2) := by decide +kernel
theorem dL_law_983 : decode cL_law 983 = .ok (.aload_n 1, 1) := by decide +kernel
theorem dL_law_984 : decode cL_law 984 = .ok (.iload 9, 2) := by decide +kernel
theorem dL_law_986 : decode cL_law 986 = .ok (.iload 10, 2) := by decide +kernel
theorem dL_law_988 : decode cL_law 988 = .ok (.invokestatic 153, 3) := by decide +kernel
theorem dL_law_991 : decode cL_law 991 = .ok (.iload 11, 2) := by decide +kernel
theorem dL_law_993 : decode cL_law 993 = .ok (.if_icmp .ne 45, 3) := by decide +kernel
theorem dL_law_996 : decode cL_law 996 = .ok (.aload_n 1, 1) := by decide +kernel
theorem dL_law_997 : decode cL_law 997 = .ok (.bipush 12, 2) := by decide +kernel
theorem dL_law_999 : decode cL_law 999 = .ok (.iload 9, 2) := by decide +kernel
theorem dL_law_1001 : decode cL_law 1001 = .ok (.iadd, 1) := by decide +kernel
theorem dL_law_1002 : decode cL_law 1002 = .ok (.invokestatic 105, 3) := by decide +kernel
theorem dL_law_1005 : decode cL_law 1005 = .ok (.iload 10, 2) := by decide +kernel
theorem dL_law_1007 : decode cL_law 1007 = .ok (.if_icmp .ne 31, 3) := by decide +kernel
theorem dL_law_1010 : decode cL_law 1010 = .ok (.iload 9, 2) := by decide +kernel
theorem dL_law_1012 : decode cL_law 1012 = .ok (.ifCond .ne 28, 3) := by decide +kernel
theorem dL_law_1015 : decode cL_law 1015 = .ok (.iload 5, 2) := by decide +kernel
theorem dL_law_1017 : decode cL_law 1017 = .ok (.bipush 9, 2) := by decide +kernel
theorem dL_law_1019 : decode cL_law 1019 = .ok (.ishr, 1) := by decide +kernel
theorem dL_law_1020 : decode cL_law 1020 = .ok (.iconst 3, 1) := by decide +kernel
theorem dL_law_1021 : decode cL_law 1021 = .ok (.invokestatic 121, 3) := by decide +kernel
theorem dL_law_1024 : decode cL_law 1024 = .ok (.ifCond .ne 16, 3) := by decide +kernel
theorem dL_law_1027 : decode cL_law 1027 = .ok (.aload_n 1, 1) := by decide +kernel
theorem dL_law_1028 : decode cL_law 1028 = .ok (.iconst 0, 1) := by decide +kernel
theorem dL_law_1029 : decode cL_law 1029 = .ok (.iconst 0, 1) := by decide +kernel
theorem dL_law_1030 : decode cL_law 1030 = .ok (.invokestatic 153, 3) := by decide +kernel
theorem dL_law_1033 : decode cL_law 1033 = .ok (.iload 10, 2) := by decide +kernel
theorem dL_law_1035 : decode cL_law 1035 = .ok (.if_icmp .eq 5, 3) := by decide +kernel
theorem dL_law_1038 : decode cL_law 1038 = .ok (.iconst 0, 1) := by decide +kernel
theorem dL_law_1039 : decode cL_law 1039 = .ok (.ireturn, 1) := by decide +kernel
theorem dL_law_1040 : decode cL_law 1040 = .ok (.goto 341, 3) := by decide +kernel
theorem dL_law_1043 : decode cL_law 1043 = .ok (.iload 7, 2) := by decide +kernel
theorem dL_law_1045 : decode cL_law 1045 = .ok (.bipush 12, 2) := by decide +kernel
theorem dL_law_1047 : decode cL_law 1047 = .ok (.if_icmp .ge 146, 3) := by decide +kernel
theorem dL_law_1050 : decode cL_law 1050 = .ok (.aload_n 1, 1) := by decide +kernel
theorem dL_law_1051 : decode cL_law 1051 = .ok (.iconst 2, 1) := by decide +kernel
theorem dL_law_1052 : decode cL_law 1052 = .ok (.invokestatic 119, 3) := by decide +kernel
theorem dL_law_1055 : decode cL_law 1055 = .ok (.istore 9, 2) := by decide +kernel
theorem dL_law_1057 : decode cL_law 1057 = .ok (.iload 5, 2) := by decide +kernel
theorem dL_law_1059 : decode cL_law 1059 = .ok (.aload_n 1, 1) := by decide +kernel
theorem dL_law_1060 : decode cL_law 1060 = .ok (.iconst 0, 1) := by decide +kernel
theorem dL_law_1061 : decode cL_law 1061 = .ok (.invokestatic 105, 3) := by decide +kernel
theorem dL_law_1064 : decode cL_law 1064 = .ok (.invokestatic 121, 3) := by decide +kernel
theorem dL_law_1067 : decode cL_law 1067 = .ok (.istore 10, 2) := by decide +kernel
theorem dL_law_1069 : decode cL_law 1069 = .ok (.iload 5, 2) := by decide +kernel
theorem dL_law_1071 : decode cL_law 1071 = .ok (.bipush 8, 2) := by decide +kernel
theorem dL_law_1073 : decode cL_law 1073 = .ok (.ishr, 1) := by decide +kernel
theorem dL_law_1074 : decode cL_law 1074 = .ok (.bipush 6, 2) := by decide +kernel
theorem dL_law_1076 : decode cL_law 1076 = .ok (.invokestatic 121, 3) := by decide +kernel
theorem dL_law_1079 : decode cL_law 1079 = .ok (.ifCond .ne 10, 3) := by decide +kernel
theorem dL_law_1082 : decode cL_law 1082 = .ok (.aload_n 1, 1) := by decide +kernel
theorem dL_law_1083 : decode cL_law 1083 = .ok (.invokevirtual 186, 3) := by decide +kernel
theorem dL_law_1086 : decode cL_law 1086 = .ok (.goto 34, 3) := by decide +kernel
theorem dL_law_1089 : decode cL_law 1089 = .ok (.aload_n 1, 1) := by decide +kernel
theorem dL_law_1090 : decode cL_law 1090 = .ok (.iload 10, 2) := by decide +kernel
theorem dL_law_1092 : decode cL_law 1092 = .ok (.iload 5, 2) := by decide +kernel
theorem dL_law_1094 : decode cL_law 1094 = .ok (.bipush 11, 2) := by decide +kernel
theorem dL_law_1096 : decode cL_law 1096 = .ok (.ishr, 1) := by decide +kernel
theorem dL_law_1097 : decode cL_law 1097 = .ok (.aload_n 1, 1) := by decide +kernel
theorem dL_law_1098 : decode cL_law 1098 = .ok (.iconst 1, 1) := by decide +kernel
theorem dL_law_1099 : decode cL_law 1099 = .ok (.invokestatic 105, 3) := by decide +kernel
theorem dL_law_1102 : decode cL_law 1102 = .ok (.invokestatic 121, 3) := by decide +kernel
theorem dL_law_1105 : decode cL_law 1105 = .ok (.iconst 1, 1) := by decide +kernel
theorem dL_law_1106 : decode cL_law 1106 = .ok (.iload 5, 2) := by decide +kernel
theorem dL_law_1108 : decode cL_law 1108 = .ok (.bipush 16, 2) := by decide +kernel
theorem dL_law_1110 : decode cL_law 1110 = .ok (.ishr, 1) := by decide +kernel
theorem dL_law_1111 : decode cL_law 1111 = .ok (.bipush 14, 2) := by decide +kernel
theorem dL_law_1113 : decode cL_law 1113 = .ok (.invokestatic 121, 3) := by decide +kernel
theorem dL_law_1116 : decode cL_law 1116 = .ok (.iadd, 1) := by decide +kernel
theorem dL_law_1117 : decode cL_law 1117 = .ok (.invokestatic 155, 3) := by decide +kernel
theorem dL_law_1120 : decode cL_law 1120 = .ok (.istore 11, 2) := by decide +kernel
theorem dL_law_1122 : decode cL_law 1122 = .ok (.iload 11, 2) := by decide +kernel
theorem dL_law_1124 : decode cL_law 1124 = .ok (.iload 9, 2) := by decide +kernel
theorem dL_law_1126 : decode cL_law 1126 = .ok (.sipush (-1000), 3) := by decide +kernel
theorem dL_law_1129 : decode cL_law 1129 = .ok (.if_icmp .ne 7, 3) := by decide +kernel
theorem dL_law_1132 : decode cL_law 1132 = .ok (.iconst 0, 1) := by decide +kernel
theorem dL_law_1133 : decode cL_law 1133 = .ok (.goto 5, 3) := by decide +kernel
theorem dL_law_1136 : decode cL_law 1136 = .ok (.iload 9, 2) := by decide +kernel
theorem dL_law_1138 : decode cL_law 1138 = .ok (.if_icmp .ne 50, 3) := by decide +kernel
theorem dL_law_1141 : decode cL_law 1141 = .ok (.iload 5, 2) := by decide +kernel
theorem dL_law_1143 : decode cL_law 1143 = .ok (.bipush 8, 2) := by decide +kernel
theorem dL_law_1145 : decode cL_law 1145 = .ok (.ishr, 1) := by decide +kernel
theorem dL_law_1146 : decode cL_law 1146 = .ok (.bipush 6, 2) := by decide +kernel
theorem dL_law_1148 : decode cL_law 1148 = .ok (.invokestatic 121, 3) := by decide +kernel
theorem dL_law_1151 : decode cL_law 1151 = .ok (.ifCond .le 13, 3) := by decide +kernel
theorem dL_law_1154 : decode cL_law 1154 = .ok (.aload_n 1, 1) := by decide +kernel
theorem dL_law_1155 : decode cL_law 1155 = .ok (.iconst 0, 1) := by decide +kernel
theorem dL_law_1156 : decode cL_law 1156 = .ok (.invokestatic 119, 3) := by decide +kernel
theorem dL_law_1159 : decode cL_law 1159 = .ok (.iload 10, 2) := by decide +kernel
theorem dL_law_1161 : decode cL_law 1161 = .ok (.if_icmp .ne 27, 3) := by decide +kernel
theorem dL_law_1164 : decode cL_law 1164 = .ok (.iload 5, 2) := by decide +kernel
theorem dL_law_1166 : decode cL_law 1166 = .ok (.bipush 8, 2) := by decide +kernel
theorem dL_law_1168 : decode cL_law 1168 = .ok (.ishr, 1) := by decide +kernel
theorem dL_law_1169 : decode cL_law 1169 = .ok (.bipush 6, 2) := by decide +kernel
theorem dL_law_1171 : decode cL_law 1171 = .ok (.invokestatic 121, 3) := by decide +kernel
theorem dL_law_1174 : decode cL_law 1174 = .ok (.ifCond .ne 16, 3) := by decide +kernel
theorem dL_law_1177 : decode cL_law 1177 = .ok (.aload_n 1, 1) := by decide +kernel
theorem dL_law_1178 : decode cL_law 1178 = .ok (.iconst 0, 1) := by decide +kernel
theorem dL_law_1179 : decode cL_law 1179 = .ok (.invokestatic 119, 3) := by decide +kernel
theorem dL_law_1182 : decode cL_law 1182 = .ok (.sipush (-1000), 3) := by decide +kernel
theorem dL_law_1185 : decode cL_law 1185 = .ok (.if_icmp .eq 5, 3) := by decide +kernel
theorem dL_law_1188 : decode cL_law 1188 = .ok (.iconst 0, 1) := by decide +kernel
theorem dL_law_1189 : decode cL_law 1189 = .ok (.ireturn, 1) := by decide +kernel
theorem dL_law_1190 : decode cL_law 1190 = .ok (.goto 191, 3) := by decide +kernel
theorem dL_law_1193 : decode cL_law 1193 = .ok (.iload 7, 2) := by decide +kernel
theorem dL_law_1195 : decode cL_law 1195 = .ok (.bipush 15, 2) := by decide +kernel
theorem dL_law_1197 : decode cL_law 1197 = .ok (.if_icmp .ge 184, 3) := by decide +kernel
theorem dL_law_1200 : decode cL_law 1200 = .ok (.iconst 1, 1) := by decide +kernel
theorem dL_law_1201 : decode cL_law 1201 = .ok (.iload 5, 2) := by decide +kernel
theorem dL_law_1203 : decode cL_law 1203 = .ok (.bipush 12, 2) := by decide +kernel
theorem dL_law_1205 : decode cL_law 1205 = .ok (.invokestatic 121, 3) := by decide +kernel
theorem dL_law_1208 : decode cL_law 1208 = .ok (.iadd, 1) := by decide +kernel
theorem dL_law_1209 : decode cL_law 1209 = .ok (.istore 9, 2) := by decide +kernel
theorem dL_law_1211 : decode cL_law 1211 = .ok (.aload_n 1, 1) := by decide +kernel
theorem dL_law_1212 : decode cL_law 1212 = .ok (.iconst 5, 1) := by decide +kernel
theorem dL_law_1213 : decode cL_law 1213 = .ok (.invokestatic 105, 3) := by decide +kernel
theorem dL_law_1216 : decode cL_law 1216 = .ok (.istore 10, 2) := by decide +kernel
theorem dL_law_1218 : decode cL_law 1218 = .ok (.aload_n 1, 1) := by decide +kernel
theorem dL_law_1219 : decode cL_law 1219 = .ok (.bipush 7, 2) := by decide +kernel
theorem dL_law_1221 : decode cL_law 1221 = .ok (.invokestatic 105, 3) := by decide +kernel
theorem dL_law_1224 : decode cL_law 1224 = .ok (.istore 11, 2) := by decide +kernel
theorem dL_law_1226 : decode cL_law 1226 = .ok (.aload_n 1, 1) := by decide +kernel
theorem dL_law_1227 : decode cL_law 1227 = .ok (.bipush 8, 2) := by decide +kernel
theorem dL_law_1229 : decode cL_law 1229 = .ok (.invokestatic 105, 3) := by decide +kernel
theorem dL_law_1232 : decode cL_law 1232 = .ok (.istore 12, 2) := by decide +kernel
theorem dL_law_1234 : decode cL_law 1234 = .ok (.aload_n 1, 1) := by decide +kernel
theorem dL_law_1235 : decode cL_law 1235 = .ok (.iload 9, 2) := by decide +kernel
theorem dL_law_1237 : decode cL_law 1237 = .ok (.invokestatic 117, 3) := by decide +kernel
theorem dL_law_1240 : decode cL_law 1240 = .ok (.istore 13, 2) := by decide +kernel
theorem dL_law_1242 : decode cL_law 1242 = .ok (.iload 9, 2) := by decide +kernel
theorem dL_law_1244 : decode cL_law 1244 = .ok (.aload_n 1, 1) := by decide +kernel
theorem dL_law_1245 : decode cL_law 1245 = .ok (.bipush 13, 2) := by decide +kernel
theorem dL_law_1247 : decode cL_law 1247 = .ok (.invokestatic 105, 3) := by decide +kernel
theorem dL_law_1250 : decode cL_law 1250 = .ok (.imul, 1) := by decide +kernel
theorem dL_law_1251 : decode cL_law 1251 = .ok (.istore 14, 2) := by decide +kernel
theorem dL_law_1253 : decode cL_law 1253 = .ok (.aload_n 1, 1) := by decide +kernel
theorem dL_law_1254 : decode cL_law 1254 = .ok (.iload 9, 2) := by decide +kernel
theorem dL_law_1256 : decode cL_law 1256 = .ok (.invokestatic 157, 3) := by decide +kernel
theorem dL_law_1259 : decode cL_law 1259 = .ok (.iload 10, 2) := by decide +kernel
theorem dL_law_1261 : decode cL_law 1261 = .ok (.iload 9, 2) := by decide +kernel
theorem dL_law_1263 : decode cL_law 1263 = .ok (.iadd, 1) := by decide +kernel
theorem dL_law_1264 : decode cL_law 1264 = .ok (.if_icmp .ne 115, 3) := by decide +kernel
theorem dL_law_1267 : decode cL_law 1267 = .ok (.aload_n 1, 1) := by decide +kernel
theorem dL_law_1268 : decode cL_law 1268 = .ok (.bipush 7, 2) := by decide +kernel
theorem dL_law_1270 : decode cL_law 1270 = .ok (.invokestatic 105, 3) := by decide +kernel
theorem dL_law_1273 : decode cL_law 1273 = .ok (.iload 11, 2) := by decide +kernel
theorem dL_law_1275 : decode cL_law 1275 = .ok (.iload 14, 2) := by decide +kernel
theorem dL_law_1277 : decode cL_law 1277 = .ok (.iadd, 1) := by decide +kernel
theorem dL_law_1278 : decode cL_law 1278 = .ok (.if_icmp .gt 101, 3) := by decide +kernel
theorem dL_law_1281 : decode cL_law 1281 = .ok (.aload_n 1, 1) := by decide +kernel
theorem dL_law_1282 : decode cL_law 1282 = .ok (.bipush 7, 2) := by decide +kernel
theorem dL_law_1284 : decode cL_law 1284 = .ok (.invokestatic 105, 3) := by decide +kernel
theorem dL_law_1287 : decode cL_law 1287 = .ok (.iload 11, 2) := by decide +kernel
theorem dL_law_1289 : decode cL_law 1289 = .ok (.iload 14, 2) := by decide +kernel
theorem dL_law_1291 : decode cL_law 1291 = .ok (.isub, 1) := by decide +kernel
theorem dL_law_1292 : decode cL_law 1292 = .ok (.if_icmp .lt 87, 3) := by decide +kernel
theorem dL_law_1295 : decode cL_law 1295 = .ok (.aload_n 1, 1) := by decide +kernel
theorem dL_law_1296 : decode cL_law 1296 = .ok (.bipush 8, 2) := by decide +kernel
theorem dL_law_1298 : decode cL_law 1298 = .ok (.invokestatic 105, 3) := by decide +kernel
theorem dL_law_1301 : decode cL_law 1301 = .ok (.iload 12, 2) := by decide +kernel
theorem dL_law_1303 : decode cL_law 1303 = .ok (.iload 14, 2) := by decide +kernel
theorem dL_law_1305 : decode cL_law 1305 = .ok (.iadd, 1) := by decide +kernel
theorem dL_law_1306 : decode cL_law 1306 = .ok (.if_icmp .gt 73, 3) := by decide +kernel
theorem dL_law_1309 : decode cL_law 1309 = .ok (.aload_n 1, 1) := by decide +kernel
theorem dL_law_1310 : decode cL_law 1310 = .ok (.bipush 8, 2) := by decide +kernel
theorem dL_law_1312 : decode cL_law 1312 = .ok (.invokestatic 105, 3) := by decide +kernel
theorem dL_law_1315 : decode cL_law 1315 = .ok (.iload 12, 2) := by decide +kernel
theorem dL_law_1317 : decode cL_law 1317 = .ok (.iload 14, 2) := by decide +kernel
theorem dL_law_1319 : decode cL_law 1319 = .ok (.isub, 1) := by decide +kernel
theorem dL_law_1320 : decode cL_law 1320 = .ok (.if_icmp .lt 59, 3) := by decide +kernel
theorem dL_law_1323 : decode cL_law 1323 = .ok (.aload_n 1, 1) := by decide +kernel
theorem dL_law_1324 : decode cL_law 1324 = .ok (.iconst 4, 1) := by decide +kernel
theorem dL_law_1325 : decode cL_law 1325 = .ok (.invokestatic 105, 3) := by decide +kernel
theorem dL_law_1328 : decode cL_law 1328 = .ok (.ifCond .ne 26, 3) := by decide +kernel
theorem dL_law_1331 : decode cL_law 1331 = .ok (.aload_n 1, 1) := by decide +kernel
theorem dL_law_1332 : decode cL_law 1332 = .ok (.bipush 7, 2) := by decide +kernel
theorem dL_law_1334 : decode cL_law 1334 = .ok (.invokestatic 105, 3) := by decide +kernel
theorem dL_law_1337 : decode cL_law 1337 = .ok (.iload 11, 2) := by decide +kernel
theorem dL_law_1339 : decode cL_law 1339 = .ok (.if_icmp .ne 40, 3) := by decide +kernel
theorem dL_law_1342 : decode cL_law 1342 = .ok (.aload_n 1, 1) := by decide +kernel
theorem dL_law_1343 : decode cL_law 1343 = .ok (.bipush 6, 2) := by decide +kernel
theorem dL_law_1345 : decode cL_law 1345 = .ok (.invokestatic 105, 3) := by decide +kernel
theorem dL_law_1348 : decode cL_law 1348 = .ok (.sipush (-1000), 3) := by decide +kernel
theorem dL_law_1351 : decode cL_law 1351 = .ok (.if_icmp .ne 28, 3) := by decide +kernel
theorem dL_law_1354 : decode cL_law 1354 = .ok (.iload 13, 2) := by decide +kernel
theorem dL_law_1356 : decode cL_law 1356 = .ok (.iload 9, 2) := by decide +kernel
theorem dL_law_1358 : decode cL_law 1358 = .ok (.if_icmp .ne 14, 3) := by decide +kernel
theorem dL_law_1361 : decode cL_law 1361 = .ok (.aload_n 1, 1) := by decide +kernel
theorem dL_law_1362 : decode cL_law 1362 = .ok (.bipush 9, 2) := by decide +kernel
theorem dL_law_1364 : decode cL_law 1364 = .ok (.invokestatic 105, 3) := by decide +kernel
theorem dL_law_1367 : decode cL_law 1367 = .ok (.bipush 100, 2) := by decide +kernel
theorem dL_law_1369 : decode cL_law 1369 = .ok (.if_icmp .ne 10, 3) := by decide +kernel
theorem dL_law_1372 : decode cL_law 1372 = .ok (.iload 13, 2) := by decide +kernel
theorem dL_law_1374 : decode cL_law 1374 = .ok (.iload 9, 2) := by decide +kernel
theorem dL_law_1376 : decode cL_law 1376 = .ok (.if_icmp .le 5, 3) := by decide +kernel
theorem dL_law_1379 : decode cL_law 1379 = .ok (.iconst 0, 1) := by decide +kernel
theorem dL_law_1380 : decode cL_law 1380 = .ok (.ireturn, 1) := by decide +kernel
theorem dL_law_1381 : decode cL_law 1381 = .ok (.aload_n 1, 1) := by decide +kernel
theorem dL_law_1382 : decode cL_law 1382 = .ok (.invokestatic 173, 3) := by decide +kernel
theorem dL_law_1385 : decode cL_law 1385 = .ok (.ifCond .eq 28, 3) := by decide +kernel
theorem dL_law_1388 : decode cL_law 1388 = .ok (.aload_n 1, 1) := by decide +kernel
theorem dL_law_1389 : decode cL_law 1389 = .ok (.invokestatic 176, 3) := by decide +kernel
theorem dL_law_1392 : decode cL_law 1392 = .ok (.ifCond .eq 21, 3) := by decide +kernel
theorem dL_law_1395 : decode cL_law 1395 = .ok (.iload_n 3, 1) := by decide +kernel
theorem dL_law_1396 : decode cL_law 1396 = .ok (.iconst 5, 1) := by decide +kernel
theorem dL_law_1397 : decode cL_law 1397 = .ok (.irem, 1) := by decide +kernel
theorem dL_law_1398 : decode cL_law 1398 = .ok (.iconst 4, 1) := by decide +kernel
theorem dL_law_1399 : decode cL_law 1399 = .ok (.if_icmp .ne 16, 3) := by decide +kernel
theorem dL_law_1402 : decode cL_law 1402 = .ok (.aload_n 1, 1) := by decide +kernel
theorem dL_law_1403 : decode cL_law 1403 = .ok (.iload 5, 2) := by decide +kernel
theorem dL_law_1405 : decode cL_law 1405 = .ok (.iconst 4, 1) := by decide +kernel
theorem dL_law_1406 : decode cL_law 1406 = .ok (.ishr, 1) := by decide +kernel
theorem dL_law_1407 : decode cL_law 1407 = .ok (.invokestatic 189, 3) := by decide +kernel
theorem dL_law_1410 : decode cL_law 1410 = .ok (.ifCond .ne 5, 3) := by decide +kernel
theorem dL_law_1413 : decode cL_law 1413 = .ok (.iconst 0, 1) := by decide +kernel
theorem dL_law_1414 : decode cL_law 1414 = .ok (.ireturn, 1) := by decide +kernel
theorem dL_law_1415 : decode cL_law 1415 = .ok (.iinc 3 1, 3) := by decide +kernel
theorem dL_law_1418 : decode cL_law 1418 = .ok (.goto (-1326), 3) := by decide +kernel
theorem dL_law_1421 : decode cL_law 1421 = .ok (.aload_n 1, 1) := by decide +kernel
theorem dL_law_1422 : decode cL_law 1422 = .ok (.invokestatic 166, 3) := by decide +kernel
theorem dL_law_1425 : decode cL_law 1425 = .ok (.ifCond .eq 51, 3) := by decide +kernel
theorem dL_law_1428 : decode cL_law 1428 = .ok (.aload_n 1, 1) := by decide +kernel
theorem dL_law_1429 : decode cL_law 1429 = .ok (.iconst 0, 1) := by decide +kernel
theorem dL_law_1430 : decode cL_law 1430 = .ok (.iconst 0, 1) := by decide +kernel
theorem dL_law_1431 : decode cL_law 1431 = .ok (.invokestatic 153, 3) := by decide +kernel
theorem dL_law_1434 : decode cL_law 1434 = .ok (.ifCond .lt 42, 3) := by decide +kernel
theorem dL_law_1437 : decode cL_law 1437 = .ok (.aload_n 1, 1) := by decide +kernel
theorem dL_law_1438 : decode cL_law 1438 = .ok (.invokevirtual 186, 3) := by decide +kernel
theorem dL_law_1441 : decode cL_law 1441 = .ok (.ifCond .lt 35, 3) := by decide +kernel
theorem dL_law_1444 : decode cL_law 1444 = .ok (.aload_n 1, 1) := by decide +kernel
theorem dL_law_1445 : decode cL_law 1445 = .ok (.bipush 9, 2) := by decide +kernel
theorem dL_law_1447 : decode cL_law 1447 = .ok (.invokestatic 105, 3) := by decide +kernel
theorem dL_law_1450 : decode cL_law 1450 = .ok (.bipush 100, 2) := by decide +kernel
theorem dL_law_1452 : decode cL_law 1452 = .ok (.if_icmp .ne 24, 3) := by decide +kernel
theorem dL_law_1455 : decode cL_law 1455 = .ok (.aload_n 1, 1) := by decide +kernel
theorem dL_law_1456 : decode cL_law 1456 = .ok (.iconst 1, 1) := by decide +kernel
theorem dL_law_1457 : decode cL_law 1457 = .ok (.invokestatic 131, 3) := by decide +kernel
theorem dL_law_1460 : decode cL_law 1460 = .ok (.ifCond .ne 16, 3) := by decide +kernel
theorem dL_law_1463 : decode cL_law 1463 = .ok (.aload_n 1, 1) := by decide +kernel
theorem dL_law_1464 : decode cL_law 1464 = .ok (.bipush 10, 2) := by decide +kernel
theorem dL_law_1466 : decode cL_law 1466 = .ok (.invokestatic 105, 3) := by decide +kernel
theorem dL_law_1469 : decode cL_law 1469 = .ok (.ifCond .ne 7, 3) := by decide +kernel
theorem dL_law_1472 : decode cL_law 1472 = .ok (.iconst 1, 1) := by decide +kernel
theorem dL_law_1473 : decode cL_law 1473 = .ok (.goto 4, 3) := by decide +kernel
theorem dL_law_1476 : decode cL_law 1476 = .ok (.iconst 0, 1) := by decide +kernel
theorem dL_law_1477 : decode cL_law 1477 = .ok (.ireturn, 1) := by decide +kernel
